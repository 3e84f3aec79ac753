section
-- ===== PART A: goes FIRST, ahead of the names: the tables' words, and 'selects' of the private methods out of them =====
/-- a private method of a class that the tables say can be made, by its rows of tables_1 -/
def lw_okq (q : MethodName × Nat) : Prop := (q.1.cls ≠ "java/lang/invoke/MethodHandle" ∧ q.1.cls ≠ "java/lang/invoke/VarHandle") ∧ Cond.instantiable q.1.cls q.2 ∈ tables_1 ∧ Cond.privateMethod q.1 ∈ tables_1 ∧ Cond.instanceMethod q.1 ∈ tables_1
theorem lw_p0 : lw_okq (⟨"RepairSender", "startBlock", "(II)V"⟩, 13) := ⟨⟨by decide +kernel, by decide +kernel⟩, List.mem_of_getElem? (i := 15) (by decide +kernel), List.mem_of_getElem? (i := 61) (by decide +kernel), List.mem_of_getElem? (i := 62) (by decide +kernel)⟩
theorem lw_p1 : lw_okq (⟨"RepairSender$Points", "clear", "()V"⟩, 3) := ⟨⟨by decide +kernel, by decide +kernel⟩, List.mem_of_getElem? (i := 23) (by decide +kernel), List.mem_of_getElem? (i := 65) (by decide +kernel), List.mem_of_getElem? (i := 66) (by decide +kernel)⟩
theorem lw_p2 : lw_okq (⟨"RepairSender$Points", "add", "(II)V"⟩, 3) := ⟨⟨by decide +kernel, by decide +kernel⟩, List.mem_of_getElem? (i := 23) (by decide +kernel), List.mem_of_getElem? (i := 69) (by decide +kernel), List.mem_of_getElem? (i := 70) (by decide +kernel)⟩
theorem lw_p3 : lw_okq (⟨"java/lang/Throwable", "fillInStackTrace", "(I)Ljava/lang/Throwable;"⟩, 6) := ⟨⟨by decide +kernel, by decide +kernel⟩, List.mem_of_getElem? (i := 175) (by decide +kernel), List.mem_of_getElem? (i := 173) (by decide +kernel), List.mem_of_getElem? (i := 174) (by decide +kernel)⟩
theorem lw_p4 : lw_okq (⟨"RepairSender", "demandPlace", "(I)V"⟩, 13) := ⟨⟨by decide +kernel, by decide +kernel⟩, List.mem_of_getElem? (i := 15) (by decide +kernel), List.mem_of_getElem? (i := 215) (by decide +kernel), List.mem_of_getElem? (i := 216) (by decide +kernel)⟩
theorem lw_p5 : lw_okq (⟨"RepairSender", "demandReceiver", "(I)V"⟩, 13) := ⟨⟨by decide +kernel, by decide +kernel⟩, List.mem_of_getElem? (i := 15) (by decide +kernel), List.mem_of_getElem? (i := 278) (by decide +kernel), List.mem_of_getElem? (i := 279) (by decide +kernel)⟩
theorem lw_p6 : lw_okq (⟨"RepairSender", "sendPackets", "(I)V"⟩, 13) := ⟨⟨by decide +kernel, by decide +kernel⟩, List.mem_of_getElem? (i := 15) (by decide +kernel), List.mem_of_getElem? (i := 299) (by decide +kernel), List.mem_of_getElem? (i := 300) (by decide +kernel)⟩
theorem lw_p7 : lw_okq (⟨"RepairSender", "sendNextPacket", "()V"⟩, 13) := ⟨⟨by decide +kernel, by decide +kernel⟩, List.mem_of_getElem? (i := 15) (by decide +kernel), List.mem_of_getElem? (i := 303) (by decide +kernel), List.mem_of_getElem? (i := 304) (by decide +kernel)⟩
theorem lw_p8 : lw_okq (⟨"RepairSender", "completeCount", "()I"⟩, 13) := ⟨⟨by decide +kernel, by decide +kernel⟩, List.mem_of_getElem? (i := 15) (by decide +kernel), List.mem_of_getElem? (i := 307) (by decide +kernel), List.mem_of_getElem? (i := 308) (by decide +kernel)⟩
theorem lw_p9 : lw_okq (⟨"RepairSender", "needOf", "(I)I"⟩, 13) := ⟨⟨by decide +kernel, by decide +kernel⟩, List.mem_of_getElem? (i := 15) (by decide +kernel), List.mem_of_getElem? (i := 311) (by decide +kernel), List.mem_of_getElem? (i := 312) (by decide +kernel)⟩
theorem lw_p10 : lw_okq (⟨"RepairSender", "hearReports", "()I"⟩, 13) := ⟨⟨by decide +kernel, by decide +kernel⟩, List.mem_of_getElem? (i := 15) (by decide +kernel), List.mem_of_getElem? (i := 332) (by decide +kernel), List.mem_of_getElem? (i := 333) (by decide +kernel)⟩
theorem lw_p11 : lw_okq (⟨"RepairSender", "hearReportsAt", "(II)I"⟩, 13) := ⟨⟨by decide +kernel, by decide +kernel⟩, List.mem_of_getElem? (i := 15) (by decide +kernel), List.mem_of_getElem? (i := 336) (by decide +kernel), List.mem_of_getElem? (i := 337) (by decide +kernel)⟩
theorem lw_p12 : lw_okq (⟨"RepairSender", "isLiveAndLacks", "(I)Z"⟩, 13) := ⟨⟨by decide +kernel, by decide +kernel⟩, List.mem_of_getElem? (i := 15) (by decide +kernel), List.mem_of_getElem? (i := 340) (by decide +kernel), List.mem_of_getElem? (i := 341) (by decide +kernel)⟩
theorem lw_p13 : lw_okq (⟨"RepairSender", "countBadRounds", "()V"⟩, 13) := ⟨⟨by decide +kernel, by decide +kernel⟩, List.mem_of_getElem? (i := 15) (by decide +kernel), List.mem_of_getElem? (i := 344) (by decide +kernel), List.mem_of_getElem? (i := 345) (by decide +kernel)⟩
theorem lw_p14 : lw_okq (⟨"RepairSender$Points", "polynomialAt", "(I)I"⟩, 3) := ⟨⟨by decide +kernel, by decide +kernel⟩, List.mem_of_getElem? (i := 23) (by decide +kernel), List.mem_of_getElem? (i := 395) (by decide +kernel), List.mem_of_getElem? (i := 396) (by decide +kernel)⟩
theorem lw_p15 : lw_okq (⟨"RepairSender$Points", "weight", "(II)I"⟩, 3) := ⟨⟨by decide +kernel, by decide +kernel⟩, List.mem_of_getElem? (i := 23) (by decide +kernel), List.mem_of_getElem? (i := 399) (by decide +kernel), List.mem_of_getElem? (i := 400) (by decide +kernel)⟩
def lw_privs_1 : List (MethodName × Nat) := [(⟨"RepairSender", "startBlock", "(II)V"⟩, 13), (⟨"RepairSender$Points", "clear", "()V"⟩, 3), (⟨"RepairSender$Points", "add", "(II)V"⟩, 3), (⟨"java/lang/Throwable", "fillInStackTrace", "(I)Ljava/lang/Throwable;"⟩, 6), (⟨"RepairSender", "demandPlace", "(I)V"⟩, 13), (⟨"RepairSender", "demandReceiver", "(I)V"⟩, 13), (⟨"RepairSender", "sendPackets", "(I)V"⟩, 13), (⟨"RepairSender", "sendNextPacket", "()V"⟩, 13), (⟨"RepairSender", "completeCount", "()I"⟩, 13), (⟨"RepairSender", "needOf", "(I)I"⟩, 13), (⟨"RepairSender", "hearReports", "()I"⟩, 13), (⟨"RepairSender", "hearReportsAt", "(II)I"⟩, 13), (⟨"RepairSender", "isLiveAndLacks", "(I)Z"⟩, 13), (⟨"RepairSender", "countBadRounds", "()V"⟩, 13), (⟨"RepairSender$Points", "polynomialAt", "(I)I"⟩, 3), (⟨"RepairSender$Points", "weight", "(II)I"⟩, 3)]
theorem lw_r1 : ∀ q ∈ lw_privs_1, lw_okq q := List.forall_mem_cons.mpr ⟨lw_p0, List.forall_mem_cons.mpr ⟨lw_p1, List.forall_mem_cons.mpr ⟨lw_p2, List.forall_mem_cons.mpr ⟨lw_p3, List.forall_mem_cons.mpr ⟨lw_p4, List.forall_mem_cons.mpr ⟨lw_p5, List.forall_mem_cons.mpr ⟨lw_p6, List.forall_mem_cons.mpr ⟨lw_p7, List.forall_mem_cons.mpr ⟨lw_p8, List.forall_mem_cons.mpr ⟨lw_p9, List.forall_mem_cons.mpr ⟨lw_p10, List.forall_mem_cons.mpr ⟨lw_p11, List.forall_mem_cons.mpr ⟨lw_p12, List.forall_mem_cons.mpr ⟨lw_p13, List.forall_mem_cons.mpr ⟨lw_p14, List.forall_mem_cons.mpr ⟨lw_p15, fun _ h => absurd h List.not_mem_nil⟩⟩⟩⟩⟩⟩⟩⟩⟩⟩⟩⟩⟩⟩⟩⟩
theorem lw_p16 : lw_okq (⟨"RepairSender", "demandRebuilding", "(II)V"⟩, 13) := ⟨⟨by decide +kernel, by decide +kernel⟩, List.mem_of_getElem? (i := 15) (by decide +kernel), List.mem_of_getElem? (i := 415) (by decide +kernel), List.mem_of_getElem? (i := 416) (by decide +kernel)⟩
theorem lw_p17 : lw_okq (⟨"RepairSender", "chooseLowest", "(I)V"⟩, 13) := ⟨⟨by decide +kernel, by decide +kernel⟩, List.mem_of_getElem? (i := 15) (by decide +kernel), List.mem_of_getElem? (i := 420) (by decide +kernel), List.mem_of_getElem? (i := 421) (by decide +kernel)⟩
theorem lw_p18 : lw_okq (⟨"RepairSender", "chooseIfWanted", "(II)V"⟩, 13) := ⟨⟨by decide +kernel, by decide +kernel⟩, List.mem_of_getElem? (i := 15) (by decide +kernel), List.mem_of_getElem? (i := 424) (by decide +kernel), List.mem_of_getElem? (i := 425) (by decide +kernel)⟩
theorem lw_p19 : lw_okq (⟨"RepairSender", "chooseHighest", "(I)V"⟩, 13) := ⟨⟨by decide +kernel, by decide +kernel⟩, List.mem_of_getElem? (i := 15) (by decide +kernel), List.mem_of_getElem? (i := 435) (by decide +kernel), List.mem_of_getElem? (i := 436) (by decide +kernel)⟩
theorem lw_p20 : lw_okq (⟨"RepairSender$Equations", "write", "(LRepairSender$Points;)V"⟩, 2) := ⟨⟨by decide +kernel, by decide +kernel⟩, List.mem_of_getElem? (i := 45) (by decide +kernel), List.mem_of_getElem? (i := 439) (by decide +kernel), List.mem_of_getElem? (i := 440) (by decide +kernel)⟩
theorem lw_p21 : lw_okq (⟨"RepairSender$Equations", "solve", "()V"⟩, 2) := ⟨⟨by decide +kernel, by decide +kernel⟩, List.mem_of_getElem? (i := 45) (by decide +kernel), List.mem_of_getElem? (i := 444) (by decide +kernel), List.mem_of_getElem? (i := 445) (by decide +kernel)⟩
theorem lw_p22 : lw_okq (⟨"RepairSender$Equations", "scaleRow", "(II)V"⟩, 2) := ⟨⟨by decide +kernel, by decide +kernel⟩, List.mem_of_getElem? (i := 45) (by decide +kernel), List.mem_of_getElem? (i := 449) (by decide +kernel), List.mem_of_getElem? (i := 450) (by decide +kernel)⟩
theorem lw_p23 : lw_okq (⟨"RepairSender$Equations", "addMultiple", "(III)V"⟩, 2) := ⟨⟨by decide +kernel, by decide +kernel⟩, List.mem_of_getElem? (i := 45) (by decide +kernel), List.mem_of_getElem? (i := 453) (by decide +kernel), List.mem_of_getElem? (i := 454) (by decide +kernel)⟩
theorem lw_p24 : lw_okq (⟨"RepairSender$Equations", "polynomialAt", "(I)I"⟩, 2) := ⟨⟨by decide +kernel, by decide +kernel⟩, List.mem_of_getElem? (i := 45) (by decide +kernel), List.mem_of_getElem? (i := 457) (by decide +kernel), List.mem_of_getElem? (i := 458) (by decide +kernel)⟩
theorem lw_p25 : lw_okq (⟨"RepairSenderModel", "isReceiver", "(I)Z"⟩, 14) := ⟨⟨by decide +kernel, by decide +kernel⟩, List.mem_of_getElem? (i := 461) (by decide +kernel), List.mem_of_getElem? (i := 533) (by decide +kernel), List.mem_of_getElem? (i := 534) (by decide +kernel)⟩
theorem lw_p26 : lw_okq (⟨"RepairSenderModel", "sendOne", "()V"⟩, 14) := ⟨⟨by decide +kernel, by decide +kernel⟩, List.mem_of_getElem? (i := 461) (by decide +kernel), List.mem_of_getElem? (i := 545) (by decide +kernel), List.mem_of_getElem? (i := 546) (by decide +kernel)⟩
theorem lw_p27 : lw_okq (⟨"RepairSenderModel", "needOf", "(I)I"⟩, 14) := ⟨⟨by decide +kernel, by decide +kernel⟩, List.mem_of_getElem? (i := 461) (by decide +kernel), List.mem_of_getElem? (i := 549) (by decide +kernel), List.mem_of_getElem? (i := 550) (by decide +kernel)⟩
theorem lw_p28 : lw_okq (⟨"RepairSenderModel", "layNeeds", "()V"⟩, 14) := ⟨⟨by decide +kernel, by decide +kernel⟩, List.mem_of_getElem? (i := 461) (by decide +kernel), List.mem_of_getElem? (i := 557) (by decide +kernel), List.mem_of_getElem? (i := 558) (by decide +kernel)⟩
theorem lw_p29 : lw_okq (⟨"RepairSenderModel", "report", "(II)I"⟩, 14) := ⟨⟨by decide +kernel, by decide +kernel⟩, List.mem_of_getElem? (i := 461) (by decide +kernel), List.mem_of_getElem? (i := 561) (by decide +kernel), List.mem_of_getElem? (i := 562) (by decide +kernel)⟩
theorem lw_p30 : lw_okq (⟨"RepairSenderModel", "asksFor", "(I)Z"⟩, 14) := ⟨⟨by decide +kernel, by decide +kernel⟩, List.mem_of_getElem? (i := 461) (by decide +kernel), List.mem_of_getElem? (i := 585) (by decide +kernel), List.mem_of_getElem? (i := 586) (by decide +kernel)⟩
def lw_privs_2 : List (MethodName × Nat) := [(⟨"RepairSender", "demandRebuilding", "(II)V"⟩, 13), (⟨"RepairSender", "chooseLowest", "(I)V"⟩, 13), (⟨"RepairSender", "chooseIfWanted", "(II)V"⟩, 13), (⟨"RepairSender", "chooseHighest", "(I)V"⟩, 13), (⟨"RepairSender$Equations", "write", "(LRepairSender$Points;)V"⟩, 2), (⟨"RepairSender$Equations", "solve", "()V"⟩, 2), (⟨"RepairSender$Equations", "scaleRow", "(II)V"⟩, 2), (⟨"RepairSender$Equations", "addMultiple", "(III)V"⟩, 2), (⟨"RepairSender$Equations", "polynomialAt", "(I)I"⟩, 2), (⟨"RepairSenderModel", "isReceiver", "(I)Z"⟩, 14), (⟨"RepairSenderModel", "sendOne", "()V"⟩, 14), (⟨"RepairSenderModel", "needOf", "(I)I"⟩, 14), (⟨"RepairSenderModel", "layNeeds", "()V"⟩, 14), (⟨"RepairSenderModel", "report", "(II)I"⟩, 14), (⟨"RepairSenderModel", "asksFor", "(I)Z"⟩, 14)]
theorem lw_r2 : ∀ q ∈ lw_privs_2, lw_okq q := List.forall_mem_cons.mpr ⟨lw_p16, List.forall_mem_cons.mpr ⟨lw_p17, List.forall_mem_cons.mpr ⟨lw_p18, List.forall_mem_cons.mpr ⟨lw_p19, List.forall_mem_cons.mpr ⟨lw_p20, List.forall_mem_cons.mpr ⟨lw_p21, List.forall_mem_cons.mpr ⟨lw_p22, List.forall_mem_cons.mpr ⟨lw_p23, List.forall_mem_cons.mpr ⟨lw_p24, List.forall_mem_cons.mpr ⟨lw_p25, List.forall_mem_cons.mpr ⟨lw_p26, List.forall_mem_cons.mpr ⟨lw_p27, List.forall_mem_cons.mpr ⟨lw_p28, List.forall_mem_cons.mpr ⟨lw_p29, List.forall_mem_cons.mpr ⟨lw_p30, fun _ h => absurd h List.not_mem_nil⟩⟩⟩⟩⟩⟩⟩⟩⟩⟩⟩⟩⟩⟩⟩
def lw_privs : List (MethodName × Nat) := lw_privs_1 ++ (lw_privs_2)
def lw_tbl : List Cond := k2_sels lw_privs ++ tables_1
theorem lw_privs_ok : ∀ q ∈ lw_privs, lw_okq q := by
  show ∀ q ∈ lw_privs_1 ++ (lw_privs_2), lw_okq q
  exact List.forall_mem_append.mpr ⟨lw_r1, lw_r2⟩
-- ===== end of PART A; then your names; then what follows =====
end
section
/-! ===== BEGIN words of one list among another's, by their places ===== -/
theorem goodIn_r {big : List Cond} (ws : List Cond) (ps : List Nat) (hp : ws = ps.filterMap (fun i => big[i]?)) (h : ws.all goodWord = true) : GoodIn big ws := by
  intro w hw
  have h1 := List.all_eq_true.mp h w hw
  rw [hp] at hw
  obtain ⟨i, -, hi⟩ := List.mem_filterMap.mp hw
  have hm : w ∈ big := by first | exact List.mem_of_getElem? hi | exact List.getElem?_mem hi
  exact ⟨hm, good_of_word h1⟩
theorem goodIn_app {big a b : List Cond} (ha : GoodIn big a) (hb : GoodIn big b) : GoodIn big (a ++ b) := fun w h => (List.mem_append.mp h).elim (ha w) (hb w)
theorem goodIn_ca {big a b : List Cond} {c : Cond} (ha : GoodIn big (c :: a)) (hb : GoodIn big b) : GoodIn big (c :: (a ++ b)) := fun w h => (List.mem_cons.mp h).elim (fun e => ha w (List.mem_cons.mpr (Or.inl e))) (fun h => (List.mem_append.mp h).elim (fun h => ha w (List.mem_cons.mpr (Or.inr h))) (hb w))
theorem goodIn_sub {big ws : List Cond} (hm : ∀ w ∈ ws, w ∈ big) (h : ws.all goodWord = true) : GoodIn big ws := fun w hw => ⟨hm w hw, good_of_word (List.all_eq_true.mp h w hw)⟩
/-! ===== END ===== -/

/-! ===== BEGIN exceptions that leave a method, and their catching by the caller (launches without stack traces) ===== -/
section VXA
/-! The laws vx_back, vx_callV, vx_callS, vx_callSW, vx_throw0, vx_throwS follow proofs of the library, with one case more: JvmDerived/Free/Laws.lean (Back.of_free), Shelf42/LK1.lean (callV, callS), Shelf/KitTraced.lean (throwNew0V, throwNewS). -/
/-- where a method has thrown q: the class by its name, the cell, what was written, the world -/
def vx_T (XC : String → State → State → Prop) (st : State) (q : Addr) (t : State) (mc ms : Nat) (free : Addr → Prop) : Prop :=
  ∃ (E : String) (ce : Cell) (L : List Loc), XC E st t ∧ t.heap[q]? = some ce ∧ ce.vm = .none ∧ st.vm.findClass E = some ce.cls ∧ st.WarmedH t.vm ∧ st.sameButNew ({ t with vm := st.vm } : State) L mc ms ∧ ∀ z ∈ L, free z.base
def vx_Q (Qc : Array Value → State → Outcome → State → Prop) (XC : String → State → State → Prop) (mc ms : Nat) (free : Addr → Prop) : Array Value → State → Outcome → State → Prop := fun a st o t =>
  (Qc a st o t ∧ ∃ L, FrameEnd st o t L mc ms ∧ ∀ q ∈ L, free q.base) ∨ ∃ q, o = .threw q ∧ vx_T XC st q t mc ms free
/-- a callee that returns or throws -/
def vx_Met (l : Launch) (y : MethodName) (ws : List Cond) (rm : Room) (Pc : Array Value → State → Prop) (Qc : Array Value → State → Outcome → State → Prop) (XC : String → State → State → Prop) (mc ms : Nat) (free : Addr → Prop) : Prop :=
  MetFree l y (headSpec ws rm) Pc (fun _ _ _ _ _ => True) (vx_Q Qc XC mc ms free)
def vx_Post (XC : String → State → State → Prop) (mc ms : Nat) (free : Addr → Prop) : Pt → Array Value → Addr → Pt → Prop := fun A a q B =>
  ∃ (g : JFrame) (mk : MethodId) (t : State) (L : List Loc) (E : String) (ce : Cell), B.U.heap = t.heap ∧ B.U.vm = t.vm ∧ XC E (A.U.calling g mk a) t ∧ t.heap[q]? = some ce ∧ ce.vm = .none ∧ A.U.vm.findClass E = some ce.cls ∧ B.locs = A.locs ++ L ∧ (∀ z ∈ L, free z.base) ∧ B.cells = A.cells + mc ∧ B.slots = A.slots + ms
def vx_Back (l : Launch) (R : Room) (p : Program) (e : Env) (below : List Frame) (s : State) (sargs : Array Value) (y : MethodName) (len W9 : Nat)
    (Pre : Pt → Array Value → Prop) (Post : Pt → Array Value → Option Value → Pt → Prop) (PostX : Pt → Array Value → Addr → Pt → Prop) : Prop :=
  ∀ (m : MethodId) (meth : Method) (c : Code) (A : Pt) (g : JFrame) (ig : Instr) (mk : MethodId) (a : Array Value),
    Stand p l e R s m sargs below meth c A.U A.locs A.cells A.slots → g.method = m → g.locals.size = c.maxLocals → decode c.code g.pc = .ok (ig, len) →
    2 * g.monitorRoom + (g.stack.map fun v => v.category).sum ≤ W9 → A.U.methodNamed? y = some mk → Pre A a →
    (∃ (v : Option Value) (B : Pt), Stand p l e R s m sargs below meth c B.U B.locs B.cells B.slots ∧ Post A a v B ∧
      Steps p.tables e below (doInvoke e (A.U.setTop g) [] mk a).1 (B.U.setTop { g with pc := g.pc + len, stack := v.toList ++ g.stack })) ∨
    (∃ (q : Addr) (B : Pt), Stand p l e R s m sargs below meth c B.U B.locs B.cells B.slots ∧ PostX A a q B ∧
      Steps p.tables e below (doInvoke e (A.U.setTop g) [] mk a).1 ((B.U.setTop g).pushFrame (.throwing q)))
section Payer
variable {l : Launch} {R : Room} {p : Program} {e : Env} {below : List Frame} {s : State} {sargs : Array Value} {y : MethodName} {len W9 : Nat}
theorem vx_back {ws : List Cond} {rm : Room} {Pc : Array Value → State → Prop} {Qc : Array Value → State → Outcome → State → Prop} {XC : String → State → State → Prop} {mc ms : Nat} {free : Addr → Prop} {bytes : ByteArray} {maxL : Nat} {ret : Option FieldType}
    (hM : vx_Met l y ws rm Pc Qc XC mc ms free) (hblind : FrameBlind Pc) (hrc : rm.cells = mc) (hrs : rm.slots = ms)
    (hframes : rm.frames + 1 ≤ R.frames) (hlocals : W9 + (maxL + 11) + rm.locals ≤ R.locals)
    (hws : ∀ w ∈ ws, ∀ a' U, s.WarmedH U.vm → w.before a' U = true) (hcode : Cond.code y bytes maxL ret ∈ ws) (hinit : ∀ a' U, s.WarmedH U.vm → (Cond.initialized y.cls).before a' U = true) :
    vx_Back l R p e below s sargs y len W9 (PreOf R mc ms Pc) (PostOf Qc mc ms free) (vx_Post XC mc ms free) := by
  intro m meth c A g ig mk a X hg hsize hdg hW hn hp
  have h1 : (headSpec ws rm).pre.before a A.U = true := atoms_intro fun w hw => hws w hw _ _ X.warmed
  have h2 : (Cond.code y bytes maxL ret).before a A.U = true := hws _ hcode _ _ X.warmed
  have h3 : (Cond.initialized y.cls).before a A.U = true := hinit _ _ X.warmed
  have h4 : A.cells + (headSpec ws rm).room.cells ≤ R.cells := by rw [show (headSpec ws rm).room.cells = mc from hrc]; exact hp.1
  have h5 : A.slots + (headSpec ws rm).room.slots ≤ R.slots := by rw [show (headSpec ws rm).room.slots = ms from hrs]; exact hp.2.1
  have hPc : Pc a (A.U.calling g mk a) := hblind _ _ _ _ hp.2.2
  obtain ⟨U, Ls, c0, s0⟩ := A
  dsimp only [Pt.U, Pt.locs, Pt.cells, Pt.slots] at h1 h2 h3 h4 h5 X hn hPc ⊢
  obtain ⟨methY, cY, hmY, hcY, -, hlY, -, -, -, -⟩ := Cond.code_spec hn h2
  obtain ⟨kY, hkY, -⟩ := className_of_methodNamed hn
  have hinitY : kY.init = .initialized := Cond.initialized_spec (findClass_of_methodNamed hn) hkY h3
  have h : At U g.method c below := by rw [hg]; exact X.here
  have hlocals9 : W9 + (maxL + 11) + (headSpec ws rm).room.locals ≤ R.locals := hlocals
  have happ : (headSpec ws rm).appliesLoose y e.platform (U.calling g mk a) = true :=
    Spec.appliesLoose_calling (g := g) h hdg hn hkY hinitY
      (X.room_calling (g := g) (R' := (headSpec ws rm).room) hsize hmY hcY hframes (by rw [hlY]; omega) h4 h5) h1
  obtain ⟨mid, hmid⟩ := h.above
  have hfr : (U.setTop g).frames = (.java g :: mid) ++ below := by rw [State.frames_setTop' g h.top, hmid]; rfl
  obtain ⟨o, s₂, hsteps, -, hend, hq⟩ := Steps.callFree hM p X.admits X.cas X.clock (acts := []) hfr happ hPc trivial
  have hq' : vx_Q Qc XC mc ms free a (U.calling g mk a) o s₂ := hq
  rw [State.frames_setTop' g h.top] at hend
  obtain ⟨g₀, hg0⟩ := Option.isSome_iff_exists.mp h.top
  obtain ⟨r, hr⟩ := State.topJava?_eq_some.mp hg0
  have hr' : (({ U with heap := s₂.heap, slotsUsed := s₂.slotsUsed } : State).setVm s₂.vm).frames = .java g₀ :: r := hr
  rcases hq' with ⟨hqc, L, hfe, hL⟩ | ⟨q, rfl, E, ce, L, hx, hce, hcv, hcl, hW₂, hsm, hL⟩
  · obtain ⟨⟨v, rfl⟩, hW₂, e2, q2, q3, q4, q5, q6⟩ := id hfe
    have e3 : s₂ = ({ (U.calling g mk a).setFrames s₂.frames with heap := s₂.heap, slotsUsed := s₂.slotsUsed } : State).setVm s₂.vm := by
      have : s₂ = ({ s₂ with vm := (U.calling g mk a).vm } : State).setVm s₂.vm := rfl
      rw [e2] at this
      exact this
    obtain ⟨c₂, i₂, len₂, hc₂, hd₂, hf₂⟩ := hend
    have hW' : U.WarmedH s₂.vm := hW₂
    have hcc : c₂ = c := by
      have h1 : s₂.code? g.method = U.code? g.method := by
        rw [State.code?_eq, State.code?_eq, hW'.alike.method?]
      exact Option.some.inj (hc₂.symm.trans (h1.trans h.code))
    subst hcc
    have hlen : len₂ = len := by rw [hdg] at hd₂; cases hd₂; rfl
    subst hlen
    have hs₂ : s₂ = (({ U with heap := s₂.heap, slotsUsed := s₂.slotsUsed } : State).setVm s₂.vm).setTop { g with pc := g.pc + len₂, stack := v.toList ++ g.stack } := by
      refine e3.trans ?_
      rw [hf₂, State.calling_eq h.top, State.setFrames_setFrames, State.setTop_of_frames _ hr', hr]
      rfl
    have hsame : U.sameButNew ({ U with heap := s₂.heap, slotsUsed := s₂.slotsUsed } : State) L mc ms := by
      refine ⟨?_, q2, q3, q4, q5, q6⟩
      obtain ⟨t, ht, -⟩ := State.frames_cons hr
      show ({ U with heap := s₂.heap, slotsUsed := s₂.slotsUsed } : State) = { U.setFrames U.frames with heap := s₂.heap, slotsUsed := s₂.slotsUsed }
      rw [State.setFrames_self ht]
    subst hg
    refine Or.inl ⟨v, ⟨(({ U with heap := s₂.heap, slotsUsed := s₂.slotsUsed } : State).setVm s₂.vm), Ls ++ L, c0 + mc, s0 + ms⟩,
      ⟨X.admits, X.cas, X.clock, X.frames, X.room, X.hears, X.method, X.code, (X.here.setHeapUsed s₂.heap s₂.slotsUsed).setVm hW'.alike, X.tail, State.WarmedH.trans X.warmed hW', X.limits, X.bytes, X.same.trans (hsame.setVm s.vm)⟩,
      ⟨g, mk, s₂, L, rfl, rfl, hqc, rfl, hL, rfl, rfl⟩, ?_⟩
    show Steps p.tables e below _ ((({ U with heap := s₂.heap, slotsUsed := s₂.slotsUsed } : State).setVm s₂.vm).setTop { g with pc := g.pc + len₂, stack := v.toList ++ g.stack })
    rw [← hs₂]
    exact hsteps
  · obtain ⟨e2, q2, q3, q4, q5, q6⟩ := id hsm
    have e3 : s₂ = ({ (U.calling g mk a).setFrames s₂.frames with heap := s₂.heap, slotsUsed := s₂.slotsUsed } : State).setVm s₂.vm := by
      have : s₂ = ({ s₂ with vm := (U.calling g mk a).vm } : State).setVm s₂.vm := rfl
      rw [e2] at this
      exact this
    have hf₂ : s₂.frames = .throwing q :: .java g :: U.frames.tail := hend
    have hW' : U.WarmedH s₂.vm := hW₂
    have hs₂ : s₂ = ((({ U with heap := s₂.heap, slotsUsed := s₂.slotsUsed } : State).setVm s₂.vm).setTop g).pushFrame (.throwing q) := by
      refine e3.trans ?_
      rw [hf₂, State.calling_eq h.top, State.setFrames_setFrames, State.pushFrame, State.frames_setTop _ hr', State.setTop_of_frames _ hr', State.setFrames_setFrames, hr]
      rfl
    have hsame : U.sameButNew ({ U with heap := s₂.heap, slotsUsed := s₂.slotsUsed } : State) L mc ms := by
      refine ⟨?_, q2, q3, q4, q5, q6⟩
      obtain ⟨t, ht, -⟩ := State.frames_cons hr
      show ({ U with heap := s₂.heap, slotsUsed := s₂.slotsUsed } : State) = { U.setFrames U.frames with heap := s₂.heap, slotsUsed := s₂.slotsUsed }
      rw [State.setFrames_self ht]
    subst hg
    refine Or.inr ⟨q, ⟨(({ U with heap := s₂.heap, slotsUsed := s₂.slotsUsed } : State).setVm s₂.vm), Ls ++ L, c0 + mc, s0 + ms⟩,
      ⟨X.admits, X.cas, X.clock, X.frames, X.room, X.hears, X.method, X.code, (X.here.setHeapUsed s₂.heap s₂.slotsUsed).setVm hW'.alike, X.tail, State.WarmedH.trans X.warmed hW', X.limits, X.bytes, X.same.trans (hsame.setVm s.vm)⟩,
      ⟨g, mk, s₂, L, E, ce, rfl, rfl, hx, hce, hcv, hcl, rfl, hL, rfl, rfl⟩, ?_⟩
    show Steps p.tables e below _ (((({ U with heap := s₂.heap, slotsUsed := s₂.slotsUsed } : State).setVm s₂.vm).setTop g).pushFrame (.throwing q))
    rw [← hs₂]
    exact hsteps
end Payer
section Calls
variable {p : Program} {l : Launch} {e : Env} {R : Room} {s : State} {m : MethodId} {args : Array Value} {below : List Frame} {meth : Method} {c : Code} {T : State} {locs : List Loc} {cells slots : Nat}
theorem vx_callV (X : Stand p l e R s m args below meth c T locs cells slots) (hexec : p.tables.exec = Jvm.exec) {own C : String} {index : Nat} {y : MethodName} {bytes : ByteArray} {maxL : Nat} {ret : Option FieldType}
    (hown : s.vm.findClass own = some m.cls) (hlink : (Cond.methodLink own index y).before args s = true) (hinst : (Cond.instanceMethod y).before args s = true) (hsel : (Cond.selects C y y).before args s = true)
    (hcode : (Cond.code y bytes maxL ret).before args s = true) (hy : y.cls ≠ "java/lang/invoke/MethodHandle" ∧ y.cls ≠ "java/lang/invoke/VarHandle")
    {W9 : Nat} {Pre : Pt → Array Value → Prop} {Post : Pt → Array Value → Option Value → Pt → Prop} {PostX : Pt → Array Value → Addr → Pt → Prop} (hK : vx_Back l R p e below s args y 3 W9 Pre Post PostX)
    {b : Addr} {cellB : Cell} (hcell : T.heap[b]? = some cellB) (hobj : cellB.vm.isStatics = false) (hcls : s.vm.findClass C = some cellB.cls)
    {g : JFrame} (hg : g.method = m) (hsize : g.locals.size = c.maxLocals) {argsL rest : List Value} (hlen : ∀ sig, parseMethodDescriptor y.desc = some sig → argsL.length = sig.parameters.length)
    (hstack : g.stack = argsL.reverse ++ .ref b :: rest) (hW : 2 * g.monitorRoom + (rest.map fun v => v.category).sum ≤ W9) (hdg : decode c.code g.pc = .ok (.invokevirtual index, 3))
    (hpre : ∀ vm₁, s.WarmedH vm₁ → Pre ⟨T.setVm vm₁, locs, cells, slots⟩ (Value.ref b :: argsL).toArray) :
    (∃ (v : Option Value) (vm₁ : Vm) (B : Pt), s.WarmedH vm₁ ∧ Stand p l e R s m args below meth c B.U B.locs B.cells B.slots ∧ Post ⟨T.setVm vm₁, locs, cells, slots⟩ (Value.ref b :: argsL).toArray v B ∧
      ∀ target, Steps p.tables e below (B.U.setTop { g with pc := g.pc + 3, stack := v.toList ++ rest }) target → Steps p.tables e below (T.setTop g) target) ∨
    (∃ (q : Addr) (vm₁ : Vm) (B : Pt), s.WarmedH vm₁ ∧ Stand p l e R s m args below meth c B.U B.locs B.cells B.slots ∧ PostX ⟨T.setVm vm₁, locs, cells, slots⟩ (Value.ref b :: argsL).toArray q B ∧
      Steps p.tables e below (T.setTop g) ((B.U.setTop { g with stack := rest }).pushFrame (.throwing q))) := by
  obtain ⟨mk, methM, hnamed, hmethM, hstM, habM⟩ := Cond.instanceMethod_spec hinst
  obtain ⟨methM', cM, hmethM', -, -, -, -, -, -, hsigM⟩ := Cond.code_spec hnamed hcode
  cases hmethM.symm.trans hmethM'
  obtain ⟨c2, r2, m2, q1, q2, q3, q4, kP, hkP, hkPi⟩ := Cond.selects_spec hsel
  cases hcls.symm.trans q1
  cases (State.methodFound?_of_named hnamed hy).symm.trans q2
  cases hnamed.symm.trans q3
  have hselP : selectMethod e.platform s.vm cellB.cls mk = .method mk := by rw [Launch.admits_selectMethod X.admits]; exact q4
  obtain ⟨vm₁, X₁, hstep₁⟩ := X.invokevirtual hexec hown hlink hnamed hmethM hstM hkP hkPi hy (a := b) (cell := cellB) hcell
    (fun z h => by rw [h] at hobj; cases hobj) hselP hmethM habM hkP hkPi (g := g) hg (argsL := argsL) (rest := rest) (hlen _ hsigM) hstack hdg
  rcases hK m meth c ⟨T.setVm vm₁, locs, cells, slots⟩ { g with stack := rest } (.invokevirtual index) mk (Value.ref b :: argsL).toArray X₁ hg hsize hdg hW (X₁.named hnamed) (hpre vm₁ X₁.warmed) with ⟨v, B, X', hpost, hsteps⟩ | ⟨q, B, X', hpost, hsteps⟩
  · exact Or.inl ⟨v, vm₁, B, X₁.warmed, X', hpost, fun target h => hstep₁ _ fun acts => by rw [doInvoke_state]; exact hsteps.trans h⟩
  · exact Or.inr ⟨q, vm₁, B, X₁.warmed, X', hpost, hstep₁ _ fun acts => by rw [doInvoke_state]; exact hsteps⟩
theorem vx_callS (X : Stand p l e R s m args below meth c T locs cells slots) (hexec : p.tables.exec = Jvm.exec) {own : String} {index : Nat} {y : MethodName} {bytes : ByteArray} {maxL : Nat} {ret : Option FieldType}
    (hown : s.vm.findClass own = some m.cls) (hlink : (Cond.methodLink own index y).before args s = true) (hstat : (Cond.static y).before args s = true) (hinit : (Cond.initialized y.cls).before args s = true)
    (hcode : (Cond.code y bytes maxL ret).before args s = true) (hy : y.cls ≠ "java/lang/invoke/MethodHandle" ∧ y.cls ≠ "java/lang/invoke/VarHandle")
    {W9 : Nat} {Pre : Pt → Array Value → Prop} {Post : Pt → Array Value → Option Value → Pt → Prop} {PostX : Pt → Array Value → Addr → Pt → Prop} (hK : vx_Back l R p e below s args y 3 W9 Pre Post PostX)
    {g : JFrame} (hg : g.method = m) (hsize : g.locals.size = c.maxLocals) {argsL rest : List Value} (hlen : ∀ sig, parseMethodDescriptor y.desc = some sig → argsL.length = sig.parameters.length)
    (hstack : g.stack = argsL.reverse ++ rest) (hW : 2 * g.monitorRoom + (rest.map fun v => v.category).sum ≤ W9) (hdg : decode c.code g.pc = .ok (.invokestatic index, 3))
    (hpre : ∀ vm₁, s.WarmedH vm₁ → Pre ⟨T.setVm vm₁, locs, cells, slots⟩ argsL.toArray) :
    (∃ (v : Option Value) (vm₁ : Vm) (B : Pt), s.WarmedH vm₁ ∧ Stand p l e R s m args below meth c B.U B.locs B.cells B.slots ∧ Post ⟨T.setVm vm₁, locs, cells, slots⟩ argsL.toArray v B ∧
      ∀ target, Steps p.tables e below (B.U.setTop { g with pc := g.pc + 3, stack := v.toList ++ rest }) target → Steps p.tables e below (T.setTop g) target) ∨
    (∃ (q : Addr) (vm₁ : Vm) (B : Pt), s.WarmedH vm₁ ∧ Stand p l e R s m args below meth c B.U B.locs B.cells B.slots ∧ PostX ⟨T.setVm vm₁, locs, cells, slots⟩ argsL.toArray q B ∧
      Steps p.tables e below (T.setTop g) ((B.U.setTop { g with stack := rest }).pushFrame (.throwing q))) := by
  obtain ⟨mk, hnamed⟩ := Cond.code_named hcode
  obtain ⟨methM, cM, hmethM, -, -, -, -, -, -, hsigM⟩ := Cond.code_spec hnamed hcode
  have hstatic : methM.isStatic = true := Cond.static_spec hnamed hmethM hstat
  obtain ⟨kP, hkP, -⟩ := className_of_methodNamed hnamed
  have hinitP : kP.init = .initialized := Cond.initialized_spec (findClass_of_methodNamed hnamed) hkP hinit
  obtain ⟨vm₁, X₁, hstep₁⟩ := X.invokestatic hexec hown hlink hnamed hmethM hstatic hkP hinitP hy (g := g) hg (argsL := argsL) (rest := rest) (hlen _ hsigM) hstack hdg
  rcases hK m meth c ⟨T.setVm vm₁, locs, cells, slots⟩ { g with stack := rest } (.invokestatic index) mk argsL.toArray X₁ hg hsize hdg hW (X₁.named hnamed) (hpre vm₁ X₁.warmed) with ⟨v, B, X', hpost, hsteps⟩ | ⟨q, B, X', hpost, hsteps⟩
  · exact Or.inl ⟨v, vm₁, B, X₁.warmed, X', hpost, fun target h => hstep₁ _ fun acts => by rw [doInvoke_state]; exact hsteps.trans h⟩
  · exact Or.inr ⟨q, vm₁, B, X₁.warmed, X', hpost, hstep₁ _ fun acts => by rw [doInvoke_state]; exact hsteps⟩
end Calls
theorem vx_cls {s : State} {T : State} {vm₁ : Vm} {E : String} {k : ClassId} (hW : s.WarmedH vm₁) (h : (T.setVm vm₁).vm.findClass E = some k) : s.vm.findClass E = some k := by
  have h1 : vm₁.findClass E = some k := h
  rw [hW.alike.findClass] at h1
  exact h1
/-- the method's frame g, with q thrown over it -/
def vx_W (p : Program) (l : Launch) (e : Env) (R : Room) (s : State) (m : MethodId) (args : Array Value) (below : List Frame) (meth : Method) (c : Code) (H : Heap) (locs : List Loc) (cells slots : Nat) (Q : State → Prop) (g : JFrame) (q : Addr) : Prop :=
  ∀ T : State, T.heap = H → Stand p l e R s m args below meth c T locs cells slots → ∃ t, Steps p.tables e below ((T.setTop g).pushFrame (.throwing q)) t ∧ Q t
def vx_Run (p : Program) (l : Launch) (e : Env) (R : Room) (s : State) (m : MethodId) (args : Array Value) (below : List Frame) (meth : Method) (c : Code) (H : Heap) (locs : List Loc) (cells slots mc ms : Nat) (g : JFrame) (rest : List Value) (Qa : State → Outcome → State → Prop) (XC : String → State → State → Prop) (free : Addr → Prop) : Prop :=
  ∀ T : State, T.heap = H → Stand p l e R s m args below meth c T locs cells slots →
    (∃ (v : Option Value) (st₀ t T' : State) (L : List Loc), st₀.heap = H ∧ Stand p l e R s m args below meth c T' (locs ++ L) (cells + mc) (slots + ms) ∧ (∀ q ∈ L, free q.base) ∧ T'.heap = t.heap ∧ T'.vm = t.vm ∧ Qa st₀ (.returned v) t ∧
      Goes p e below T g T' { g with pc := g.pc + 3, stack := v.toList ++ rest }) ∨
    (∃ (q : Addr) (st₀ t T' : State) (L : List Loc) (E : String) (ce : Cell), st₀.heap = H ∧ Stand p l e R s m args below meth c T' (locs ++ L) (cells + mc) (slots + ms) ∧ (∀ z ∈ L, free z.base) ∧ T'.heap = t.heap ∧ T'.vm = t.vm ∧ XC E st₀ t ∧ t.heap[q]? = some ce ∧ ce.vm = .none ∧ s.vm.findClass E = some ce.cls ∧
      Steps p.tables e below (T.setTop g) ((T'.setTop { g with stack := rest }).pushFrame (.throwing q)))
def vx_X {S : Type} (px : S → Prop) (B : String → S → State → Prop) (A : Nat → Prop) : String → State → State → Prop := fun E st t => ∃ u : S, px u ∧ B E u t ∧ va_F A st t
section Runs
variable {p : Program} {l : Launch} {e : Env} {R : Room} {s : State} {m : MethodId} {args : Array Value} {below : List Frame} {meth : Method} {c : Code} {H : Heap} {locs : List Loc} {cells slots : Nat}
variable {y : MethodName} {bytes cc : ByteArray} {maxL nL mc ms n index : Nat} {ret : Option FieldType} {ws : List Cond} {rm : Room} {Pc : Array Value → State → Prop} {Qc : Array Value → State → Outcome → State → Prop} {XC : String → State → State → Prop} {free : Addr → Prop} {Ts : List Cond} {own C : String} {b : Addr} {As rest : List Value} {g : JFrame}
theorem vx_callBack (cb : CallB R s args own index y bytes maxL ret ws rm mc ms n) (hM : vx_Met l y ws rm Pc Qc XC mc ms free) (hbl : FrameBlind Pc) : vx_Back l R p e below s args y 3 8 (PreOf R mc ms Pc) (PostOf Qc mc ms free) (vx_Post XC mc ms free) := by
  obtain ⟨hrc, hrs, hfr, hlo, hws, hcw, -, hini, -⟩ := cb
  exact vx_back (bytes := bytes) (maxL := maxL) (ret := ret) hM hbl hrc hrs hfr hlo hws hcw (fun a' U hW => word_at hW (Or.inl (by first | rfl | simp [Cond.onTables, Cond.keeps, Cond.steady])) hini)
theorem vx_runV (S : CallFix p m c cc nL s args Ts own) (hM : vx_Met l y ws rm Pc Qc XC mc ms free) (cw : CallW R s args own C index y bytes maxL ret ws rm mc ms n) (hp : PreV s H C b Pc As)
    (hg : g.method = m) (hn : As.length = n) (hsize : g.locals.size = nL) (hstack : g.stack = As.reverse ++ .ref b :: rest) (hW : 2 * g.monitorRoom + (rest.map fun v => v.category).sum ≤ 8) (hdg : decode cc g.pc = .ok (.invokevirtual index, 3)) (hf : cells + mc ≤ R.cells ∧ slots + ms ≤ R.slots) :
    vx_Run p l e R s m args below meth c H locs cells slots mc ms g rest (Qc (Value.ref b :: As).toArray) XC free := by
  have hK : vx_Back l R p e below s args y 3 8 (PreOf R mc ms Pc) (PostOf Qc mc ms free) (vx_Post XC mc ms free) := vx_callBack cw.1 hM hp.1
  obtain ⟨⟨-, -, -, -, -, -, hcode, -, hy, hlen, hl⟩, hin, hse⟩ := cw
  obtain ⟨hx, hb, hml, ho, -⟩ := S
  obtain ⟨-, ⟨cellB, hcB, hoB, hclB⟩, hPc⟩ := hp
  intro T hT X
  rcases vx_callV X hx (C := C) (bytes := bytes) (maxL := maxL) (ret := ret) ho hl hin hse hcode hy hK (by rw [hT]; exact hcB) hoB hclB hg (hsize.trans hml.symm) (argsL := As) (rest := rest) (fun sig h => hn.trans (hlen sig h)) hstack hW (by rw [hb]; exact hdg)
    (fun vm₁ hW₁ => ⟨hf.1, hf.2, hPc (T.setVm vm₁) hT hW₁⟩) with ⟨v, vm₁, ⟨U', l2, c2, s2⟩, hW₁, X', ⟨g', mk, t, L, e1, e2, hq, h1, hL, h2, h3⟩, st⟩ | ⟨q, vm₁, ⟨U', l2, c2, s2⟩, hW₁, X', ⟨g', mk, t, L, E, ce, e1, e2, hq, hce, hcv, hcl, h1, hL, h2, h3⟩, st⟩
  · dsimp only [Pt.U, Pt.locs, Pt.cells, Pt.slots] at X' e1 e2 h1 h2 h3 st
    subst h1; subst h2; subst h3
    exact Or.inl ⟨v, (T.setVm vm₁).calling g' mk (Value.ref b :: As).toArray, t, U', L, hT, X', hL, e1, e2, hq, st⟩
  · dsimp only [Pt.U, Pt.locs, Pt.cells, Pt.slots] at X' e1 e2 h1 h2 h3 st hcl
    subst h1; subst h2; subst h3
    exact Or.inr ⟨q, (T.setVm vm₁).calling g' mk (Value.ref b :: As).toArray, t, U', L, E, ce, hT, X', hL, e1, e2, hq, hce, hcv, vx_cls hW₁ hcl, st⟩
theorem vx_runS (S : CallFix p m c cc nL s args Ts own) (hM : vx_Met l y ws rm Pc Qc XC mc ms free) (cw : CallB R s args own index y bytes maxL ret ws rm mc ms n ∧ (Cond.static y).before args s = true) (hp : PreS s H Pc As)
    (hg : g.method = m) (hn : As.length = n) (hsize : g.locals.size = nL) (hstack : g.stack = As.reverse ++ rest) (hW : 2 * g.monitorRoom + (rest.map fun v => v.category).sum ≤ 8) (hdg : decode cc g.pc = .ok (.invokestatic index, 3)) (hf : cells + mc ≤ R.cells ∧ slots + ms ≤ R.slots) :
    vx_Run p l e R s m args below meth c H locs cells slots mc ms g rest (Qc As.toArray) XC free := by
  have hK : vx_Back l R p e below s args y 3 8 (PreOf R mc ms Pc) (PostOf Qc mc ms free) (vx_Post XC mc ms free) := vx_callBack cw.1 hM hp.1
  obtain ⟨⟨-, -, -, -, -, -, hcode, hini, hy, hlen, hl⟩, hstt⟩ := cw
  obtain ⟨hx, hb, hml, ho, -⟩ := S
  intro T hT X
  rcases vx_callS X hx (bytes := bytes) (maxL := maxL) (ret := ret) ho hl hstt hini hcode hy hK hg (hsize.trans hml.symm) (argsL := As) (rest := rest) (fun sig h => hn.trans (hlen sig h)) hstack hW (by rw [hb]; exact hdg)
    (fun vm₁ hW₁ => ⟨hf.1, hf.2, hp.2 (T.setVm vm₁) hT hW₁⟩) with ⟨v, vm₁, ⟨U', l2, c2, s2⟩, hW₁, X', ⟨g', mk, t, L, e1, e2, hq, h1, hL, h2, h3⟩, st⟩ | ⟨q, vm₁, ⟨U', l2, c2, s2⟩, hW₁, X', ⟨g', mk, t, L, E, ce, e1, e2, hq, hce, hcv, hcl, h1, hL, h2, h3⟩, st⟩
  · dsimp only [Pt.U, Pt.locs, Pt.cells, Pt.slots] at X' e1 e2 h1 h2 h3 st
    subst h1; subst h2; subst h3
    exact Or.inl ⟨v, (T.setVm vm₁).calling g' mk As.toArray, t, U', L, hT, X', hL, e1, e2, hq, st⟩
  · dsimp only [Pt.U, Pt.locs, Pt.cells, Pt.slots] at X' e1 e2 h1 h2 h3 st hcl
    subst h1; subst h2; subst h3
    exact Or.inr ⟨q, (T.setVm vm₁).calling g' mk As.toArray, t, U', L, E, ce, hT, X', hL, e1, e2, hq, hce, hcv, vx_cls hW₁ hcl, st⟩
end Runs
section Rows
variable {p : Program} {l : Launch} {e : Env} {R : Room} {s : State} {m : MethodId} {args : Array Value} {below : List Frame} {meth : Method} {c : Code} {H : Heap} {locs : List Loc} {cells slots : Nat} {Q : State → Prop}
variable {mc ms : Nat} {free : Addr → Prop} {A0 A1 : Nat → Prop} {H0 : Heap} {a : Array Value} {pc : Nat} {ls : Array Slot} {st0 rest : List Value}
theorem vx_keep {st₀ t T' : State} {L : List Loc} (h0 : st₀.heap = H) (e1 : T'.heap = t.heap) (hS : va_S A0 H0 H locs) (hA : ∀ q, q < H.size → A1 q → A0 q) (hf : ∀ q, free q → A0 q) (hL : ∀ q ∈ L, free q.base) (hF : va_F A1 st₀ t) :
    H.size ≤ T'.heap.size ∧ (∀ q : Nat, q < H.size → ¬ A1 q → T'.heap[q]? = H[q]?) ∧ va_S A0 H0 T'.heap (locs ++ L) := by
  obtain ⟨hz, hk⟩ := hF
  rw [h0] at hz hk
  exact ⟨by rw [e1]; exact hz, fun q h1 h2 => by rw [e1]; exact hk q h1 h2,
    ⟨Nat.le_trans hS.1 (by rw [e1]; exact hz), fun q h1 h2 => by rw [e1, hk q (Nat.lt_of_lt_of_le h1 hS.1) (fun z => h2 (hA q (Nat.lt_of_lt_of_le h1 hS.1) z))]; exact hS.2.1 q h1 h2, fun q hq => by
      rcases List.mem_append.mp hq with h | h
      · exact hS.2.2 q h
      · exact hf _ (hL q h)⟩⟩
theorem vx_calli {S SX : Type} {post : Int32 → S → Prop} {px : SX → Prop} {B : S → State → Prop} {BX : String → SX → State → Prop} {AX : Nat → Prop} (hr : vx_Run p l e R s m args below meth c H locs cells slots mc ms (F0 m pc ls st0) rest (va_Qi post B A1 a) (vx_X px BX AX) free) (hS : va_S A0 H0 H locs) (hA : ∀ q, q < H.size → A1 q → A0 q) (hf : ∀ q, free q → A0 q) (hAX : ∀ q, q < H.size → AX q → A0 q)
    (kx : ∀ (E : String) (ce : Cell) (q9 : Addr) (u : SX) (t : State) (H1 : Heap) (locs1 : List Loc), t.heap = H1 → s.vm.Alike t.vm → px u → BX E u t → H.size ≤ H1.size → (∀ q : Nat, q < H.size → ¬ AX q → H1[q]? = H[q]?) → va_S A0 H0 H1 locs1 → H1[q9]? = some ce → ce.vm = .none → s.vm.findClass E = some ce.cls → vx_W p l e R s m args below meth c H1 locs1 (cells + mc) (slots + ms) Q (F0 m pc ls rest) q9)
    (kk : ∀ (r : Int32) (u : S) (t : State) (H1 : Heap) (locs1 : List Loc), t.heap = H1 → s.vm.Alike t.vm → post r u → B u t → H.size ≤ H1.size → (∀ q : Nat, q < H.size → ¬ A1 q → H1[q]? = H[q]?) → va_S A0 H0 H1 locs1 → W p l e R s m args below meth c H1 locs1 (cells + mc) (slots + ms) Q (F0 m (pc + 3) ls (.int r :: rest))) : W p l e R s m args below meth c H locs cells slots Q (F0 m pc ls st0) := by
  intro T hT X
  rcases hr T hT X with ⟨v, st₀, t, T', L, h0, X', hL, e1, e2, ⟨⟨r, u, hv, hp, hb⟩, hF⟩, st⟩ | ⟨q, st₀, t, T', L, E, ce, h0, X', hL, e1, e2, ⟨u, hp, hb, hF⟩, hce, hcv, hcl, st⟩
  · cases hv
    obtain ⟨k1, k2, k3⟩ := vx_keep h0 e1 hS hA hf hL hF
    obtain ⟨t2, a1, b1⟩ := kk r u t T'.heap (locs ++ L) e1.symm (by rw [← e2]; exact X'.warmed.alike) hp hb k1 k2 k3 T' rfl X'
    exact ⟨t2, st t2 a1, b1⟩
  · obtain ⟨k1, k2, k3⟩ := vx_keep h0 e1 hS hAX hf hL hF
    obtain ⟨t2, a1, b1⟩ := kx E ce q u t T'.heap (locs ++ L) e1.symm (by rw [← e2]; exact X'.warmed.alike) hp hb k1 k2 k3 (by rw [e1]; exact hce) hcv hcl T' rfl X'
    exact ⟨t2, st.trans a1, b1⟩
theorem vx_calll {S SX : Type} {post : Int64 → S → Prop} {px : SX → Prop} {B : S → State → Prop} {BX : String → SX → State → Prop} {AX : Nat → Prop} (hr : vx_Run p l e R s m args below meth c H locs cells slots mc ms (F0 m pc ls st0) rest (va_Ql post B A1 a) (vx_X px BX AX) free) (hS : va_S A0 H0 H locs) (hA : ∀ q, q < H.size → A1 q → A0 q) (hf : ∀ q, free q → A0 q) (hAX : ∀ q, q < H.size → AX q → A0 q)
    (kx : ∀ (E : String) (ce : Cell) (q9 : Addr) (u : SX) (t : State) (H1 : Heap) (locs1 : List Loc), t.heap = H1 → s.vm.Alike t.vm → px u → BX E u t → H.size ≤ H1.size → (∀ q : Nat, q < H.size → ¬ AX q → H1[q]? = H[q]?) → va_S A0 H0 H1 locs1 → H1[q9]? = some ce → ce.vm = .none → s.vm.findClass E = some ce.cls → vx_W p l e R s m args below meth c H1 locs1 (cells + mc) (slots + ms) Q (F0 m pc ls rest) q9)
    (kk : ∀ (r : Int64) (u : S) (t : State) (H1 : Heap) (locs1 : List Loc), t.heap = H1 → s.vm.Alike t.vm → post r u → B u t → H.size ≤ H1.size → (∀ q : Nat, q < H.size → ¬ A1 q → H1[q]? = H[q]?) → va_S A0 H0 H1 locs1 → W p l e R s m args below meth c H1 locs1 (cells + mc) (slots + ms) Q (F0 m (pc + 3) ls (.long r :: rest))) : W p l e R s m args below meth c H locs cells slots Q (F0 m pc ls st0) := by
  intro T hT X
  rcases hr T hT X with ⟨v, st₀, t, T', L, h0, X', hL, e1, e2, ⟨⟨r, u, hv, hp, hb⟩, hF⟩, st⟩ | ⟨q, st₀, t, T', L, E, ce, h0, X', hL, e1, e2, ⟨u, hp, hb, hF⟩, hce, hcv, hcl, st⟩
  · cases hv
    obtain ⟨k1, k2, k3⟩ := vx_keep h0 e1 hS hA hf hL hF
    obtain ⟨t2, a1, b1⟩ := kk r u t T'.heap (locs ++ L) e1.symm (by rw [← e2]; exact X'.warmed.alike) hp hb k1 k2 k3 T' rfl X'
    exact ⟨t2, st t2 a1, b1⟩
  · obtain ⟨k1, k2, k3⟩ := vx_keep h0 e1 hS hAX hf hL hF
    obtain ⟨t2, a1, b1⟩ := kx E ce q u t T'.heap (locs ++ L) e1.symm (by rw [← e2]; exact X'.warmed.alike) hp hb k1 k2 k3 (by rw [e1]; exact hce) hcv hcl T' rfl X'
    exact ⟨t2, st.trans a1, b1⟩
theorem vx_callf {S SX : Type} {post : UInt32 → S → Prop} {px : SX → Prop} {B : S → State → Prop} {BX : String → SX → State → Prop} {AX : Nat → Prop} (hr : vx_Run p l e R s m args below meth c H locs cells slots mc ms (F0 m pc ls st0) rest (va_Qf post B A1 a) (vx_X px BX AX) free) (hS : va_S A0 H0 H locs) (hA : ∀ q, q < H.size → A1 q → A0 q) (hf : ∀ q, free q → A0 q) (hAX : ∀ q, q < H.size → AX q → A0 q)
    (kx : ∀ (E : String) (ce : Cell) (q9 : Addr) (u : SX) (t : State) (H1 : Heap) (locs1 : List Loc), t.heap = H1 → s.vm.Alike t.vm → px u → BX E u t → H.size ≤ H1.size → (∀ q : Nat, q < H.size → ¬ AX q → H1[q]? = H[q]?) → va_S A0 H0 H1 locs1 → H1[q9]? = some ce → ce.vm = .none → s.vm.findClass E = some ce.cls → vx_W p l e R s m args below meth c H1 locs1 (cells + mc) (slots + ms) Q (F0 m pc ls rest) q9)
    (kk : ∀ (r : UInt32) (u : S) (t : State) (H1 : Heap) (locs1 : List Loc), t.heap = H1 → s.vm.Alike t.vm → post r u → B u t → H.size ≤ H1.size → (∀ q : Nat, q < H.size → ¬ A1 q → H1[q]? = H[q]?) → va_S A0 H0 H1 locs1 → W p l e R s m args below meth c H1 locs1 (cells + mc) (slots + ms) Q (F0 m (pc + 3) ls (.float r :: rest))) : W p l e R s m args below meth c H locs cells slots Q (F0 m pc ls st0) := by
  intro T hT X
  rcases hr T hT X with ⟨v, st₀, t, T', L, h0, X', hL, e1, e2, ⟨⟨r, u, hv, hp, hb⟩, hF⟩, st⟩ | ⟨q, st₀, t, T', L, E, ce, h0, X', hL, e1, e2, ⟨u, hp, hb, hF⟩, hce, hcv, hcl, st⟩
  · cases hv
    obtain ⟨k1, k2, k3⟩ := vx_keep h0 e1 hS hA hf hL hF
    obtain ⟨t2, a1, b1⟩ := kk r u t T'.heap (locs ++ L) e1.symm (by rw [← e2]; exact X'.warmed.alike) hp hb k1 k2 k3 T' rfl X'
    exact ⟨t2, st t2 a1, b1⟩
  · obtain ⟨k1, k2, k3⟩ := vx_keep h0 e1 hS hAX hf hL hF
    obtain ⟨t2, a1, b1⟩ := kx E ce q u t T'.heap (locs ++ L) e1.symm (by rw [← e2]; exact X'.warmed.alike) hp hb k1 k2 k3 (by rw [e1]; exact hce) hcv hcl T' rfl X'
    exact ⟨t2, st.trans a1, b1⟩
theorem vx_calld {S SX : Type} {post : UInt64 → S → Prop} {px : SX → Prop} {B : S → State → Prop} {BX : String → SX → State → Prop} {AX : Nat → Prop} (hr : vx_Run p l e R s m args below meth c H locs cells slots mc ms (F0 m pc ls st0) rest (va_Qd post B A1 a) (vx_X px BX AX) free) (hS : va_S A0 H0 H locs) (hA : ∀ q, q < H.size → A1 q → A0 q) (hf : ∀ q, free q → A0 q) (hAX : ∀ q, q < H.size → AX q → A0 q)
    (kx : ∀ (E : String) (ce : Cell) (q9 : Addr) (u : SX) (t : State) (H1 : Heap) (locs1 : List Loc), t.heap = H1 → s.vm.Alike t.vm → px u → BX E u t → H.size ≤ H1.size → (∀ q : Nat, q < H.size → ¬ AX q → H1[q]? = H[q]?) → va_S A0 H0 H1 locs1 → H1[q9]? = some ce → ce.vm = .none → s.vm.findClass E = some ce.cls → vx_W p l e R s m args below meth c H1 locs1 (cells + mc) (slots + ms) Q (F0 m pc ls rest) q9)
    (kk : ∀ (r : UInt64) (u : S) (t : State) (H1 : Heap) (locs1 : List Loc), t.heap = H1 → s.vm.Alike t.vm → post r u → B u t → H.size ≤ H1.size → (∀ q : Nat, q < H.size → ¬ A1 q → H1[q]? = H[q]?) → va_S A0 H0 H1 locs1 → W p l e R s m args below meth c H1 locs1 (cells + mc) (slots + ms) Q (F0 m (pc + 3) ls (.double r :: rest))) : W p l e R s m args below meth c H locs cells slots Q (F0 m pc ls st0) := by
  intro T hT X
  rcases hr T hT X with ⟨v, st₀, t, T', L, h0, X', hL, e1, e2, ⟨⟨r, u, hv, hp, hb⟩, hF⟩, st⟩ | ⟨q, st₀, t, T', L, E, ce, h0, X', hL, e1, e2, ⟨u, hp, hb, hF⟩, hce, hcv, hcl, st⟩
  · cases hv
    obtain ⟨k1, k2, k3⟩ := vx_keep h0 e1 hS hA hf hL hF
    obtain ⟨t2, a1, b1⟩ := kk r u t T'.heap (locs ++ L) e1.symm (by rw [← e2]; exact X'.warmed.alike) hp hb k1 k2 k3 T' rfl X'
    exact ⟨t2, st t2 a1, b1⟩
  · obtain ⟨k1, k2, k3⟩ := vx_keep h0 e1 hS hAX hf hL hF
    obtain ⟨t2, a1, b1⟩ := kx E ce q u t T'.heap (locs ++ L) e1.symm (by rw [← e2]; exact X'.warmed.alike) hp hb k1 k2 k3 (by rw [e1]; exact hce) hcv hcl T' rfl X'
    exact ⟨t2, st.trans a1, b1⟩
theorem vx_callv {S SX : Type} {post : S → Prop} {px : SX → Prop} {B : S → State → Prop} {BX : String → SX → State → Prop} {AX : Nat → Prop} (hr : vx_Run p l e R s m args below meth c H locs cells slots mc ms (F0 m pc ls st0) rest (va_Qv post B A1 a) (vx_X px BX AX) free) (hS : va_S A0 H0 H locs) (hA : ∀ q, q < H.size → A1 q → A0 q) (hf : ∀ q, free q → A0 q) (hAX : ∀ q, q < H.size → AX q → A0 q)
    (kx : ∀ (E : String) (ce : Cell) (q9 : Addr) (u : SX) (t : State) (H1 : Heap) (locs1 : List Loc), t.heap = H1 → s.vm.Alike t.vm → px u → BX E u t → H.size ≤ H1.size → (∀ q : Nat, q < H.size → ¬ AX q → H1[q]? = H[q]?) → va_S A0 H0 H1 locs1 → H1[q9]? = some ce → ce.vm = .none → s.vm.findClass E = some ce.cls → vx_W p l e R s m args below meth c H1 locs1 (cells + mc) (slots + ms) Q (F0 m pc ls rest) q9)
    (kk : ∀ (u : S) (t : State) (H1 : Heap) (locs1 : List Loc), t.heap = H1 → s.vm.Alike t.vm → post u → B u t → H.size ≤ H1.size → (∀ q : Nat, q < H.size → ¬ A1 q → H1[q]? = H[q]?) → va_S A0 H0 H1 locs1 → W p l e R s m args below meth c H1 locs1 (cells + mc) (slots + ms) Q (F0 m (pc + 3) ls (rest))) : W p l e R s m args below meth c H locs cells slots Q (F0 m pc ls st0) := by
  intro T hT X
  rcases hr T hT X with ⟨v, st₀, t, T', L, h0, X', hL, e1, e2, ⟨⟨u, hv, hp, hb⟩, hF⟩, st⟩ | ⟨q, st₀, t, T', L, E, ce, h0, X', hL, e1, e2, ⟨u, hp, hb, hF⟩, hce, hcv, hcl, st⟩
  · cases hv
    obtain ⟨k1, k2, k3⟩ := vx_keep h0 e1 hS hA hf hL hF
    obtain ⟨t2, a1, b1⟩ := kk u t T'.heap (locs ++ L) e1.symm (by rw [← e2]; exact X'.warmed.alike) hp hb k1 k2 k3 T' rfl X'
    exact ⟨t2, st t2 a1, b1⟩
  · obtain ⟨k1, k2, k3⟩ := vx_keep h0 e1 hS hAX hf hL hF
    obtain ⟨t2, a1, b1⟩ := kx E ce q u t T'.heap (locs ++ L) e1.symm (by rw [← e2]; exact X'.warmed.alike) hp hb k1 k2 k3 (by rw [e1]; exact hce) hcv hcl T' rfl X'
    exact ⟨t2, st.trans a1, b1⟩
/-- caught by the row x of this method's table; the rows ahead don't take it -/
theorem vx_catch {own name : String} {E : String} {ce : Cell} {q : Addr} (hown : s.vm.findClass own = some m.cls) (pre : List ExceptionTableEntry) (x : ExceptionTableEntry) (suf : List ExceptionTableEntry) (hsplit : c.exceptionTable.toList = pre ++ x :: suf)
    (hpass : ∀ z ∈ pre, covers z pc = false ∨ (z.catchType ≠ 0 ∧ ∃ nm : String, (Cond.classLink own z.catchType nm).before args s = true ∧ va_Nc E nm s)) (hx : covers x pc = true) (h0 : x.catchType ≠ 0)
    (hlink : (Cond.classLink own x.catchType name).before args s = true) (hcast : (Cond.castable E name).before args s = true) (hcell : H[q]? = some ce) (hv : ce.vm = .none) (hcl : s.vm.findClass E = some ce.cls)
    (kk : W p l e R s m args below meth c H locs cells slots Q (F0 m x.handlerPc ls [.ref q])) : vx_W p l e R s m args below meth c H locs cells slots Q (F0 m pc ls rest) q := by
  intro T hT X
  have hpl : e.platform.magicAccessors = ({} : Platform).magicAccessors := by rw [X.admits.platform]
  obtain ⟨c3, c4, hc3, hc4, hasg⟩ := Cond.castable_spec hcast
  cases Option.some.inj (hc3.symm.trans hcl)
  obtain ⟨c5, hc5, hcl5⟩ := Cond.classLink_spec hown hlink e.platform hpl
  cases Option.some.inj (hc4.symm.trans hc5)
  obtain ⟨vm', X', st⟩ := X.thenCaughtThrough q (g := F0 m pc ls rest) rfl (Steps.refl _) (by rw [hT]; exact hcell) (by rw [hv]; rfl) (by obtain ⟨k9, h9, -⟩ := Vm.findClass_spec hcl; exact ⟨k9, h9⟩) pre x suf hsplit
    (fun z hz => by
      rcases hpass z hz with h | ⟨hz0, nm, hl1, hn1⟩
      · exact Or.inl h
      · obtain ⟨c6, hc6, hcl6⟩ := Cond.classLink_spec hown hl1 e.platform hpl
        obtain ⟨a8, b8, h1, h2, h3⟩ := hn1
        cases Option.some.inj (h1.symm.trans hcl)
        cases Option.some.inj (h2.symm.trans hc6)
        exact Or.inr ⟨hz0, _, hcl6, h3⟩) hx (Or.inr ⟨h0, c4, hcl5, hasg⟩)
  obtain ⟨t, a1, b1⟩ := kk (T.setVm vm') hT X'
  exact ⟨t, st.trans a1, b1⟩
end Rows
section Ends
variable {p : Program} {l : Launch} {e : Env} {R : Room} {s : State} {m : MethodId} {args : Array Value} {below : List Frame} {meth : Method} {c : Code} {H : Heap} {locs : List Loc} {cells slots : Nat} {Q : State → Prop}
variable {mc ms : Nat} {free : Addr → Prop} {A0 A1 : Nat → Prop} {H0 : Heap} {a : Array Value} {ls : Array Slot} {st0 rest : List Value}
variable {Qc : Array Value → State → Outcome → State → Prop} {XC : String → State → State → Prop}
/-- what a body that may throw owes at its end -/
def vx_MQ (below : List Frame) (Qc : Array Value → State → Outcome → State → Prop) (XC : String → State → State → Prop) (a : Array Value) (s : State) (mc ms : Nat) (free : Addr → Prop) : State → Prop := fun t =>
  ∃ o, t.status = .running ∧ Ended t below o ∧ vx_Q Qc XC mc ms free a s o t
theorem vx_ret {g : JFrame} {mc ms : Nat} (k : W p l e R s m args below meth c H locs cells slots (MQ below Qc args s mc ms free) g) : W p l e R s m args below meth c H locs cells slots (vx_MQ below Qc XC args s mc ms free) g := by
  intro T hT X
  obtain ⟨t, a1, o, b1, b2, b3, b4⟩ := k T hT X
  exact ⟨t, a1, o, b1, b2, Or.inl ⟨b3, b4⟩⟩
/-- not caught here: it goes on to the caller -/
theorem vx_widen {g : JFrame} {q : Addr} {k n : Nat} (h1 : cells ≤ k) (h2 : slots ≤ n) (kk : vx_W p l e R s m args below meth c H locs k n Q g q) : vx_W p l e R s m args below meth c H locs cells slots Q g q := fun T hT X => kk T hT (stand_widen X h1 h2)
theorem vx_out {pc : Nat} {E : String} {ce : Cell} {q : Addr} {mc ms : Nat} (hout : ∀ x ∈ c.exceptionTable.toList, covers x pc = false) (hlocks : meth.locks = false) (hcell : H[q]? = some ce) (hv : ce.vm = .none) (hcl : s.vm.findClass E = some ce.cls)
    (hx : ∀ t : State, t.heap = H → s.vm.Alike t.vm → XC E s t) (hf : ∀ z ∈ locs, free z.base) (hc : cells ≤ mc) (hs : slots ≤ ms) :
    vx_W p l e R s m args below meth c H locs cells slots (vx_MQ below Qc XC args s mc ms free) (F0 m pc ls rest) q := by
  intro T hT X
  obtain ⟨st1, hrun, hend, hW, hsm⟩ := X.leaveThrown q (g := F0 m pc ls rest) rfl rfl rfl hout hlocks
  have hcell9 : (T.setFrames (.throwing q :: below)).heap[q]? = some ce := by
    show T.heap[q]? = some ce
    rw [hT]; exact hcell
  exact ⟨_, st1, .threw q, hrun, hend, Or.inr ⟨q, rfl, E, ce, locs, hx _ hT hW.alike, hcell9, hv, hcl, hW, hsm.mono hc hs, hf⟩⟩
theorem vx_frame {U : State} {k n : Nat} (h : s.sameButNew ({ U with vm := s.vm } : State) locs k n) : s.heap.size ≤ U.heap.size ∧ ∀ q : Nat, q < s.heap.size → (∀ z ∈ locs, z.base ≠ q) → U.heap[q]? = s.heap[q]? := by
  obtain ⟨-, h2, -, -, -, h6⟩ := h
  refine ⟨h2, fun q hq hz => ?_⟩
  obtain ⟨c9, e1, e2, e3, e4⟩ := h6 q _ (Array.getElem?_eq_getElem hq)
  have hs : c9.slots = (s.heap[q]).slots := Array.ext_getElem? fun i => e4 i fun hm => hz _ hm rfl
  have h9 : c9 = s.heap[q] := by
    rw [hs] at e2
    exact e2
  have e5 : U.heap[q]? = some c9 := e1
  rw [e5, h9, Array.getElem?_eq_getElem hq]
/-- the words of a throw but the four that speak of the heap -/
def vx_no (w : Cond) : Bool := decide (w ≠ .isRef (.static Bundle.tN "UNASSIGNED_STACK" Bundle.steD)) && decide (w ≠ .isRef (.static Bundle.tN "SUPPRESSED_SENTINEL" Bundle.listD)) && decide (w ≠ .laysStatic Bundle.tN "UNASSIGNED_STACK" Bundle.steD) && decide (w ≠ .laysStatic Bundle.tN "SUPPRESSED_SENTINEL" Bundle.listD)
def vx_at0 (own : String) (ic : Nat) (X : String) (names : List String) : List Cond := (Bundle.ownAtoms0 own ic X names).filter vx_no
def vx_atS (own : String) (ic : Nat) (X : String) (names : List String) : List Cond := (Bundle.ownAtoms own ic X names).filter vx_no
/-- a word that the tables alone decide, or a good one -/
def vx_ot (w : Cond) : Bool := w.onTables || goodWord w
theorem vx_ot_at {args a' : Array Value} {s U : State} {w : Cond} (hW : s.WarmedH U.vm) (hvm : s.vm = U.vm) (hg : vx_ot w = true) (h : w.before args s = true) : w.before a' U = true := by
  simp only [vx_ot, Bool.or_eq_true] at hg
  rcases hg with hg | hg
  · exact va_tabs hg hvm h
  · exact word_at hW (good_of_word hg) h
/-- a list's words: the good ones out of the method's own list, the others by premises of their own -/
theorem vx_hat {args : Array Value} {s : State} {L B : List Cond} (h1 : ∀ w ∈ L.filter goodWord, w.before args s = true) (h2 : ∀ w ∈ L.filter (fun w => !goodWord w), w ∈ B) (h3 : ∀ w ∈ B, w.before args s = true) : ∀ w ∈ L, w.before args s = true := by
  intro w hw
  by_cases g : goodWord w = true
  · exact h1 w (List.mem_filter.mpr ⟨hw, g⟩)
  · refine h3 w (h2 w (List.mem_filter.mpr ⟨hw, ?_⟩))
    show (!goodWord w) = true
    cases hgw : goodWord w
    · rfl
    · exact absurd hgw g
theorem vx_c {args : Array Value} {s : State} {w : Cond} {B : List Cond} (h : w.before args s = true) (t : ∀ w ∈ B, w.before args s = true) : ∀ w' ∈ w :: B, w'.before args s = true := fun w' h' => (List.mem_cons.mp h').elim (fun e => by rw [e]; exact h) (t w')
theorem vx_n {args : Array Value} {s : State} : ∀ w ∈ ([] : List Cond), w.before args s = true := fun _ h => nomatch h
theorem vx_own {args : Array Value} {s : State} {L : List Cond} (h1 : ∀ w ∈ L.filter vx_no, w.before args s = true)
    (hU : (Cond.isRef (.static Bundle.tN "UNASSIGNED_STACK" Bundle.steD)).before args s = true) (hN : (Cond.isRef (.static Bundle.tN "SUPPRESSED_SENTINEL" Bundle.listD)).before args s = true)
    (lU : (Cond.laysStatic Bundle.tN "UNASSIGNED_STACK" Bundle.steD).before args s = true) (lN : (Cond.laysStatic Bundle.tN "SUPPRESSED_SENTINEL" Bundle.listD).before args s = true) : ∀ w ∈ L, w.before args s = true := by
  intro w hw
  by_cases e1 : w = .isRef (.static Bundle.tN "UNASSIGNED_STACK" Bundle.steD)
  · rw [e1]; exact hU
  · by_cases e2 : w = .isRef (.static Bundle.tN "SUPPRESSED_SENTINEL" Bundle.listD)
    · rw [e2]; exact hN
    · by_cases e3 : w = .laysStatic Bundle.tN "UNASSIGNED_STACK" Bundle.steD
      · rw [e3]; exact lU
      · by_cases e4 : w = .laysStatic Bundle.tN "SUPPRESSED_SENTINEL" Bundle.listD
        · rw [e4]; exact lN
        · exact h1 w (List.mem_filter.mpr ⟨hw, by unfold vx_no; rw [decide_eq_true e1, decide_eq_true e2, decide_eq_true e3, decide_eq_true e4]; rfl⟩)
/-- where a static field lies, its class's statics cell in H -/
def vx_L (C n d : String) (A : Nat → Prop) (U : State) (H : Heap) : Prop := ∃ (c : ClassId) (k : Class) (i : Nat) (f : Field) (a : Nat) (cell : Cell), U.vm.findClass C = some c ∧ U.fieldFound? C n d = some (c, k, i, f) ∧ f.isStatic = true ∧ k.statics = some a ∧ H[a]? = some cell ∧ cell.vm.isStatics = true ∧ cell.cls = c ∧ f.slot < cell.slots.size ∧ k.staticTypes[f.slot]? = some f.type ∧ ¬ A a
theorem vx_L.moved {C n d : String} {A : Nat → Prop} {u U : State} {H : Heap} (hvm : u.vm.Alike U.vm) (h : vx_L C n d A u H) : vx_L C n d A U H := by
  obtain ⟨c, k, i, f, a, cell, h1, h2, h3, h4, h5, h6, h7, h8, h9, h10⟩ := h
  obtain ⟨k', hi', he⟩ := State.fieldFound?_setVm hvm h2
  exact ⟨c, k', i, f, a, cell, by rw [hvm.findClass]; exact h1, hi', h3, by rw [he]; exact h4, h5, h6, h7, h8, by rw [he]; exact h9, h10⟩
theorem vx_L.kept {C n d : String} {A : Nat → Prop} {U : State} {H H1 : Heap} (h : vx_L C n d A U H) (hq : ∀ a : Nat, a < H.size → ¬ A a → H1[a]? = H[a]?) : vx_L C n d A U H1 := by
  obtain ⟨c, k, i, f, a, cell, h1, h2, h3, h4, h5, h6, h7, h8, h9, h10⟩ := h
  exact ⟨c, k, i, f, a, cell, h1, h2, h3, h4, by rw [hq a (Array.getElem?_eq_some_iff.mp h5).1 h10]; exact h5, h6, h7, h8, h9, h10⟩
theorem vx_L.narrow {C n d : String} {A B : Nat → Prop} {U : State} {H : Heap} (h : vx_L C n d A U H) (hAB : ∀ q, B q → A q) : vx_L C n d B U H := by
  obtain ⟨c, k, i, f, a, cell, h1, h2, h3, h4, h5, h6, h7, h8, h9, h10⟩ := h
  exact ⟨c, k, i, f, a, cell, h1, h2, h3, h4, h5, h6, h7, h8, h9, fun z => h10 (hAB _ z)⟩
theorem vx_L.word {C n d : String} {A : Nat → Prop} {s : State} {args : Array Value} (h : vx_L C n d A s s.heap) : (Cond.laysStatic C n d).before args s = true := by
  obtain ⟨c, k, i, f, a, cell, h1, h2, h3, h4, h5, h6, h7, h8, h9, -⟩ := h
  show (Cond.laysStatic C n d).holds args s none s [] = true
  exact Cond.laysStatic_of h1 h2 h3 h4 h5 h6 h7 h8 h9
/-- .. and what it holds: null or some reference -/
def vx_Zq (C n d : String) (A : Nat → Prop) (U : State) (H : Heap) : Prop := va_Zq C n d A U H ∧ vx_L C n d A U H
theorem vx_Zq.moved {C n d : String} {A : Nat → Prop} {u U : State} {H : Heap} (hvm : u.vm.Alike U.vm) (h : vx_Zq C n d A u H) : vx_Zq C n d A U H := ⟨va_Zq.moved hvm h.1, vx_L.moved hvm h.2⟩
theorem vx_Zq.kept {C n d : String} {A : Nat → Prop} {U : State} {H H1 : Heap} (h : vx_Zq C n d A U H) (hq : ∀ a : Nat, a < H.size → ¬ A a → H1[a]? = H[a]?) : vx_Zq C n d A U H1 := ⟨va_Zq.kept h.1 hq, vx_L.kept h.2 hq⟩
theorem vx_Zq.narrow {C n d : String} {A B : Nat → Prop} {U : State} {H : Heap} (h : vx_Zq C n d A U H) (hAB : ∀ q, B q → A q) : vx_Zq C n d B U H := ⟨va_Zq.narrow h.1 hAB, vx_L.narrow h.2 hAB⟩
theorem vx_Zqof {args : Array Value} {s : State} {C n d : String} {A : Nat → Prop} (hl : (Cond.laysStatic C n d).before args s = true) (hini : (Cond.initialized C).before args s = true) (h : (Cond.isRef (.static C n d)).before args s = true) (hA : ∀ a : Nat, a < s.heap.size → ¬ A a) : vx_Zq C n d A s s.heap := by
  refine ⟨va_Zqof hl hini h hA, ?_⟩
  obtain ⟨c, k, i, f, a, cell, h1, h2, h3, h4, h5, h6, h7, h8, h9⟩ := Cond.laysStatic_spec hl
  exact ⟨c, k, i, f, a, cell, h1, h2, h3, h4, h5, h6, h7, h8, h9, hA a (Array.getElem?_eq_some_iff.mp h5).1⟩
theorem vx_isRef {C n d : String} {v : Value} {A : Nat → Prop} {s : State} {args : Array Value} (h : va_Z C n d v A s s.heap) (hv : v.isRef = true) : (Cond.isRef (.static C n d)).before args s = true := by
  obtain ⟨cf, kf, fi, f, a, cell, h1, h2, h3, h4, h5, h6, h7, -⟩ := h
  have he : (Term.static C n d).eval args s none [] s = some v := by
    simp [Term.eval, State.fieldNamed?, h1, h2, h4, h5, h6, h7]
  simp only [Cond.before, Cond.holds, Cond.value, he]
  cases v <;> simp_all [Value.isRef]
theorem vx_isRefq {C n d : String} {A : Nat → Prop} {s : State} {args : Array Value} (h : va_Zq C n d A s s.heap) : (Cond.isRef (.static C n d)).before args s = true := by
  rcases h with h | ⟨t, h⟩
  · exact vx_isRef h rfl
  · exact vx_isRef h rfl
/-- the same frame, seen from here: as if the method were called anew in this heap -/
theorem vx_rebase {T : State} (X : Stand p l e R s m args below meth c T locs cells slots) {R' : Room} (hf : R'.frames ≤ R.frames) (hl : R'.locals ≤ R.locals) (hc : cells + R'.cells ≤ R.cells) (hs : slots + R'.slots ≤ R.slots) :
    Stand p l e R' ((T.setVm s.vm).setFrames (.invoking m args :: below)) m args below meth c T [] 0 0 := by
  have htop : (T.setVm s.vm).topJava?.isSome := X.here.top
  have hF : ((T.setVm s.vm).setFrames (.invoking m args :: below)).frames = .invoking m args :: below := State.frames_setFrames _ (State.cur_lt_of_top htop)
  obtain ⟨g₀, hg0⟩ := Option.isSome_iff_exists.mp htop
  obtain ⟨r, hr⟩ := State.topJava?_eq_some.mp hg0
  have hl9 : e.platform.stackLimits (T.setVm s.vm).me = e.platform.stackLimits s.me := X.limits
  have hb9 : (T.setVm s.vm).me.stackBytes = s.me.stackBytes := X.bytes
  refine ⟨X.admits, X.cas, X.clock, hF, ?_, X.hears, X.method, X.code, X.here, X.tail, X.warmed, ?_, ?_, ?_⟩
  · have h := X.room
    have hU : ((T.setVm s.vm).setFrames (.invoking m args :: below)).localsInUse = s.localsInUse := by
      rw [State.localsInUse_invoking hF (meth := meth) (c := c) X.method X.code, State.localsInUse_invoking X.frames X.method X.code]
    simp only [State.hasRoom, Bool.and_eq_true, decide_eq_true_eq] at h ⊢
    obtain ⟨⟨⟨⟨h1, h2, h3, h4, h5, h6⟩, h7⟩, h8⟩, h9⟩ := h
    rw [X.frames, List.length_cons] at h2 h3
    have q1 := X.heapSize
    have q2 := X.used
    simp only [hF, hU, List.length_cons, State.stackLimits_setFrames, State.stackBytes_setFrames, hl9, hb9]
    refine ⟨⟨⟨⟨by omega, by omega, by omega, by omega, by omega, h6⟩, ?_⟩, ?_⟩, X.book⟩
    · show T.heap.size + R'.cells ≤ e.platform.maxCells
      omega
    · show T.slotsUsed + R'.slots ≤ e.platform.maxSlots
      omega
  · rw [State.stackLimits_setFrames]; rfl
  · rw [State.stackBytes_setFrames]; rfl
  · refine ⟨?_, Nat.le_refl _, Nat.le_refl _, ?_, ?_, fun a c9 h9 => ⟨c9, h9, rfl, rfl, fun _ _ => rfl⟩⟩
    · obtain ⟨t, ht, -⟩ := State.frames_cons hr
      show T.setVm s.vm = { ((T.setVm s.vm).setFrames (.invoking m args :: below)).setFrames (T.setVm s.vm).frames with heap := T.heap, slotsUsed := T.slotsUsed }
      rw [State.setFrames_setFrames, State.setFrames_self ht]
      rfl
    · show T.slotsUsed = T.slotsUsed + ((T.heap.toList.drop T.heap.size).map (·.slots.size)).sum
      rw [List.drop_eq_nil_of_le (Nat.le_of_eq Array.length_toList)]
      rfl
    · show ((T.heap.toList.drop T.heap.size).map (·.slots.size)).sum ≤ 0
      rw [List.drop_eq_nil_of_le (Nat.le_of_eq Array.length_toList)]
      exact Nat.le_refl _
/-- 'throw new E()': new; dup; invokespecial; athrow -/
theorem vx_throw0 {cc : ByteArray} {pc : Nat} (hexec : p.tables.exec = Jvm.exec) (hb : c.code = cc) (hl : l.stackTraces = false) {own cls : String} {names : List String} {ik ic mc ms : Nat} {A : Nat → Prop}
    (hown : s.vm.findClass own = some m.cls) (hcls : Bundle.fit cls = true) (hnames : ∀ n ∈ names, Bundle.fit n = true)
    (hk : (Cond.classLink own ik cls).before args s = true) (hini : (Cond.initialized cls).before args s = true) (hat : ∀ w ∈ vx_at0 own ic cls names, w.before args s = true)
    (hgood : ∀ w ∈ Cond.classLink own ik cls :: Cond.initialized cls :: vx_at0 own ic cls names, vx_ot w = true)
    (hU : vx_Zq Bundle.tN "UNASSIGNED_STACK" Bundle.steD A s s.heap) (hN : vx_Zq Bundle.tN "SUPPRESSED_SENTINEL" Bundle.listD A s s.heap) (hS : va_S A s.heap H locs) (hsize : ls.size = c.maxLocals)
    (d0 : decode cc pc = .ok (.new ik, 3)) (d3 : decode cc (pc + 3) = .ok (.dup, 1)) (d4 : decode cc (pc + 4) = .ok (.invokespecial ic, 3)) (d7 : decode cc (pc + 7) = .ok (.athrow, 1))
    (hout : ∀ x ∈ c.exceptionTable.toList, covers x (pc + 7) = false)
    (hRframes : names.length + 3 < R.frames) (hRlocals : (rest.map fun v => v.category).sum + (13 * (names.length + 1) + 42) ≤ R.locals) (hRcells : cells + 1 ≤ R.cells) (hRslots : slots + 6 ≤ R.slots) (hlocks : meth.locks = false)
    (hx : ∀ t : State, s.vm.Alike t.vm → H.size ≤ t.heap.size → (∀ q : Nat, q < H.size → t.heap[q]? = H[q]?) → XC cls s t)
    (hf : ∀ z ∈ locs, free z.base) (hc : cells + 1 ≤ mc) (hs : slots + 6 ≤ ms) :
    W p l e R s m args below meth c H locs cells slots (vx_MQ below Qc XC args s mc ms free) (F0 m pc ls rest) := by
  intro T hT X
  have htr : e.platform.stackTraces = false := (show e.platform.stackTraces = l.stackTraces by rw [X.admits.platform]).trans hl
  have Y := vx_rebase X (R' := { frames := R.frames, locals := R.locals, cells := 1, slots := 6 }) (Nat.le_refl _) (Nat.le_refl _) hRcells hRslots
  obtain ⟨s', hA⟩ : ∃ z, z = (T.setVm s.vm).setFrames (.invoking m args :: below) := ⟨_, rfl⟩
  rw [← hA] at Y
  have hvm : s'.vm = s.vm := by rw [hA]; rfl
  have hhp : s'.heap = H := by rw [hA]; exact hT
  have hW0 : s.WarmedH s'.vm := by rw [hvm]; exact State.WarmedH.refl s
  have hat' : ∀ w ∈ vx_at0 own ic cls names, w.before args s' = true := fun w hw => vx_ot_at hW0 hvm.symm (hgood w (List.mem_cons_of_mem _ (List.mem_cons_of_mem _ hw))) (hat w hw)
  have hk' : (Cond.classLink own ik cls).before args s' = true := vx_ot_at hW0 hvm.symm (hgood _ List.mem_cons_self) hk
  have hini' : (Cond.initialized cls).before args s' = true := vx_ot_at hW0 hvm.symm (hgood _ (List.mem_cons_of_mem _ List.mem_cons_self)) hini
  have hU' : vx_Zq Bundle.tN "UNASSIGNED_STACK" Bundle.steD A s' s'.heap := by rw [hhp]; exact vx_Zq.moved hW0.alike (hU.kept hS.2.1)
  have hN' : vx_Zq Bundle.tN "SUPPRESSED_SENTINEL" Bundle.listD A s' s'.heap := by rw [hhp]; exact vx_Zq.moved hW0.alike (hN.kept hS.2.1)
  have h : ∀ w ∈ Bundle.ownAtoms0 own ic cls names, w.before args s' = true := vx_own hat' (vx_isRefq hU'.1) (vx_isRefq hN'.1) hU'.2.word hN'.2.word
  have hown' : s'.vm.findClass own = some m.cls := by rw [hvm]; exact hown
  have hins : (Cond.instantiable cls 6).before args s' = true := h _ (by simp [Bundle.ownAtoms0])
  obtain ⟨vm₁, cX, kX, hfX, hkX, -, -, X₁, st1⟩ := Y.newCold hexec (own := own) (C := cls) (index := ik) (n := 6) hown' hk' hins hini'
    (g := F0 m pc ls rest) rfl (by rw [hb]; exact d0) (Nat.le_refl _) (Nat.le_refl _)
  generalize hT1 : (T.setVm vm₁).pushCell { cls := cX, slots := kX.instanceTypes.map defaultValue, vm := .none } = T1 at X₁ st1
  have hcat : (Value.ref T.heap.size).category = 1 := rfl
  have hcellA : T1.heap[T.heap.size]? = some (freshCell cX kX) := by rw [← hT1]; exact State.heap_pushCell_size _ _
  have d3' : decode c.code (pc + 3) = .ok (.dup, 1) := by rw [hb]; exact d3
  obtain ⟨U, hsteps, hrun, hend, hW, hsame, ce, hce, hO⟩ := X₁.ctorThrow0 hexec htr (own := own) (cls := cls) (names := names) (ic := ic) hown' hcls hnames h (fun x hx => nomatch hx) hfX hkX hcellA (by rw [hhp, hT]; exact Nat.le_refl _)
    (g := { method := m, pc := pc + 4, locals := ls, stack := .ref T.heap.size :: .ref T.heap.size :: rest, locked := none }) rfl hsize rfl rfl (rest := rest) rfl
    (by rw [hb]; exact d4) (by rw [hb]; exact d7) hout hRframes (by simp only [List.map_cons, List.sum_cons, hcat]; omega) hlocks
  obtain ⟨f1, f2⟩ := vx_frame hsame
  rw [hhp] at f1 f2
  have hWs : s.WarmedH U.vm := State.WarmedH.trans hW0 hW
  have hcl : s.vm.findClass cls = some ce.cls := by
    have h9 := hO.cls
    rw [hvm] at h9
    exact h9
  have hall : s.sameButNew ({ U with vm := s.vm } : State) locs mc ms := by
    subst hA
    obtain ⟨e1, e2⟩ := hsame
    rw [State.setFrames_setFrames] at e1
    have h2 : (T.setVm s.vm).sameButNew ({ U with vm := s.vm } : State) [] (0 + 1) (0 + 6) := ⟨e1, e2⟩
    have h3 := X.same.trans h2
    rw [List.append_nil] at h3
    exact h3.mono hc hs
  refine ⟨U, ?_, .threw T.heap.size, hrun, hend, Or.inr ⟨T.heap.size, rfl, cls, ce, locs, hx U hWs.alike f1 (fun q hq => f2 q hq (fun z hz => nomatch hz)), hce, hO.vm, hcl, hWs, hall, hf⟩⟩
  refine st1 _ ?_
  show Steps p.tables e below (T1.setTop { method := m, pc := pc + 3, locals := ls, stack := .ref T.heap.size :: rest, locked := none }) _
  jvm_step X₁.here [X₁.here.top, hexec, d3', Value.category]
  exact hsteps
/-- 'throw new E("text")': new; dup; ldc; invokespecial; athrow -/
theorem vx_throwS {cc : ByteArray} {pc : Nat} (hexec : p.tables.exec = Jvm.exec) (hb : c.code = cc) (hl : l.stackTraces = false) {own cls text : String} {names : List String} {ik is ic mc ms sa : Nat} {A : Nat → Prop}
    (hown : s.vm.findClass own = some m.cls) (hcls : Bundle.fit cls = true) (hnames : ∀ n ∈ names, Bundle.fit n = true)
    (hk : (Cond.classLink own ik cls).before args s = true) (hini : (Cond.initialized cls).before args s = true) (hstr : vk_R own is text sa s) (hat : ∀ w ∈ vx_atS own ic cls names, w.before args s = true)
    (hgood : ∀ w ∈ Cond.classLink own ik cls :: Cond.initialized cls :: vx_atS own ic cls names, vx_ot w = true)
    (hU : vx_Zq Bundle.tN "UNASSIGNED_STACK" Bundle.steD A s s.heap) (hN : vx_Zq Bundle.tN "SUPPRESSED_SENTINEL" Bundle.listD A s s.heap) (hS : va_S A s.heap H locs) (hsize : ls.size = c.maxLocals)
    (d0 : decode cc pc = .ok (.new ik, 3)) (d3 : decode cc (pc + 3) = .ok (.dup, 1)) (d4 : decode cc (pc + 4) = .ok (.ldc is, 2)) (d6 : decode cc (pc + 6) = .ok (.invokespecial ic, 3)) (d9 : decode cc (pc + 9) = .ok (.athrow, 1))
    (hout : ∀ x ∈ c.exceptionTable.toList, covers x (pc + 9) = false)
    (hRframes : names.length + 3 < R.frames) (hRlocals : (rest.map fun v => v.category).sum + (13 * (names.length + 1) + 43) ≤ R.locals) (hRcells : cells + 1 ≤ R.cells) (hRslots : slots + 6 ≤ R.slots) (hlocks : meth.locks = false)
    (hx : ∀ t : State, s.vm.Alike t.vm → H.size ≤ t.heap.size → (∀ q : Nat, q < H.size → t.heap[q]? = H[q]?) → XC cls s t)
    (hf : ∀ z ∈ locs, free z.base) (hc : cells + 1 ≤ mc) (hs : slots + 6 ≤ ms) :
    W p l e R s m args below meth c H locs cells slots (vx_MQ below Qc XC args s mc ms free) (F0 m pc ls rest) := by
  intro T hT X
  have htr : e.platform.stackTraces = false := (show e.platform.stackTraces = l.stackTraces by rw [X.admits.platform]).trans hl
  have Y := vx_rebase X (R' := { frames := R.frames, locals := R.locals, cells := 1, slots := 6 }) (Nat.le_refl _) (Nat.le_refl _) hRcells hRslots
  obtain ⟨s', hA⟩ : ∃ z, z = (T.setVm s.vm).setFrames (.invoking m args :: below) := ⟨_, rfl⟩
  rw [← hA] at Y
  have hvm : s'.vm = s.vm := by rw [hA]; rfl
  have hhp : s'.heap = H := by rw [hA]; exact hT
  have hW0 : s.WarmedH s'.vm := by rw [hvm]; exact State.WarmedH.refl s
  have hat' : ∀ w ∈ vx_atS own ic cls names, w.before args s' = true := fun w hw => vx_ot_at hW0 hvm.symm (hgood w (List.mem_cons_of_mem _ (List.mem_cons_of_mem _ hw))) (hat w hw)
  have hk' : (Cond.classLink own ik cls).before args s' = true := vx_ot_at hW0 hvm.symm (hgood _ List.mem_cons_self) hk
  have hini' : (Cond.initialized cls).before args s' = true := vx_ot_at hW0 hvm.symm (hgood _ (List.mem_cons_of_mem _ List.mem_cons_self)) hini
  have hU' : vx_Zq Bundle.tN "UNASSIGNED_STACK" Bundle.steD A s' s'.heap := by rw [hhp]; exact vx_Zq.moved hW0.alike (hU.kept hS.2.1)
  have hN' : vx_Zq Bundle.tN "SUPPRESSED_SENTINEL" Bundle.listD A s' s'.heap := by rw [hhp]; exact vx_Zq.moved hW0.alike (hN.kept hS.2.1)
  have h : ∀ w ∈ Bundle.ownAtoms own ic cls names, w.before args s' = true := vx_own hat' (vx_isRefq hU'.1) (vx_isRefq hN'.1) hU'.2.word hN'.2.word
  have hown' : s'.vm.findClass own = some m.cls := by rw [hvm]; exact hown
  have hins : (Cond.instantiable cls 6).before args s' = true := h _ (by simp [Bundle.ownAtoms])
  obtain ⟨vm₁, cX, kX, hfX, hkX, -, -, X₁, st1⟩ := Y.newCold hexec (own := own) (C := cls) (index := ik) (n := 6) hown' hk' hins hini'
    (g := F0 m pc ls rest) rfl (by rw [hb]; exact d0) (Nat.le_refl _) (Nat.le_refl _)
  generalize hT1 : (T.setVm vm₁).pushCell { cls := cX, slots := kX.instanceTypes.map defaultValue, vm := .none } = T1 at X₁ st1
  have hcat : (Value.ref T.heap.size).category = 1 := rfl
  have hcellA : T1.heap[T.heap.size]? = some (freshCell cX kX) := by rw [← hT1]; exact State.heap_pushCell_size _ _
  have d3' : decode c.code (pc + 3) = .ok (.dup, 1) := by rw [hb]; exact d3
  have d4' : decode c.code (pc + 4) = .ok (.ldc is, 2) := by rw [hb]; exact d4
  have hstr' : vk_R own is text sa s' := vk_R.warm hW0 hstr
  obtain ⟨U, hsteps, hrun, hend, hW, hsame, ce, hce, hO⟩ := X₁.ctorThrowS hexec htr (own := own) (cls := cls) (names := names) (ic := ic) hown' hcls hnames h (fun x hx => nomatch hx) hfX hkX hcellA (by rw [hhp, hT]; exact Nat.le_refl _) (msg := .ref sa) rfl
    (g := { method := m, pc := pc + 6, locals := ls, stack := .ref sa :: .ref T.heap.size :: .ref T.heap.size :: rest, locked := none }) rfl hsize rfl rfl (rest := rest) rfl
    (by rw [hb]; exact d6) (by rw [hb]; exact d9) hout hRframes (by simp only [List.map_cons, List.sum_cons, hcat]; omega) hlocks
  obtain ⟨f1, f2⟩ := vx_frame hsame
  rw [hhp] at f1 f2
  have hWs : s.WarmedH U.vm := State.WarmedH.trans hW0 hW
  have hcl : s.vm.findClass cls = some ce.cls := by
    have h9 := hO.cls
    rw [hvm] at h9
    exact h9
  have hall : s.sameButNew ({ U with vm := s.vm } : State) locs mc ms := by
    subst hA
    obtain ⟨e1, e2⟩ := hsame
    rw [State.setFrames_setFrames] at e1
    have h2 : (T.setVm s.vm).sameButNew ({ U with vm := s.vm } : State) [] (0 + 1) (0 + 6) := ⟨e1, e2⟩
    have h3 := X.same.trans h2
    rw [List.append_nil] at h3
    exact h3.mono hc hs
  refine ⟨U, ?_, .threw T.heap.size, hrun, hend, Or.inr ⟨T.heap.size, rfl, cls, ce, locs, hx U hWs.alike f1 (fun q hq => f2 q hq (fun z hz => nomatch hz)), hce, hO.vm, hcl, hWs, hall, hf⟩⟩
  refine st1 _ ?_
  show Steps p.tables e below (T1.setTop { method := m, pc := pc + 3, locals := ls, stack := .ref T.heap.size :: rest, locked := none }) _
  jvm_step X₁.here [X₁.here.top, hexec, d3', Value.category]
  exact X₁.ldcString hexec (own := own) (text := text) (index := is) (a := sa) hown' hstr'.1 hstr'.2
    (g := { method := m, pc := pc + 4, locals := ls, stack := .ref T.heap.size :: .ref T.heap.size :: rest, locked := none }) rfl d4' _ hsteps
/-- 'throw new E("text")', the text by a wide index -/
theorem vx_throwSW {cc : ByteArray} {pc : Nat} (hexec : p.tables.exec = Jvm.exec) (hb : c.code = cc) (hl : l.stackTraces = false) {own cls text : String} {names : List String} {ik is ic mc ms sa : Nat} {A : Nat → Prop}
    (hown : s.vm.findClass own = some m.cls) (hcls : Bundle.fit cls = true) (hnames : ∀ n ∈ names, Bundle.fit n = true)
    (hk : (Cond.classLink own ik cls).before args s = true) (hini : (Cond.initialized cls).before args s = true) (hstr : vk_R own is text sa s) (hat : ∀ w ∈ vx_atS own ic cls names, w.before args s = true)
    (hgood : ∀ w ∈ Cond.classLink own ik cls :: Cond.initialized cls :: vx_atS own ic cls names, vx_ot w = true)
    (hU : vx_Zq Bundle.tN "UNASSIGNED_STACK" Bundle.steD A s s.heap) (hN : vx_Zq Bundle.tN "SUPPRESSED_SENTINEL" Bundle.listD A s s.heap) (hS : va_S A s.heap H locs) (hsize : ls.size = c.maxLocals)
    (d0 : decode cc pc = .ok (.new ik, 3)) (d3 : decode cc (pc + 3) = .ok (.dup, 1)) (d4 : decode cc (pc + 4) = .ok (.ldc_w is, 3)) (d7 : decode cc (pc + 7) = .ok (.invokespecial ic, 3)) (d10 : decode cc (pc + 10) = .ok (.athrow, 1))
    (hout : ∀ x ∈ c.exceptionTable.toList, covers x (pc + 10) = false)
    (hRframes : names.length + 3 < R.frames) (hRlocals : (rest.map fun v => v.category).sum + (13 * (names.length + 1) + 43) ≤ R.locals) (hRcells : cells + 1 ≤ R.cells) (hRslots : slots + 6 ≤ R.slots) (hlocks : meth.locks = false)
    (hx : ∀ t : State, s.vm.Alike t.vm → H.size ≤ t.heap.size → (∀ q : Nat, q < H.size → t.heap[q]? = H[q]?) → XC cls s t)
    (hf : ∀ z ∈ locs, free z.base) (hc : cells + 1 ≤ mc) (hs : slots + 6 ≤ ms) :
    W p l e R s m args below meth c H locs cells slots (vx_MQ below Qc XC args s mc ms free) (F0 m pc ls rest) := by
  intro T hT X
  have htr : e.platform.stackTraces = false := (show e.platform.stackTraces = l.stackTraces by rw [X.admits.platform]).trans hl
  have Y := vx_rebase X (R' := { frames := R.frames, locals := R.locals, cells := 1, slots := 6 }) (Nat.le_refl _) (Nat.le_refl _) hRcells hRslots
  obtain ⟨s', hA⟩ : ∃ z, z = (T.setVm s.vm).setFrames (.invoking m args :: below) := ⟨_, rfl⟩
  rw [← hA] at Y
  have hvm : s'.vm = s.vm := by rw [hA]; rfl
  have hhp : s'.heap = H := by rw [hA]; exact hT
  have hW0 : s.WarmedH s'.vm := by rw [hvm]; exact State.WarmedH.refl s
  have hat' : ∀ w ∈ vx_atS own ic cls names, w.before args s' = true := fun w hw => vx_ot_at hW0 hvm.symm (hgood w (List.mem_cons_of_mem _ (List.mem_cons_of_mem _ hw))) (hat w hw)
  have hk' : (Cond.classLink own ik cls).before args s' = true := vx_ot_at hW0 hvm.symm (hgood _ List.mem_cons_self) hk
  have hini' : (Cond.initialized cls).before args s' = true := vx_ot_at hW0 hvm.symm (hgood _ (List.mem_cons_of_mem _ List.mem_cons_self)) hini
  have hU' : vx_Zq Bundle.tN "UNASSIGNED_STACK" Bundle.steD A s' s'.heap := by rw [hhp]; exact vx_Zq.moved hW0.alike (hU.kept hS.2.1)
  have hN' : vx_Zq Bundle.tN "SUPPRESSED_SENTINEL" Bundle.listD A s' s'.heap := by rw [hhp]; exact vx_Zq.moved hW0.alike (hN.kept hS.2.1)
  have h : ∀ w ∈ Bundle.ownAtoms own ic cls names, w.before args s' = true := vx_own hat' (vx_isRefq hU'.1) (vx_isRefq hN'.1) hU'.2.word hN'.2.word
  have hown' : s'.vm.findClass own = some m.cls := by rw [hvm]; exact hown
  have hins : (Cond.instantiable cls 6).before args s' = true := h _ (by simp [Bundle.ownAtoms])
  obtain ⟨vm₁, cX, kX, hfX, hkX, -, -, X₁, st1⟩ := Y.newCold hexec (own := own) (C := cls) (index := ik) (n := 6) hown' hk' hins hini'
    (g := F0 m pc ls rest) rfl (by rw [hb]; exact d0) (Nat.le_refl _) (Nat.le_refl _)
  generalize hT1 : (T.setVm vm₁).pushCell { cls := cX, slots := kX.instanceTypes.map defaultValue, vm := .none } = T1 at X₁ st1
  have hcat : (Value.ref T.heap.size).category = 1 := rfl
  have hcellA : T1.heap[T.heap.size]? = some (freshCell cX kX) := by rw [← hT1]; exact State.heap_pushCell_size _ _
  have d3' : decode c.code (pc + 3) = .ok (.dup, 1) := by rw [hb]; exact d3
  have d4' : decode c.code (pc + 4) = .ok (.ldc_w is, 3) := by rw [hb]; exact d4
  have hstr' : vk_R own is text sa s' := vk_R.warm hW0 hstr
  obtain ⟨U, hsteps, hrun, hend, hW, hsame, ce, hce, hO⟩ := X₁.ctorThrowS hexec htr (own := own) (cls := cls) (names := names) (ic := ic) hown' hcls hnames h (fun x hx => nomatch hx) hfX hkX hcellA (by rw [hhp, hT]; exact Nat.le_refl _) (msg := .ref sa) rfl
    (g := { method := m, pc := pc + 7, locals := ls, stack := .ref sa :: .ref T.heap.size :: .ref T.heap.size :: rest, locked := none }) rfl hsize rfl rfl (rest := rest) rfl
    (by rw [hb]; exact d7) (by rw [hb]; exact d10) hout hRframes (by simp only [List.map_cons, List.sum_cons, hcat]; omega) hlocks
  obtain ⟨f1, f2⟩ := vx_frame hsame
  rw [hhp] at f1 f2
  have hWs : s.WarmedH U.vm := State.WarmedH.trans hW0 hW
  have hcl : s.vm.findClass cls = some ce.cls := by
    have h9 := hO.cls
    rw [hvm] at h9
    exact h9
  have hall : s.sameButNew ({ U with vm := s.vm } : State) locs mc ms := by
    subst hA
    obtain ⟨e1, e2⟩ := hsame
    rw [State.setFrames_setFrames] at e1
    have h2 : (T.setVm s.vm).sameButNew ({ U with vm := s.vm } : State) [] (0 + 1) (0 + 6) := ⟨e1, e2⟩
    have h3 := X.same.trans h2
    rw [List.append_nil] at h3
    exact h3.mono hc hs
  refine ⟨U, ?_, .threw T.heap.size, hrun, hend, Or.inr ⟨T.heap.size, rfl, cls, ce, locs, hx U hWs.alike f1 (fun q hq => f2 q hq (fun z hz => nomatch hz)), hce, hO.vm, hcl, hWs, hall, hf⟩⟩
  refine st1 _ ?_
  show Steps p.tables e below (T1.setTop { method := m, pc := pc + 3, locals := ls, stack := .ref T.heap.size :: rest, locked := none }) _
  jvm_step X₁.here [X₁.here.top, hexec, d3', Value.category]
  exact X₁.ldcStringW hexec (own := own) (text := text) (index := is) (a := sa) hown' hstr'.1 hstr'.2
    (g := { method := m, pc := pc + 4, locals := ls, stack := .ref T.heap.size :: .ref T.heap.size :: rest, locked := none }) rfl d4' _ hsteps
end Ends
section Bodies
variable {l : Launch}
theorem vx_ofW {y : MethodName} {ws ws' : List Cond} {rm : Room} {Pc : Array Value → State → Prop} {Qc : Array Value → State → Outcome → State → Prop} {XC : String → State → State → Prop} {mc ms : Nat} {free : Addr → Prop} {cc : ByteArray} {maxL : Nat} {ret : Option FieldType}
    (hy : plainName y.cls = true) (hw : ws = Cond.code y cc maxL ret :: ws')
    (body : ∀ p e s m args below meth c s₁, BodyLoose p l y (headSpec ws rm) cc maxL ret e s m args below meth c s₁ → c.maxLocals = maxL → (∀ x ∈ c.exceptionTable.toList, False) → Pc args s →
      W p l e (headSpec ws rm).room s m args below meth c s.heap [] 0 0 (vx_MQ below Qc XC args s mc ms free) (entryFrame m args maxL)) : vx_Met l y ws rm Pc Qc XC mc ms free := by
  refine MetFree.of_bodyS (code := cc) (maxLocals := maxL) (ret := ret) hy ?_ ?_
  · intro args s m h hn
    obtain ⟨meth, c, h1, h2, h3, h4, h5, h6, -, -⟩ := Cond.code_spec hn (atoms_spec (ws := ws) h _ (by rw [hw]; exact List.mem_cons_self))
    exact ⟨meth, c, h1, h2, h3, h4, h5, h6⟩
  · intro p e s m args below meth c s₁ B hml hP _
    have hh0 : s₁.heap = s.heap := by rw [B.state]; rfl
    have ht : ∀ x ∈ c.exceptionTable.toList, False := by
      obtain ⟨meth9, c9, h1, h2, -, -, -, -, h7, -⟩ := Cond.code_spec B.named (atoms_spec (ws := ws) B.pre _ (by rw [hw]; exact List.mem_cons_self))
      cases Option.some.inj (h1.symm.trans B.method)
      cases Option.some.inj (h2.symm.trans (Stand.of_body B).code)
      intro x hx
      rw [Array.isEmpty_iff.mp h7] at hx
      cases hx
    obtain ⟨t, a1, o, b1, b2, b3⟩ := body p e s m args below meth c s₁ B hml ht hP s₁ hh0 (Stand.of_body B)
    exact ⟨t, o, a1, b1, b2, b3⟩
/-- the table of a body with handlers -/
theorem vx_table {p : Program} {x y : MethodName} {S : Spec} {cc bytes : ByteArray} {maxL maxL' : Nat} {ret ret' : Option FieldType} {e : Env} {s s₁ : State} {m : MethodId} {args : Array Value} {below : List Frame} {meth : Method} {c : Code} {hh : List (Nat × Nat × Nat × Nat)}
    (B : BodyLoose p l y S cc maxL ret e s m args below meth c s₁) (h : (Cond.codeWith y bytes maxL' ret' hh).before args s = true) : c.exceptionTable.toList = tableOf hh := by
  obtain ⟨m9, meth9, c9, hn9, h1, h2, -, -, h6, -⟩ := Cond.codeWith_spec h
  cases Option.some.inj (hn9.symm.trans B.named)
  cases Option.some.inj (h1.symm.trans B.method)
  cases Option.some.inj (h2.symm.trans (Stand.of_body B).code)
  rw [← h6, table_eq]
end Bodies
end VXA
/-! ===== END ===== -/
/-! ===== BEGIN a static call of a method with an exception table ===== -/
section VXS
variable {p : Program} {l : Launch} {e : Env} {R : Room} {s : State} {m : MethodId} {args : Array Value} {below : List Frame} {meth : Method} {c : Code} {T : State} {H : Heap} {locs : List Loc} {cells slots : Nat}
abbrev vx_CSW (R : Room) (s : State) (args : Array Value) (own : String) (index : Nat) (y : MethodName) (bytes : ByteArray) (maxL : Nat) (ret : Option FieldType) (hh : List (Nat × Nat × Nat × Nat)) (ws : List Cond) (rm : Room) (mc ms n : Nat) : Prop :=
  (rm.cells = mc ∧ rm.slots = ms ∧ rm.frames + 1 ≤ R.frames ∧ 8 + (maxL + 11) + rm.locals ≤ R.locals ∧ (∀ w ∈ ws, ∀ (a' : Array Value) (U : State), s.WarmedH U.vm → w.before a' U = true) ∧ Cond.codeWith y bytes maxL ret hh ∈ ws) ∧
  (Cond.codeWith y bytes maxL ret hh).before args s = true ∧ (Cond.initialized y.cls).before args s = true ∧ (y.cls ≠ "java/lang/invoke/MethodHandle" ∧ y.cls ≠ "java/lang/invoke/VarHandle") ∧
  (∀ sig, parseMethodDescriptor y.desc = some sig → n = sig.parameters.length) ∧ (Cond.methodLink own index y).before args s = true ∧ (Cond.static y).before args s = true
theorem vx_cwSW {own : String} {index maxL mc ms : Nat} {y : MethodName} {bytes : ByteArray} {ret : Option FieldType} {hh : List (Nat × Nat × Nat × Nat)} {Ts ws ws' : List Cond} {rm : Room} (n : Nat) (ht : ∀ w ∈ Ts, w.before args s = true) (hT : GoodIn Ts (va_wsS own index y ws)) (hw : ws = Cond.codeWith y bytes maxL ret hh :: ws') (hrc : rm.cells = mc) (hrs : rm.slots = ms)
    (hd : y.cls ≠ "java/lang/invoke/MethodHandle" ∧ y.cls ≠ "java/lang/invoke/VarHandle" ∧ (parseMethodDescriptor y.desc).map (fun d => d.parameters.length) = some n) (hR : rm.frames + 1 ≤ R.frames ∧ 8 + (maxL + 11) + rm.locals ≤ R.locals) :
    vx_CSW R s args own index y bytes maxL ret hh ws rm mc ms n := by
  have ok : ∀ w ∈ va_wsS own index y ws, w.before args s = true := fun w h => ht w (hT w h).1
  have hG : GoodIn Ts ws := fun w h => hT w (by unfold va_wsS; exact List.mem_append_right _ h)
  have hc : Cond.codeWith y bytes maxL ret hh ∈ ws := by rw [hw]; exact List.mem_cons_self
  refine ⟨⟨hrc, hrs, hR.1, hR.2, pay_in ht hG, hc⟩, ht _ (hG _ hc).1, ok _ (by simp [va_wsS]), ⟨hd.1, hd.2.1⟩, fun sig h => ?_, ok _ (by simp [va_wsS]), ok _ (by simp [va_wsS])⟩
  have h2 := hd.2.2
  rw [h] at h2
  exact (Option.some.inj h2).symm
theorem vx_callSW (X : Stand p l e R s m args below meth c T locs cells slots) (hexec : p.tables.exec = Jvm.exec) {own : String} {index : Nat} {y : MethodName} {bytes : ByteArray} {maxL : Nat} {ret : Option FieldType} {hh : List (Nat × Nat × Nat × Nat)}
    (hown : s.vm.findClass own = some m.cls) (hlink : (Cond.methodLink own index y).before args s = true) (hstat : (Cond.static y).before args s = true) (hinit : (Cond.initialized y.cls).before args s = true)
    (hcode : (Cond.codeWith y bytes maxL ret hh).before args s = true) (hy : y.cls ≠ "java/lang/invoke/MethodHandle" ∧ y.cls ≠ "java/lang/invoke/VarHandle")
    {W9 : Nat} {Pre : Pt → Array Value → Prop} {Post : Pt → Array Value → Option Value → Pt → Prop} (hK : Back l R p e below s args y 3 W9 Pre Post)
    {g : JFrame} (hg : g.method = m) (hsize : g.locals.size = c.maxLocals) {argsL rest : List Value} (hlen : ∀ sig, parseMethodDescriptor y.desc = some sig → argsL.length = sig.parameters.length)
    (hstack : g.stack = argsL.reverse ++ rest) (hW : 2 * g.monitorRoom + (rest.map fun v => v.category).sum ≤ W9) (hdg : decode c.code g.pc = .ok (.invokestatic index, 3))
    (hpre : ∀ vm₁, s.WarmedH vm₁ → Pre ⟨T.setVm vm₁, locs, cells, slots⟩ argsL.toArray) :
    ∃ (v : Option Value) (vm₁ : Vm) (B : Pt), s.WarmedH vm₁ ∧ Stand p l e R s m args below meth c B.U B.locs B.cells B.slots ∧ Post ⟨T.setVm vm₁, locs, cells, slots⟩ argsL.toArray v B ∧
      ∀ target, Steps p.tables e below (B.U.setTop { g with pc := g.pc + 3, stack := v.toList ++ rest }) target → Steps p.tables e below (T.setTop g) target := by
  obtain ⟨mk, methM, cM, hnamed, hmethM, -, -, -, -, -, -, hsigM⟩ := Cond.codeWith_spec hcode
  have hstatic : methM.isStatic = true := Cond.static_spec hnamed hmethM hstat
  obtain ⟨kP, hkP, -⟩ := className_of_methodNamed hnamed
  have hinitP : kP.init = .initialized := Cond.initialized_spec (findClass_of_methodNamed hnamed) hkP hinit
  obtain ⟨vm₁, X₁, hstep₁⟩ := X.invokestatic hexec hown hlink hnamed hmethM hstatic hkP hinitP hy (g := g) hg (argsL := argsL) (rest := rest) (hlen _ hsigM) hstack hdg
  obtain ⟨v, B, X', hpost, hsteps⟩ := hK m meth c ⟨T.setVm vm₁, locs, cells, slots⟩ { g with stack := rest } (.invokestatic index) mk argsL.toArray X₁ hg hsize hdg hW (X₁.named hnamed) (hpre vm₁ X₁.warmed)
  exact ⟨v, vm₁, B, X₁.warmed, X', hpost, fun target h => hstep₁ _ fun acts => by rw [doInvoke_state]; exact hsteps.trans h⟩
theorem vx_runSW {y : MethodName} {bytes cc : ByteArray} {maxL nL mc ms n index : Nat} {ret : Option FieldType} {hh : List (Nat × Nat × Nat × Nat)} {ws : List Cond} {rm : Room} {Pc : Array Value → State → Prop} {Qc : Array Value → State → Outcome → State → Prop} {free : Addr → Prop} {Ts : List Cond} {own : String} {As rest : List Value} {g : JFrame}
    (S : CallFix p m c cc nL s args Ts own) (hM : Met l y ws rm Pc Qc mc ms free) (cw : vx_CSW R s args own index y bytes maxL ret hh ws rm mc ms n) (hp : PreS s H Pc As)
    (hg : g.method = m) (hn : As.length = n) (hsize : g.locals.size = nL) (hstack : g.stack = As.reverse ++ rest) (hW : 2 * g.monitorRoom + (rest.map fun v => v.category).sum ≤ 8) (hdg : decode cc g.pc = .ok (.invokestatic index, 3)) (hf : cells + mc ≤ R.cells ∧ slots + ms ≤ R.slots) :
    va_Run p l e R s m args below meth c H locs cells slots mc ms g rest (Qc As.toArray) (free) := by
  obtain ⟨⟨hrc, hrs, hfr, hlo, hws, hcw⟩, hcode, hini, hy, hlen, hl, hstt⟩ := cw
  have hK : Back l R p e below s args y 3 8 (PreOf R mc ms Pc) (PostOf Qc mc ms free) := va_backW (hh := hh) (bytes := bytes) (maxL := maxL) (ret := ret) hM hp.1 hrc hrs hfr hlo hws hcw (fun a' U hW => word_at hW (Or.inl (by first | rfl | simp [Cond.onTables, Cond.keeps, Cond.steady])) hini)
  obtain ⟨hx, hb, hml, ho, -⟩ := S
  intro T hT X
  obtain ⟨v, vm₁, ⟨U', l2, c2, s2⟩, hW₁, X', ⟨g', mk, t, L, e1, e2, hq, h1, hL, h2, h3⟩, st⟩ := vx_callSW X hx (hh := hh) (bytes := bytes) (maxL := maxL) (ret := ret) ho hl hstt hini hcode hy hK hg (hsize.trans hml.symm) (argsL := As) (rest := rest) (fun sig h => hn.trans (hlen sig h)) hstack hW (by rw [hb]; exact hdg)
    (fun vm₁ hW₁ => ⟨hf.1, hf.2, hp.2 (T.setVm vm₁) hT hW₁⟩)
  dsimp only [Pt.U, Pt.locs, Pt.cells, Pt.slots] at X' e1 e2 h1 h2 h3 st
  subst h1; subst h2; subst h3
  exact ⟨v, (T.setVm vm₁).calling g' mk As.toArray, t, U', L, hT, X', hL, e1, e2, hq, st⟩
/-- not caught here, past rows that name other classes: it goes on to the caller -/
theorem vx_outP {p : Program} {l : Launch} {e : Env} {R : Room} {s : State} {m : MethodId} {args : Array Value} {below : List Frame} {meth : Method} {c : Code} {H : Heap} {locs : List Loc} {cells slots : Nat} {free : Addr → Prop} {ls : Array Slot} {rest : List Value} {Qc : Array Value → State → Outcome → State → Prop} {XC : String → State → State → Prop}
    {pc : Nat} {own E : String} {ce : Cell} {q : Addr} {mc ms : Nat} (hown : s.vm.findClass own = some m.cls) (hlocks : meth.locks = false)
    (hpass : ∀ z ∈ c.exceptionTable.toList, covers z pc = false ∨ (z.catchType ≠ 0 ∧ ∃ nm : String, (Cond.classLink own z.catchType nm).before args s = true ∧ va_Nc E nm s)) (hcell : H[q]? = some ce) (hv : ce.vm = .none) (hcl : s.vm.findClass E = some ce.cls)
    (hx : ∀ t : State, t.heap = H → s.vm.Alike t.vm → XC E s t) (hf : ∀ z ∈ locs, free z.base) (hc : cells ≤ mc) (hs : slots ≤ ms) :
    vx_W p l e R s m args below meth c H locs cells slots (vx_MQ below Qc XC args s mc ms free) (F0 m pc ls rest) q := by
  intro T hT X
  have hpl : e.platform.magicAccessors = ({} : Platform).magicAccessors := by rw [X.admits.platform]
  obtain ⟨vm', hW', X', st⟩ := X.outThrough hlocks q (g := F0 m pc ls rest) rfl rfl rfl (cell := ce) (by rw [hT]; exact hcell) (by rw [hv]; rfl)
    (by obtain ⟨k9, h9, -⟩ := Vm.findClass_spec hcl; exact ⟨k9, h9⟩) (fun z hz => by
      rcases hpass z hz with h | ⟨hz0, nm, hl1, hn1⟩
      · exact Or.inl h
      · obtain ⟨c6, hc6, hcl6⟩ := Cond.classLink_spec hown hl1 e.platform hpl
        obtain ⟨a8, b8, h1, h2, h3⟩ := hn1
        cases Option.some.inj (h1.symm.trans hcl)
        cases Option.some.inj (h2.symm.trans hc6)
        exact Or.inr ⟨hz0, _, hcl6, h3⟩)
  obtain ⟨g₀, hfr⟩ := X'.frames_eq
  have hcell9 : ((T.setVm vm').setFrames (.throwing q :: below)).heap[q]? = some ce := by
    show T.heap[q]? = some ce
    rw [hT]; exact hcell
  have hend : Ended ((T.setVm vm').setFrames (.throwing q :: below)) below (.threw q) := State.frames_setFrames _ (State.cur_lt_of_frames hfr)
  refine ⟨(T.setVm vm').setFrames (.throwing q :: below), ?_, .threw q, X'.here.running, hend, Or.inr ⟨q, rfl, E, ce, locs, hx _ hT (X'.ends _).1.alike, hcell9, hv, hcl, (X'.ends _).1, (X'.ends _).2.mono hc hs, hf⟩⟩
  rw [X.pushThrowing_eq]
  exact st
/-- a thing of a world lies in the heap -/
theorem vx_lt {D : va_G} {cl : List vw_C} {ws : va_W} {H1 : Heap} (h : va_P D cl ws H1) {k : Nat} {q : Nat × va_E} (hk : ws[k]? = some q) : q.1 < H1.size := (h k q hk).lt
end VXS
/-! ===== END ===== -/
/-! ===== BEGIN methods with a table of their own: called by a name, returning or throwing ===== -/
section VXH
/-! vx_backW, vx_callVX, vx_callSX, vx_callVW, vx_runVW, vx_runVX, vx_runSX, vx_ofWH follow the same proofs as their sisters above (Free/Laws.lean, Shelf42/LK1.lean); vx_outP calls Shelf42/NT130.lean (outThrough). -/
section
variable {l : Launch} {R : Room} {p : Program} {e : Env} {below : List Frame} {s : State} {sargs : Array Value} {y : MethodName} {len W9 : Nat}
theorem vx_backW {ws : List Cond} {rm : Room} {Pc : Array Value → State → Prop} {Qc : Array Value → State → Outcome → State → Prop} {XC : String → State → State → Prop} {mc ms : Nat} {free : Addr → Prop} {bytes : ByteArray} {maxL : Nat} {ret : Option FieldType} {hh : List (Nat × Nat × Nat × Nat)}
    (hM : vx_Met l y ws rm Pc Qc XC mc ms free) (hblind : FrameBlind Pc) (hrc : rm.cells = mc) (hrs : rm.slots = ms)
    (hframes : rm.frames + 1 ≤ R.frames) (hlocals : W9 + (maxL + 11) + rm.locals ≤ R.locals)
    (hws : ∀ w ∈ ws, ∀ a' U, s.WarmedH U.vm → w.before a' U = true) (hcode : Cond.codeWith y bytes maxL ret hh ∈ ws) (hinit : ∀ a' U, s.WarmedH U.vm → (Cond.initialized y.cls).before a' U = true) :
    vx_Back l R p e below s sargs y len W9 (PreOf R mc ms Pc) (PostOf Qc mc ms free) (vx_Post XC mc ms free) := by
  intro m meth c A g ig mk a X hg hsize hdg hW hn hp
  have h1 : (headSpec ws rm).pre.before a A.U = true := atoms_intro fun w hw => hws w hw _ _ X.warmed
  have h2 : (Cond.codeWith y bytes maxL ret hh).before a A.U = true := hws _ hcode _ _ X.warmed
  have h3 : (Cond.initialized y.cls).before a A.U = true := hinit _ _ X.warmed
  have h4 : A.cells + (headSpec ws rm).room.cells ≤ R.cells := by rw [show (headSpec ws rm).room.cells = mc from hrc]; exact hp.1
  have h5 : A.slots + (headSpec ws rm).room.slots ≤ R.slots := by rw [show (headSpec ws rm).room.slots = ms from hrs]; exact hp.2.1
  have hPc : Pc a (A.U.calling g mk a) := hblind _ _ _ _ hp.2.2
  obtain ⟨U, Ls, c0, s0⟩ := A
  dsimp only [Pt.U, Pt.locs, Pt.cells, Pt.slots] at h1 h2 h3 h4 h5 X hn hPc ⊢
  obtain ⟨m9, methY, cY, hn9, hmY, hcY, -, hlY, -⟩ := Cond.codeWith_spec h2
  cases Option.some.inj (hn9.symm.trans hn)
  obtain ⟨kY, hkY, -⟩ := className_of_methodNamed hn
  have hinitY : kY.init = .initialized := Cond.initialized_spec (findClass_of_methodNamed hn) hkY h3
  have h : At U g.method c below := by rw [hg]; exact X.here
  have hlocals9 : W9 + (maxL + 11) + (headSpec ws rm).room.locals ≤ R.locals := hlocals
  have happ : (headSpec ws rm).appliesLoose y e.platform (U.calling g mk a) = true :=
    Spec.appliesLoose_calling (g := g) h hdg hn hkY hinitY
      (X.room_calling (g := g) (R' := (headSpec ws rm).room) hsize hmY hcY hframes (by rw [hlY]; omega) h4 h5) h1
  obtain ⟨mid, hmid⟩ := h.above
  have hfr : (U.setTop g).frames = (.java g :: mid) ++ below := by rw [State.frames_setTop' g h.top, hmid]; rfl
  obtain ⟨o, s₂, hsteps, -, hend, hq⟩ := Steps.callFree hM p X.admits X.cas X.clock (acts := []) hfr happ hPc trivial
  have hq' : vx_Q Qc XC mc ms free a (U.calling g mk a) o s₂ := hq
  rw [State.frames_setTop' g h.top] at hend
  obtain ⟨g₀, hg0⟩ := Option.isSome_iff_exists.mp h.top
  obtain ⟨r, hr⟩ := State.topJava?_eq_some.mp hg0
  have hr' : (({ U with heap := s₂.heap, slotsUsed := s₂.slotsUsed } : State).setVm s₂.vm).frames = .java g₀ :: r := hr
  rcases hq' with ⟨hqc, L, hfe, hL⟩ | ⟨q, rfl, E, ce, L, hx, hce, hcv, hcl, hW₂, hsm, hL⟩
  · obtain ⟨⟨v, rfl⟩, hW₂, e2, q2, q3, q4, q5, q6⟩ := id hfe
    have e3 : s₂ = ({ (U.calling g mk a).setFrames s₂.frames with heap := s₂.heap, slotsUsed := s₂.slotsUsed } : State).setVm s₂.vm := by
      have : s₂ = ({ s₂ with vm := (U.calling g mk a).vm } : State).setVm s₂.vm := rfl
      rw [e2] at this
      exact this
    obtain ⟨c₂, i₂, len₂, hc₂, hd₂, hf₂⟩ := hend
    have hW' : U.WarmedH s₂.vm := hW₂
    have hcc : c₂ = c := by
      have h1 : s₂.code? g.method = U.code? g.method := by
        rw [State.code?_eq, State.code?_eq, hW'.alike.method?]
      exact Option.some.inj (hc₂.symm.trans (h1.trans h.code))
    subst hcc
    have hlen : len₂ = len := by rw [hdg] at hd₂; cases hd₂; rfl
    subst hlen
    have hs₂ : s₂ = (({ U with heap := s₂.heap, slotsUsed := s₂.slotsUsed } : State).setVm s₂.vm).setTop { g with pc := g.pc + len₂, stack := v.toList ++ g.stack } := by
      refine e3.trans ?_
      rw [hf₂, State.calling_eq h.top, State.setFrames_setFrames, State.setTop_of_frames _ hr', hr]
      rfl
    have hsame : U.sameButNew ({ U with heap := s₂.heap, slotsUsed := s₂.slotsUsed } : State) L mc ms := by
      refine ⟨?_, q2, q3, q4, q5, q6⟩
      obtain ⟨t, ht, -⟩ := State.frames_cons hr
      show ({ U with heap := s₂.heap, slotsUsed := s₂.slotsUsed } : State) = { U.setFrames U.frames with heap := s₂.heap, slotsUsed := s₂.slotsUsed }
      rw [State.setFrames_self ht]
    subst hg
    refine Or.inl ⟨v, ⟨(({ U with heap := s₂.heap, slotsUsed := s₂.slotsUsed } : State).setVm s₂.vm), Ls ++ L, c0 + mc, s0 + ms⟩,
      ⟨X.admits, X.cas, X.clock, X.frames, X.room, X.hears, X.method, X.code, (X.here.setHeapUsed s₂.heap s₂.slotsUsed).setVm hW'.alike, X.tail, State.WarmedH.trans X.warmed hW', X.limits, X.bytes, X.same.trans (hsame.setVm s.vm)⟩,
      ⟨g, mk, s₂, L, rfl, rfl, hqc, rfl, hL, rfl, rfl⟩, ?_⟩
    show Steps p.tables e below _ ((({ U with heap := s₂.heap, slotsUsed := s₂.slotsUsed } : State).setVm s₂.vm).setTop { g with pc := g.pc + len₂, stack := v.toList ++ g.stack })
    rw [← hs₂]
    exact hsteps
  · obtain ⟨e2, q2, q3, q4, q5, q6⟩ := id hsm
    have e3 : s₂ = ({ (U.calling g mk a).setFrames s₂.frames with heap := s₂.heap, slotsUsed := s₂.slotsUsed } : State).setVm s₂.vm := by
      have : s₂ = ({ s₂ with vm := (U.calling g mk a).vm } : State).setVm s₂.vm := rfl
      rw [e2] at this
      exact this
    have hf₂ : s₂.frames = .throwing q :: .java g :: U.frames.tail := hend
    have hW' : U.WarmedH s₂.vm := hW₂
    have hs₂ : s₂ = ((({ U with heap := s₂.heap, slotsUsed := s₂.slotsUsed } : State).setVm s₂.vm).setTop g).pushFrame (.throwing q) := by
      refine e3.trans ?_
      rw [hf₂, State.calling_eq h.top, State.setFrames_setFrames, State.pushFrame, State.frames_setTop _ hr', State.setTop_of_frames _ hr', State.setFrames_setFrames, hr]
      rfl
    have hsame : U.sameButNew ({ U with heap := s₂.heap, slotsUsed := s₂.slotsUsed } : State) L mc ms := by
      refine ⟨?_, q2, q3, q4, q5, q6⟩
      obtain ⟨t, ht, -⟩ := State.frames_cons hr
      show ({ U with heap := s₂.heap, slotsUsed := s₂.slotsUsed } : State) = { U.setFrames U.frames with heap := s₂.heap, slotsUsed := s₂.slotsUsed }
      rw [State.setFrames_self ht]
    subst hg
    refine Or.inr ⟨q, ⟨(({ U with heap := s₂.heap, slotsUsed := s₂.slotsUsed } : State).setVm s₂.vm), Ls ++ L, c0 + mc, s0 + ms⟩,
      ⟨X.admits, X.cas, X.clock, X.frames, X.room, X.hears, X.method, X.code, (X.here.setHeapUsed s₂.heap s₂.slotsUsed).setVm hW'.alike, X.tail, State.WarmedH.trans X.warmed hW', X.limits, X.bytes, X.same.trans (hsame.setVm s.vm)⟩,
      ⟨g, mk, s₂, L, E, ce, rfl, rfl, hx, hce, hcv, hcl, rfl, hL, rfl, rfl⟩, ?_⟩
    show Steps p.tables e below _ (((({ U with heap := s₂.heap, slotsUsed := s₂.slotsUsed } : State).setVm s₂.vm).setTop g).pushFrame (.throwing q))
    rw [← hs₂]
    exact hsteps
end
variable {p : Program} {l : Launch} {e : Env} {R : Room} {s : State} {m : MethodId} {args : Array Value} {below : List Frame} {meth : Method} {c : Code} {T : State} {H : Heap} {locs : List Loc} {cells slots : Nat}
theorem vx_callVX (X : Stand p l e R s m args below meth c T locs cells slots) (hexec : p.tables.exec = Jvm.exec) {own C : String} {index : Nat} {y : MethodName} {bytes : ByteArray} {maxL : Nat} {ret : Option FieldType} {hh : List (Nat × Nat × Nat × Nat)}
    (hown : s.vm.findClass own = some m.cls) (hlink : (Cond.methodLink own index y).before args s = true) (hinst : (Cond.instanceMethod y).before args s = true) (hsel : (Cond.selects C y y).before args s = true)
    (hcode : (Cond.codeWith y bytes maxL ret hh).before args s = true) (hy : y.cls ≠ "java/lang/invoke/MethodHandle" ∧ y.cls ≠ "java/lang/invoke/VarHandle")
    {W9 : Nat} {Pre : Pt → Array Value → Prop} {Post : Pt → Array Value → Option Value → Pt → Prop} {PostX : Pt → Array Value → Addr → Pt → Prop} (hK : vx_Back l R p e below s args y 3 W9 Pre Post PostX)
    {b : Addr} {cellB : Cell} (hcell : T.heap[b]? = some cellB) (hobj : cellB.vm.isStatics = false) (hcls : s.vm.findClass C = some cellB.cls)
    {g : JFrame} (hg : g.method = m) (hsize : g.locals.size = c.maxLocals) {argsL rest : List Value} (hlen : ∀ sig, parseMethodDescriptor y.desc = some sig → argsL.length = sig.parameters.length)
    (hstack : g.stack = argsL.reverse ++ .ref b :: rest) (hW : 2 * g.monitorRoom + (rest.map fun v => v.category).sum ≤ W9) (hdg : decode c.code g.pc = .ok (.invokevirtual index, 3))
    (hpre : ∀ vm₁, s.WarmedH vm₁ → Pre ⟨T.setVm vm₁, locs, cells, slots⟩ (Value.ref b :: argsL).toArray) :
    (∃ (v : Option Value) (vm₁ : Vm) (B : Pt), s.WarmedH vm₁ ∧ Stand p l e R s m args below meth c B.U B.locs B.cells B.slots ∧ Post ⟨T.setVm vm₁, locs, cells, slots⟩ (Value.ref b :: argsL).toArray v B ∧
      ∀ target, Steps p.tables e below (B.U.setTop { g with pc := g.pc + 3, stack := v.toList ++ rest }) target → Steps p.tables e below (T.setTop g) target) ∨
    (∃ (q : Addr) (vm₁ : Vm) (B : Pt), s.WarmedH vm₁ ∧ Stand p l e R s m args below meth c B.U B.locs B.cells B.slots ∧ PostX ⟨T.setVm vm₁, locs, cells, slots⟩ (Value.ref b :: argsL).toArray q B ∧
      Steps p.tables e below (T.setTop g) ((B.U.setTop { g with stack := rest }).pushFrame (.throwing q))) := by
  obtain ⟨mk, methM, hnamed, hmethM, hstM, habM⟩ := Cond.instanceMethod_spec hinst
  obtain ⟨m8, methM', cM, hn8, hmethM', -, -, -, -, -, -, hsigM⟩ := Cond.codeWith_spec hcode
  cases Option.some.inj (hn8.symm.trans hnamed)
  cases hmethM.symm.trans hmethM'
  obtain ⟨c2, r2, m2, q1, q2, q3, q4, kP, hkP, hkPi⟩ := Cond.selects_spec hsel
  cases hcls.symm.trans q1
  cases (State.methodFound?_of_named hnamed hy).symm.trans q2
  cases hnamed.symm.trans q3
  have hselP : selectMethod e.platform s.vm cellB.cls mk = .method mk := by rw [Launch.admits_selectMethod X.admits]; exact q4
  obtain ⟨vm₁, X₁, hstep₁⟩ := X.invokevirtual hexec hown hlink hnamed hmethM hstM hkP hkPi hy (a := b) (cell := cellB) hcell
    (fun z h => by rw [h] at hobj; cases hobj) hselP hmethM habM hkP hkPi (g := g) hg (argsL := argsL) (rest := rest) (hlen _ hsigM) hstack hdg
  rcases hK m meth c ⟨T.setVm vm₁, locs, cells, slots⟩ { g with stack := rest } (.invokevirtual index) mk (Value.ref b :: argsL).toArray X₁ hg hsize hdg hW (X₁.named hnamed) (hpre vm₁ X₁.warmed) with ⟨v, B, X', hpost, hsteps⟩ | ⟨q, B, X', hpost, hsteps⟩
  · exact Or.inl ⟨v, vm₁, B, X₁.warmed, X', hpost, fun target h => hstep₁ _ fun acts => by rw [doInvoke_state]; exact hsteps.trans h⟩
  · exact Or.inr ⟨q, vm₁, B, X₁.warmed, X', hpost, hstep₁ _ fun acts => by rw [doInvoke_state]; exact hsteps⟩
theorem vx_callSX (X : Stand p l e R s m args below meth c T locs cells slots) (hexec : p.tables.exec = Jvm.exec) {own : String} {index : Nat} {y : MethodName} {bytes : ByteArray} {maxL : Nat} {ret : Option FieldType} {hh : List (Nat × Nat × Nat × Nat)}
    (hown : s.vm.findClass own = some m.cls) (hlink : (Cond.methodLink own index y).before args s = true) (hstat : (Cond.static y).before args s = true) (hinit : (Cond.initialized y.cls).before args s = true)
    (hcode : (Cond.codeWith y bytes maxL ret hh).before args s = true) (hy : y.cls ≠ "java/lang/invoke/MethodHandle" ∧ y.cls ≠ "java/lang/invoke/VarHandle")
    {W9 : Nat} {Pre : Pt → Array Value → Prop} {Post : Pt → Array Value → Option Value → Pt → Prop} {PostX : Pt → Array Value → Addr → Pt → Prop} (hK : vx_Back l R p e below s args y 3 W9 Pre Post PostX)
    {g : JFrame} (hg : g.method = m) (hsize : g.locals.size = c.maxLocals) {argsL rest : List Value} (hlen : ∀ sig, parseMethodDescriptor y.desc = some sig → argsL.length = sig.parameters.length)
    (hstack : g.stack = argsL.reverse ++ rest) (hW : 2 * g.monitorRoom + (rest.map fun v => v.category).sum ≤ W9) (hdg : decode c.code g.pc = .ok (.invokestatic index, 3))
    (hpre : ∀ vm₁, s.WarmedH vm₁ → Pre ⟨T.setVm vm₁, locs, cells, slots⟩ argsL.toArray) :
    (∃ (v : Option Value) (vm₁ : Vm) (B : Pt), s.WarmedH vm₁ ∧ Stand p l e R s m args below meth c B.U B.locs B.cells B.slots ∧ Post ⟨T.setVm vm₁, locs, cells, slots⟩ argsL.toArray v B ∧
      ∀ target, Steps p.tables e below (B.U.setTop { g with pc := g.pc + 3, stack := v.toList ++ rest }) target → Steps p.tables e below (T.setTop g) target) ∨
    (∃ (q : Addr) (vm₁ : Vm) (B : Pt), s.WarmedH vm₁ ∧ Stand p l e R s m args below meth c B.U B.locs B.cells B.slots ∧ PostX ⟨T.setVm vm₁, locs, cells, slots⟩ argsL.toArray q B ∧
      Steps p.tables e below (T.setTop g) ((B.U.setTop { g with stack := rest }).pushFrame (.throwing q))) := by
  obtain ⟨mk, methM, cM, hnamed, hmethM, -, -, -, -, -, -, hsigM⟩ := Cond.codeWith_spec hcode
  have hstatic : methM.isStatic = true := Cond.static_spec hnamed hmethM hstat
  obtain ⟨kP, hkP, -⟩ := className_of_methodNamed hnamed
  have hinitP : kP.init = .initialized := Cond.initialized_spec (findClass_of_methodNamed hnamed) hkP hinit
  obtain ⟨vm₁, X₁, hstep₁⟩ := X.invokestatic hexec hown hlink hnamed hmethM hstatic hkP hinitP hy (g := g) hg (argsL := argsL) (rest := rest) (hlen _ hsigM) hstack hdg
  rcases hK m meth c ⟨T.setVm vm₁, locs, cells, slots⟩ { g with stack := rest } (.invokestatic index) mk argsL.toArray X₁ hg hsize hdg hW (X₁.named hnamed) (hpre vm₁ X₁.warmed) with ⟨v, B, X', hpost, hsteps⟩ | ⟨q, B, X', hpost, hsteps⟩
  · exact Or.inl ⟨v, vm₁, B, X₁.warmed, X', hpost, fun target h => hstep₁ _ fun acts => by rw [doInvoke_state]; exact hsteps.trans h⟩
  · exact Or.inr ⟨q, vm₁, B, X₁.warmed, X', hpost, hstep₁ _ fun acts => by rw [doInvoke_state]; exact hsteps⟩
theorem vx_callVW (X : Stand p l e R s m args below meth c T locs cells slots) (hexec : p.tables.exec = Jvm.exec) {own C : String} {index : Nat} {y : MethodName} {bytes : ByteArray} {maxL : Nat} {ret : Option FieldType} {hh : List (Nat × Nat × Nat × Nat)}
    (hown : s.vm.findClass own = some m.cls) (hlink : (Cond.methodLink own index y).before args s = true) (hinst : (Cond.instanceMethod y).before args s = true) (hsel : (Cond.selects C y y).before args s = true)
    (hcode : (Cond.codeWith y bytes maxL ret hh).before args s = true) (hy : y.cls ≠ "java/lang/invoke/MethodHandle" ∧ y.cls ≠ "java/lang/invoke/VarHandle")
    {W9 : Nat} {Pre : Pt → Array Value → Prop} {Post : Pt → Array Value → Option Value → Pt → Prop} (hK : Back l R p e below s args y 3 W9 Pre Post)
    {b : Addr} {cellB : Cell} (hcell : T.heap[b]? = some cellB) (hobj : cellB.vm.isStatics = false) (hcls : s.vm.findClass C = some cellB.cls)
    {g : JFrame} (hg : g.method = m) (hsize : g.locals.size = c.maxLocals) {argsL rest : List Value} (hlen : ∀ sig, parseMethodDescriptor y.desc = some sig → argsL.length = sig.parameters.length)
    (hstack : g.stack = argsL.reverse ++ .ref b :: rest) (hW : 2 * g.monitorRoom + (rest.map fun v => v.category).sum ≤ W9) (hdg : decode c.code g.pc = .ok (.invokevirtual index, 3))
    (hpre : ∀ vm₁, s.WarmedH vm₁ → Pre ⟨T.setVm vm₁, locs, cells, slots⟩ (Value.ref b :: argsL).toArray) :
    ∃ (v : Option Value) (vm₁ : Vm) (B : Pt), s.WarmedH vm₁ ∧ Stand p l e R s m args below meth c B.U B.locs B.cells B.slots ∧ Post ⟨T.setVm vm₁, locs, cells, slots⟩ (Value.ref b :: argsL).toArray v B ∧
      ∀ target, Steps p.tables e below (B.U.setTop { g with pc := g.pc + 3, stack := v.toList ++ rest }) target → Steps p.tables e below (T.setTop g) target := by
  obtain ⟨mk, methM, hnamed, hmethM, hstM, habM⟩ := Cond.instanceMethod_spec hinst
  obtain ⟨m8, methM', cM, hn8, hmethM', -, -, -, -, -, -, hsigM⟩ := Cond.codeWith_spec hcode
  cases Option.some.inj (hn8.symm.trans hnamed)
  cases hmethM.symm.trans hmethM'
  obtain ⟨c2, r2, m2, q1, q2, q3, q4, kP, hkP, hkPi⟩ := Cond.selects_spec hsel
  cases hcls.symm.trans q1
  cases (State.methodFound?_of_named hnamed hy).symm.trans q2
  cases hnamed.symm.trans q3
  have hselP : selectMethod e.platform s.vm cellB.cls mk = .method mk := by rw [Launch.admits_selectMethod X.admits]; exact q4
  obtain ⟨vm₁, X₁, hstep₁⟩ := X.invokevirtual hexec hown hlink hnamed hmethM hstM hkP hkPi hy (a := b) (cell := cellB) hcell
    (fun z h => by rw [h] at hobj; cases hobj) hselP hmethM habM hkP hkPi (g := g) hg (argsL := argsL) (rest := rest) (hlen _ hsigM) hstack hdg
  obtain ⟨v, B, X', hpost, hsteps⟩ := hK m meth c ⟨T.setVm vm₁, locs, cells, slots⟩ { g with stack := rest } (.invokevirtual index) mk (Value.ref b :: argsL).toArray X₁ hg hsize hdg hW (X₁.named hnamed) (hpre vm₁ X₁.warmed)
  exact ⟨v, vm₁, B, X₁.warmed, X', hpost, fun target h => hstep₁ _ fun acts => by rw [doInvoke_state]; exact hsteps.trans h⟩
abbrev vx_CVW (R : Room) (s : State) (args : Array Value) (own C : String) (index : Nat) (y : MethodName) (bytes : ByteArray) (maxL : Nat) (ret : Option FieldType) (hh : List (Nat × Nat × Nat × Nat)) (ws : List Cond) (rm : Room) (mc ms n : Nat) : Prop :=
  (rm.cells = mc ∧ rm.slots = ms ∧ rm.frames + 1 ≤ R.frames ∧ 8 + (maxL + 11) + rm.locals ≤ R.locals ∧ (∀ w ∈ ws, ∀ (a' : Array Value) (U : State), s.WarmedH U.vm → w.before a' U = true) ∧ Cond.codeWith y bytes maxL ret hh ∈ ws) ∧
  (Cond.codeWith y bytes maxL ret hh).before args s = true ∧ (Cond.initialized y.cls).before args s = true ∧ (y.cls ≠ "java/lang/invoke/MethodHandle" ∧ y.cls ≠ "java/lang/invoke/VarHandle") ∧
  (∀ sig, parseMethodDescriptor y.desc = some sig → n = sig.parameters.length) ∧ (Cond.methodLink own index y).before args s = true ∧ (Cond.instanceMethod y).before args s = true ∧ (Cond.selects C y y).before args s = true
theorem vx_cwVW {own C : String} {index maxL mc ms : Nat} {y : MethodName} {bytes : ByteArray} {ret : Option FieldType} {hh : List (Nat × Nat × Nat × Nat)} {Ts ws ws' : List Cond} {rm : Room} (n : Nat) (ht : ∀ w ∈ Ts, w.before args s = true) (hT : GoodIn Ts (wsV own index C y ws)) (hw : ws = Cond.codeWith y bytes maxL ret hh :: ws') (hrc : rm.cells = mc) (hrs : rm.slots = ms)
    (hd : y.cls = C ∧ y.cls ≠ "java/lang/invoke/MethodHandle" ∧ y.cls ≠ "java/lang/invoke/VarHandle" ∧ (parseMethodDescriptor y.desc).map (fun d => d.parameters.length) = some n) (hR : rm.frames + 1 ≤ R.frames ∧ 8 + (maxL + 11) + rm.locals ≤ R.locals) :
    vx_CVW R s args own C index y bytes maxL ret hh ws rm mc ms n := by
  obtain ⟨hC, hd⟩ := hd
  subst hC
  have ok : ∀ w ∈ wsV own index y.cls y ws, w.before args s = true := fun w h => ht w (hT w h).1
  have hG : GoodIn Ts ws := fun w h => hT w (by unfold wsV; exact List.mem_append_right _ h)
  have hc : Cond.codeWith y bytes maxL ret hh ∈ ws := by rw [hw]; exact List.mem_cons_self
  refine ⟨⟨hrc, hrs, hR.1, hR.2, pay_in ht hG, hc⟩, ht _ (hG _ hc).1, ok _ (by simp [wsV]), ⟨hd.1, hd.2.1⟩, fun sig h => ?_, ok _ (by simp [wsV]), ok _ (by simp [wsV]), ok _ (by simp [wsV])⟩
  have h2 := hd.2.2
  rw [h] at h2
  exact (Option.some.inj h2).symm
theorem vx_runVW {y : MethodName} {bytes cc : ByteArray} {maxL nL mc ms n index : Nat} {ret : Option FieldType} {hh : List (Nat × Nat × Nat × Nat)} {ws : List Cond} {rm : Room} {Pc : Array Value → State → Prop} {Qc : Array Value → State → Outcome → State → Prop} {free : Addr → Prop} {Ts : List Cond} {own C : String} {b : Addr} {As rest : List Value} {g : JFrame}
    (S : CallFix p m c cc nL s args Ts own) (hM : Met l y ws rm Pc Qc mc ms free) (cw : vx_CVW R s args own C index y bytes maxL ret hh ws rm mc ms n) (hp : PreV s H C b Pc As)
    (hg : g.method = m) (hn : As.length = n) (hsize : g.locals.size = nL) (hstack : g.stack = As.reverse ++ .ref b :: rest) (hW : 2 * g.monitorRoom + (rest.map fun v => v.category).sum ≤ 8) (hdg : decode cc g.pc = .ok (.invokevirtual index, 3)) (hf : cells + mc ≤ R.cells ∧ slots + ms ≤ R.slots) :
    va_Run p l e R s m args below meth c H locs cells slots mc ms g rest (Qc (Value.ref b :: As).toArray) free := by
  obtain ⟨⟨hrc, hrs, hfr, hlo, hws, hcw⟩, hcode, hini, hy, hlen, hl, hin, hse⟩ := cw
  have hK : Back l R p e below s args y 3 8 (PreOf R mc ms Pc) (PostOf Qc mc ms free) := va_backW (hh := hh) (bytes := bytes) (maxL := maxL) (ret := ret) hM hp.1 hrc hrs hfr hlo hws hcw (fun a' U hW => word_at hW (Or.inl (by first | rfl | simp [Cond.onTables, Cond.keeps, Cond.steady])) hini)
  obtain ⟨hx, hb, hml, ho, -⟩ := S
  obtain ⟨-, ⟨cellB, hcB, hoB, hclB⟩, hPc⟩ := hp
  intro T hT X
  obtain ⟨v, vm₁, ⟨U', l2, c2, s2⟩, hW₁, X', ⟨g', mk, t, L, e1, e2, hq, h1, hL, h2, h3⟩, st⟩ := vx_callVW X hx (C := C) (hh := hh) (bytes := bytes) (maxL := maxL) (ret := ret) ho hl hin hse hcode hy hK (by rw [hT]; exact hcB) hoB hclB hg (hsize.trans hml.symm) (argsL := As) (rest := rest) (fun sig h => hn.trans (hlen sig h)) hstack hW (by rw [hb]; exact hdg)
    (fun vm₁ hW₁ => ⟨hf.1, hf.2, hPc (T.setVm vm₁) hT hW₁⟩)
  dsimp only [Pt.U, Pt.locs, Pt.cells, Pt.slots] at X' e1 e2 h1 h2 h3 st
  subst h1; subst h2; subst h3
  exact ⟨v, (T.setVm vm₁).calling g' mk (Value.ref b :: As).toArray, t, U', L, hT, X', hL, e1, e2, hq, st⟩
section
variable {y : MethodName} {bytes cc : ByteArray} {maxL nL mc ms n index : Nat} {ret : Option FieldType} {ws : List Cond} {rm : Room} {Pc : Array Value → State → Prop} {Qc : Array Value → State → Outcome → State → Prop} {XC : String → State → State → Prop} {free : Addr → Prop} {Ts : List Cond} {own C : String} {b : Addr} {As rest : List Value} {g : JFrame}
theorem vx_runVX {hh : List (Nat × Nat × Nat × Nat)} (S : CallFix p m c cc nL s args Ts own) (hM : vx_Met l y ws rm Pc Qc XC mc ms free) (cw : vx_CVW R s args own C index y bytes maxL ret hh ws rm mc ms n) (hp : PreV s H C b Pc As)
    (hg : g.method = m) (hn : As.length = n) (hsize : g.locals.size = nL) (hstack : g.stack = As.reverse ++ .ref b :: rest) (hW : 2 * g.monitorRoom + (rest.map fun v => v.category).sum ≤ 8) (hdg : decode cc g.pc = .ok (.invokevirtual index, 3)) (hf : cells + mc ≤ R.cells ∧ slots + ms ≤ R.slots) :
    vx_Run p l e R s m args below meth c H locs cells slots mc ms g rest (Qc (Value.ref b :: As).toArray) XC free := by
  obtain ⟨⟨hrc, hrs, hfr, hlo, hws, hcw⟩, hcode, hini, hy, hlen, hl, hin, hse⟩ := cw
  have hK : vx_Back l R p e below s args y 3 8 (PreOf R mc ms Pc) (PostOf Qc mc ms free) (vx_Post XC mc ms free) := vx_backW (hh := hh) (bytes := bytes) (maxL := maxL) (ret := ret) hM hp.1 hrc hrs hfr hlo hws hcw (fun a' U hW => word_at hW (Or.inl (by first | rfl | simp [Cond.onTables, Cond.keeps, Cond.steady])) hini)
  obtain ⟨hx, hb, hml, ho, -⟩ := S
  obtain ⟨-, ⟨cellB, hcB, hoB, hclB⟩, hPc⟩ := hp
  intro T hT X
  rcases vx_callVX X hx (C := C) (hh := hh) (bytes := bytes) (maxL := maxL) (ret := ret) ho hl hin hse hcode hy hK (by rw [hT]; exact hcB) hoB hclB hg (hsize.trans hml.symm) (argsL := As) (rest := rest) (fun sig h => hn.trans (hlen sig h)) hstack hW (by rw [hb]; exact hdg)
    (fun vm₁ hW₁ => ⟨hf.1, hf.2, hPc (T.setVm vm₁) hT hW₁⟩) with ⟨v, vm₁, ⟨U', l2, c2, s2⟩, hW₁, X', ⟨g', mk, t, L, e1, e2, hq, h1, hL, h2, h3⟩, st⟩ | ⟨q, vm₁, ⟨U', l2, c2, s2⟩, hW₁, X', ⟨g', mk, t, L, E, ce, e1, e2, hq, hce, hcv, hcl, h1, hL, h2, h3⟩, st⟩
  · dsimp only [Pt.U, Pt.locs, Pt.cells, Pt.slots] at X' e1 e2 h1 h2 h3 st
    subst h1; subst h2; subst h3
    exact Or.inl ⟨v, (T.setVm vm₁).calling g' mk (Value.ref b :: As).toArray, t, U', L, hT, X', hL, e1, e2, hq, st⟩
  · dsimp only [Pt.U, Pt.locs, Pt.cells, Pt.slots] at X' e1 e2 h1 h2 h3 st hcl
    subst h1; subst h2; subst h3
    exact Or.inr ⟨q, (T.setVm vm₁).calling g' mk (Value.ref b :: As).toArray, t, U', L, E, ce, hT, X', hL, e1, e2, hq, hce, hcv, vx_cls hW₁ hcl, st⟩
theorem vx_runSX {hh : List (Nat × Nat × Nat × Nat)} (S : CallFix p m c cc nL s args Ts own) (hM : vx_Met l y ws rm Pc Qc XC mc ms free) (cw : vx_CSW R s args own index y bytes maxL ret hh ws rm mc ms n) (hp : PreS s H Pc As)
    (hg : g.method = m) (hn : As.length = n) (hsize : g.locals.size = nL) (hstack : g.stack = As.reverse ++ rest) (hW : 2 * g.monitorRoom + (rest.map fun v => v.category).sum ≤ 8) (hdg : decode cc g.pc = .ok (.invokestatic index, 3)) (hf : cells + mc ≤ R.cells ∧ slots + ms ≤ R.slots) :
    vx_Run p l e R s m args below meth c H locs cells slots mc ms g rest (Qc As.toArray) XC free := by
  obtain ⟨⟨hrc, hrs, hfr, hlo, hws, hcw⟩, hcode, hini, hy, hlen, hl, hstt⟩ := cw
  have hK : vx_Back l R p e below s args y 3 8 (PreOf R mc ms Pc) (PostOf Qc mc ms free) (vx_Post XC mc ms free) := vx_backW (hh := hh) (bytes := bytes) (maxL := maxL) (ret := ret) hM hp.1 hrc hrs hfr hlo hws hcw (fun a' U hW => word_at hW (Or.inl (by first | rfl | simp [Cond.onTables, Cond.keeps, Cond.steady])) hini)
  obtain ⟨hx, hb, hml, ho, -⟩ := S
  intro T hT X
  rcases vx_callSX X hx (hh := hh) (bytes := bytes) (maxL := maxL) (ret := ret) ho hl hstt hini hcode hy hK hg (hsize.trans hml.symm) (argsL := As) (rest := rest) (fun sig h => hn.trans (hlen sig h)) hstack hW (by rw [hb]; exact hdg)
    (fun vm₁ hW₁ => ⟨hf.1, hf.2, hp.2 (T.setVm vm₁) hT hW₁⟩) with ⟨v, vm₁, ⟨U', l2, c2, s2⟩, hW₁, X', ⟨g', mk, t, L, e1, e2, hq, h1, hL, h2, h3⟩, st⟩ | ⟨q, vm₁, ⟨U', l2, c2, s2⟩, hW₁, X', ⟨g', mk, t, L, E, ce, e1, e2, hq, hce, hcv, hcl, h1, hL, h2, h3⟩, st⟩
  · dsimp only [Pt.U, Pt.locs, Pt.cells, Pt.slots] at X' e1 e2 h1 h2 h3 st
    subst h1; subst h2; subst h3
    exact Or.inl ⟨v, (T.setVm vm₁).calling g' mk As.toArray, t, U', L, hT, X', hL, e1, e2, hq, st⟩
  · dsimp only [Pt.U, Pt.locs, Pt.cells, Pt.slots] at X' e1 e2 h1 h2 h3 st hcl
    subst h1; subst h2; subst h3
    exact Or.inr ⟨q, (T.setVm vm₁).calling g' mk As.toArray, t, U', L, E, ce, hT, X', hL, e1, e2, hq, hce, hcv, vx_cls hW₁ hcl, st⟩
end
end VXH
theorem vx_ofWH {l : Launch} {y : MethodName} {ws ws' : List Cond} {rm : Room} {Pc : Array Value → State → Prop} {Qc : Array Value → State → Outcome → State → Prop} {XC : String → State → State → Prop} {mc ms : Nat} {free : Addr → Prop} {cc : ByteArray} {maxL : Nat} {ret : Option FieldType} {hh : List (Nat × Nat × Nat × Nat)}
    (hy : plainName y.cls = true) (hw : ws = Cond.codeWith y cc maxL ret hh :: ws')
    (body : ∀ p e s m args below meth c s₁, BodyLoose p l y (headSpec ws rm) cc maxL ret e s m args below meth c s₁ → c.maxLocals = maxL → Pc args s →
      W p l e (headSpec ws rm).room s m args below meth c s.heap [] 0 0 (vx_MQ below Qc XC args s mc ms free) (entryFrame m args maxL)) : vx_Met l y ws rm Pc Qc XC mc ms free := by
  refine MetFree.of_bodyS (code := cc) (maxLocals := maxL) (ret := ret) hy ?_ ?_
  · intro args s m h hn
    obtain ⟨m9, meth, c, hn9, h1, h2, h3, h4, -, h5, h6, -⟩ := Cond.codeWith_spec (atoms_spec (ws := ws) h _ (by rw [hw]; exact List.mem_cons_self))
    cases hn.symm.trans hn9
    exact ⟨meth, c, h1, h2, h3, h4, h5, h6⟩
  · intro p e s m args below meth c s₁ B hml hP _
    have hh0 : s₁.heap = s.heap := by rw [B.state]; rfl
    obtain ⟨t, a1, o, b1, b2, b3⟩ := body p e s m args below meth c s₁ B hml hP s₁ hh0 (Stand.of_body B)
    exact ⟨t, o, a1, b1, b2, b3⟩
/-! ===== END ===== -/
end
section
/-! ===== BEGIN printed: names, fields, word lists, decode rows ===== -/
def RX0 : String := "RepairSender$Equations"
def TX0 : u_T := fun k => match k with
  | 0 => ("RepairSender$Equations", "cells", "[[I", true)
  | _ => ("RepairSender$Equations", "count", "I", false)
def tyX0 : Nat → FieldType := fun k => match k with
  | 0 => .array (.array .int)
  | _ => .int
abbrev wsX00 : List Cond := u_ws RX0 TX0 2
theorem nmX0 : ∀ a, a < 2 → ∀ b, b < 2 → a ≠ b → (TX0 a).2.1 ≠ (TX0 b).2.1 := by decide +kernel
theorem tyX0_ok : ∀ k, k < 2 → parseFieldDescriptor (TX0 k).2.2.1 = some (tyX0 k) := by decide +kernel
abbrev cX0_init : ByteArray := prog_2_method_1_code
def yX0_init : MethodName := ⟨RX0, "<init>", "()V"⟩
abbrev cX0_write : ByteArray := prog_2_method_2_code
def yX0_write : MethodName := ⟨RX0, "write", "(LRepairSender$Points;)V"⟩
abbrev cX0_solve : ByteArray := prog_2_method_3_code
def yX0_solve : MethodName := ⟨RX0, "solve", "()V"⟩
abbrev cX0_scaleRow : ByteArray := prog_2_method_4_code
def yX0_scaleRow : MethodName := ⟨RX0, "scaleRow", "(II)V"⟩
abbrev cX0_addMultiple : ByteArray := prog_2_method_5_code
def yX0_addMultiple : MethodName := ⟨RX0, "addMultiple", "(III)V"⟩
abbrev cX0_polynomialAt : ByteArray := prog_2_method_6_code
def yX0_polynomialAt : MethodName := ⟨RX0, "polynomialAt", "(I)I"⟩
def RX1 : String := "RepairSender$Field"
def TX1 : u_T := fun k => match k with
  | _ => ("", "", "", false)
def tyX1 : Nat → FieldType := fun k => match k with
  | _ => .int
abbrev wsX10 : List Cond := u_ws RX1 TX1 0
theorem nmX1 : ∀ a, a < 0 → ∀ b, b < 0 → a ≠ b → (TX1 a).2.1 ≠ (TX1 b).2.1 := by decide +kernel
theorem tyX1_ok : ∀ k, k < 0 → parseFieldDescriptor (TX1 k).2.2.1 = some (tyX1 k) := by decide +kernel
abbrev cX1_product : ByteArray := prog_3_method_2_code
def yX1_product : MethodName := ⟨RX1, "product", "(II)I"⟩
abbrev cX1_inverse : ByteArray := prog_3_method_3_code
def yX1_inverse : MethodName := ⟨RX1, "inverse", "(I)I"⟩
def RX2 : String := "RepairSender$Points"
def TX2 : u_T := fun k => match k with
  | 0 => ("RepairSender$Points", "places", "[I", true)
  | 1 => ("RepairSender$Points", "values", "[I", true)
  | _ => ("RepairSender$Points", "count", "I", false)
def tyX2 : Nat → FieldType := fun k => match k with
  | 0 => .array .int
  | 1 => .array .int
  | _ => .int
abbrev wsX20 : List Cond := u_ws RX2 TX2 3
theorem nmX2 : ∀ a, a < 3 → ∀ b, b < 3 → a ≠ b → (TX2 a).2.1 ≠ (TX2 b).2.1 := by decide +kernel
theorem tyX2_ok : ∀ k, k < 3 → parseFieldDescriptor (TX2 k).2.2.1 = some (tyX2 k) := by decide +kernel
abbrev cX2_init : ByteArray := prog_4_method_1_code
def yX2_init : MethodName := ⟨RX2, "<init>", "()V"⟩
abbrev cX2_clear : ByteArray := prog_4_method_2_code
def yX2_clear : MethodName := ⟨RX2, "clear", "()V"⟩
abbrev cX2_add : ByteArray := prog_4_method_3_code
def yX2_add : MethodName := ⟨RX2, "add", "(II)V"⟩
abbrev cX2_polynomialAt : ByteArray := prog_4_method_4_code
def yX2_polynomialAt : MethodName := ⟨RX2, "polynomialAt", "(I)I"⟩
abbrev cX2_weight : ByteArray := prog_4_method_5_code
def yX2_weight : MethodName := ⟨RX2, "weight", "(II)I"⟩
def RX3 : String := "RepairSender"
def TX3 : u_T := fun k => match k with
  | 0 => ("RepairSender", "block", "LRepairSender$Points;", true)
  | 1 => ("RepairSender", "patience", "I", false)
  | 2 => ("RepairSender", "sentCount", "I", false)
  | 3 => ("RepairSender", "reportCount", "I", false)
  | 4 => ("RepairSender", "keptBackCount", "I", false)
  | 5 => ("RepairSender", "receiverCount", "I", false)
  | 6 => ("RepairSender", "losses", "[I", true)
  | 7 => ("RepairSender", "waits", "[I", true)
  | 8 => ("RepairSender", "packetSets", "[I", true)
  | 9 => ("RepairSender", "badCounts", "[I", true)
  | 10 => ("RepairSender", "dropped", "[Z", true)
  | 11 => ("RepairSender", "chosen", "LRepairSender$Points;", true)
  | _ => ("RepairSender", "equations", "LRepairSender$Equations;", true)
def tyX3 : Nat → FieldType := fun k => match k with
  | 0 => .object "RepairSender$Points"
  | 1 => .int
  | 2 => .int
  | 3 => .int
  | 4 => .int
  | 5 => .int
  | 6 => .array .int
  | 7 => .array .int
  | 8 => .array .int
  | 9 => .array .int
  | 10 => .array .boolean
  | 11 => .object "RepairSender$Points"
  | _ => .object "RepairSender$Equations"
abbrev wsX30 : List Cond := u_ws RX3 TX3 13
theorem nmX3 : ∀ a, a < 13 → ∀ b, b < 13 → a ≠ b → (TX3 a).2.1 ≠ (TX3 b).2.1 := by decide +kernel
theorem tyX3_ok : ∀ k, k < 13 → parseFieldDescriptor (TX3 k).2.2.1 = some (tyX3 k) := by decide +kernel
abbrev cX3_init : ByteArray := prog_1_method_1_code
def yX3_init : MethodName := ⟨RX3, "<init>", "()V"⟩
abbrev cX3_begin : ByteArray := prog_1_method_2_code
def yX3_begin : MethodName := ⟨RX3, "begin", "(II)I"⟩
abbrev cX3_setDatum : ByteArray := prog_1_method_3_code
def yX3_setDatum : MethodName := ⟨RX3, "setDatum", "(II)I"⟩
abbrev cX3_join : ByteArray := prog_1_method_4_code
def yX3_join : MethodName := ⟨RX3, "join", "(II)I"⟩
abbrev cX3_setLosses : ByteArray := prog_1_method_5_code
def yX3_setLosses : MethodName := ⟨RX3, "setLosses", "(II)I"⟩
abbrev cX3_setWait : ByteArray := prog_1_method_6_code
def yX3_setWait : MethodName := ⟨RX3, "setWait", "(II)I"⟩
abbrev cX3_send : ByteArray := prog_1_method_7_code
def yX3_send : MethodName := ⟨RX3, "send", "(I)I"⟩
abbrev cX3_round : ByteArray := prog_1_method_8_code
def yX3_round : MethodName := ⟨RX3, "round", "()I"⟩
abbrev cX3_sent : ByteArray := prog_1_method_9_code
def yX3_sent : MethodName := ⟨RX3, "sent", "()I"⟩
abbrev cX3_receivers : ByteArray := prog_1_method_10_code
def yX3_receivers : MethodName := ⟨RX3, "receivers", "()I"⟩
abbrev cX3_reports : ByteArray := prog_1_method_11_code
def yX3_reports : MethodName := ⟨RX3, "reports", "()I"⟩
abbrev cX3_keptBack : ByteArray := prog_1_method_12_code
def yX3_keptBack : MethodName := ⟨RX3, "keptBack", "()I"⟩
abbrev cX3_has : ByteArray := prog_1_method_13_code
def yX3_has : MethodName := ⟨RX3, "has", "(I)I"⟩
abbrev cX3_need : ByteArray := prog_1_method_14_code
def yX3_need : MethodName := ⟨RX3, "need", "(I)I"⟩
abbrev cX3_isDropped : ByteArray := prog_1_method_15_code
def yX3_isDropped : MethodName := ⟨RX3, "isDropped", "(I)Z"⟩
abbrev cX3_badRounds : ByteArray := prog_1_method_16_code
def yX3_badRounds : MethodName := ⟨RX3, "badRounds", "(I)I"⟩
abbrev cX3_times : ByteArray := prog_1_method_17_code
def yX3_times : MethodName := ⟨RX3, "times", "(II)I"⟩
abbrev cX3_packet : ByteArray := prog_1_method_18_code
def yX3_packet : MethodName := ⟨RX3, "packet", "(I)I"⟩
abbrev cX3_rebuilt : ByteArray := prog_1_method_19_code
def yX3_rebuilt : MethodName := ⟨RX3, "rebuilt", "(II)I"⟩
abbrev cX3_rebuiltByElimination : ByteArray := prog_1_method_20_code
def yX3_rebuiltByElimination : MethodName := ⟨RX3, "rebuiltByElimination", "(II)I"⟩
abbrev cX3_isFieldNumber : ByteArray := prog_1_method_21_code
def yX3_isFieldNumber : MethodName := ⟨RX3, "isFieldNumber", "(I)Z"⟩
abbrev cX3_demandLosses : ByteArray := prog_1_method_22_code
def yX3_demandLosses : MethodName := ⟨RX3, "demandLosses", "(I)V"⟩
abbrev cX3_demandWait : ByteArray := prog_1_method_23_code
def yX3_demandWait : MethodName := ⟨RX3, "demandWait", "(I)V"⟩
abbrev cX3_demandReceiver : ByteArray := prog_1_method_24_code
def yX3_demandReceiver : MethodName := ⟨RX3, "demandReceiver", "(I)V"⟩
abbrev cX3_demandPlace : ByteArray := prog_1_method_25_code
def yX3_demandPlace : MethodName := ⟨RX3, "demandPlace", "(I)V"⟩
abbrev cX3_demandRebuilding : ByteArray := prog_1_method_26_code
def yX3_demandRebuilding : MethodName := ⟨RX3, "demandRebuilding", "(II)V"⟩
abbrev cX3_startBlock : ByteArray := prog_1_method_27_code
def yX3_startBlock : MethodName := ⟨RX3, "startBlock", "(II)V"⟩
abbrev cX3_needOf : ByteArray := prog_1_method_28_code
def yX3_needOf : MethodName := ⟨RX3, "needOf", "(I)I"⟩
abbrev cX3_isLiveAndLacks : ByteArray := prog_1_method_29_code
def yX3_isLiveAndLacks : MethodName := ⟨RX3, "isLiveAndLacks", "(I)Z"⟩
abbrev cX3_completeCount : ByteArray := prog_1_method_30_code
def yX3_completeCount : MethodName := ⟨RX3, "completeCount", "()I"⟩
abbrev cX3_sendPackets : ByteArray := prog_1_method_31_code
def yX3_sendPackets : MethodName := ⟨RX3, "sendPackets", "(I)V"⟩
abbrev cX3_sendNextPacket : ByteArray := prog_1_method_32_code
def yX3_sendNextPacket : MethodName := ⟨RX3, "sendNextPacket", "()V"⟩
abbrev cX3_hearReports : ByteArray := prog_1_method_33_code
def yX3_hearReports : MethodName := ⟨RX3, "hearReports", "()I"⟩
abbrev cX3_hearReportsAt : ByteArray := prog_1_method_34_code
def yX3_hearReportsAt : MethodName := ⟨RX3, "hearReportsAt", "(II)I"⟩
abbrev cX3_countBadRounds : ByteArray := prog_1_method_35_code
def yX3_countBadRounds : MethodName := ⟨RX3, "countBadRounds", "()V"⟩
abbrev cX3_chooseLowest : ByteArray := prog_1_method_36_code
def yX3_chooseLowest : MethodName := ⟨RX3, "chooseLowest", "(I)V"⟩
abbrev cX3_chooseHighest : ByteArray := prog_1_method_37_code
def yX3_chooseHighest : MethodName := ⟨RX3, "chooseHighest", "(I)V"⟩
abbrev cX3_chooseIfWanted : ByteArray := prog_1_method_38_code
def yX3_chooseIfWanted : MethodName := ⟨RX3, "chooseIfWanted", "(II)V"⟩
def RX4 : String := "RepairSenderModel"
def TX4 : u_T := fun k => match k with
  | 0 => ("RepairSenderModel", "size", "I", false)
  | 1 => ("RepairSenderModel", "patience", "I", false)
  | 2 => ("RepairSenderModel", "data", "[I", true)
  | 3 => ("RepairSenderModel", "sentMany", "I", false)
  | 4 => ("RepairSenderModel", "receiverMany", "I", false)
  | 5 => ("RepairSenderModel", "lossesOf", "[I", true)
  | 6 => ("RepairSenderModel", "waits", "[I", true)
  | 7 => ("RepairSenderModel", "sets", "[I", true)
  | 8 => ("RepairSenderModel", "bads", "[I", true)
  | 9 => ("RepairSenderModel", "isGone", "[Z", true)
  | 10 => ("RepairSenderModel", "reportMany", "I", false)
  | 11 => ("RepairSenderModel", "silentMany", "I", false)
  | 12 => ("RepairSenderModel", "thrown", "I", false)
  | _ => ("RepairSenderModel", "needsAhead", "[I", true)
def tyX4 : Nat → FieldType := fun k => match k with
  | 0 => .int
  | 1 => .int
  | 2 => .array .int
  | 3 => .int
  | 4 => .int
  | 5 => .array .int
  | 6 => .array .int
  | 7 => .array .int
  | 8 => .array .int
  | 9 => .array .boolean
  | 10 => .int
  | 11 => .int
  | 12 => .int
  | _ => .array .int
abbrev wsX40 : List Cond := u_ws RX4 TX4 14
theorem nmX4 : ∀ a, a < 14 → ∀ b, b < 14 → a ≠ b → (TX4 a).2.1 ≠ (TX4 b).2.1 := by decide +kernel
theorem tyX4_ok : ∀ k, k < 14 → parseFieldDescriptor (TX4 k).2.2.1 = some (tyX4 k) := by decide +kernel
abbrev cX4_init : ByteArray := prog_6_method_1_code
def yX4_init : MethodName := ⟨RX4, "<init>", "()V"⟩
abbrev cX4_thrown : ByteArray := prog_6_method_2_code
def yX4_thrown : MethodName := ⟨RX4, "thrown", "()I"⟩
abbrev cX4_in : ByteArray := prog_6_method_3_code
def yX4_in : MethodName := ⟨RX4, "in", "(III)Z"⟩
abbrev cX4_isReceiver : ByteArray := prog_6_method_4_code
def yX4_isReceiver : MethodName := ⟨RX4, "isReceiver", "(I)Z"⟩
abbrev cX4_begin : ByteArray := prog_6_method_5_code
def yX4_begin : MethodName := ⟨RX4, "begin", "(II)I"⟩
abbrev cX4_setDatum : ByteArray := prog_6_method_6_code
def yX4_setDatum : MethodName := ⟨RX4, "setDatum", "(II)I"⟩
abbrev cX4_join : ByteArray := prog_6_method_7_code
def yX4_join : MethodName := ⟨RX4, "join", "(II)I"⟩
abbrev cX4_setLosses : ByteArray := prog_6_method_8_code
def yX4_setLosses : MethodName := ⟨RX4, "setLosses", "(II)I"⟩
abbrev cX4_setWait : ByteArray := prog_6_method_9_code
def yX4_setWait : MethodName := ⟨RX4, "setWait", "(II)I"⟩
abbrev cX4_needOf : ByteArray := prog_6_method_10_code
def yX4_needOf : MethodName := ⟨RX4, "needOf", "(I)I"⟩
abbrev cX4_sendOne : ByteArray := prog_6_method_11_code
def yX4_sendOne : MethodName := ⟨RX4, "sendOne", "()V"⟩
abbrev cX4_send : ByteArray := prog_6_method_12_code
def yX4_send : MethodName := ⟨RX4, "send", "(I)I"⟩
abbrev cX4_layNeeds : ByteArray := prog_6_method_13_code
def yX4_layNeeds : MethodName := ⟨RX4, "layNeeds", "()V"⟩
abbrev cX4_report : ByteArray := prog_6_method_14_code
def yX4_report : MethodName := ⟨RX4, "report", "(II)I"⟩
abbrev cX4_round : ByteArray := prog_6_method_15_code
def yX4_round : MethodName := ⟨RX4, "round", "()I"⟩
abbrev cX4_sent : ByteArray := prog_6_method_16_code
def yX4_sent : MethodName := ⟨RX4, "sent", "()I"⟩
abbrev cX4_receivers : ByteArray := prog_6_method_17_code
def yX4_receivers : MethodName := ⟨RX4, "receivers", "()I"⟩
abbrev cX4_reports : ByteArray := prog_6_method_18_code
def yX4_reports : MethodName := ⟨RX4, "reports", "()I"⟩
abbrev cX4_keptBack : ByteArray := prog_6_method_19_code
def yX4_keptBack : MethodName := ⟨RX4, "keptBack", "()I"⟩
abbrev cX4_asksFor : ByteArray := prog_6_method_20_code
def yX4_asksFor : MethodName := ⟨RX4, "asksFor", "(I)Z"⟩
abbrev cX4_has : ByteArray := prog_6_method_21_code
def yX4_has : MethodName := ⟨RX4, "has", "(I)I"⟩
abbrev cX4_need : ByteArray := prog_6_method_22_code
def yX4_need : MethodName := ⟨RX4, "need", "(I)I"⟩
abbrev cX4_isDropped : ByteArray := prog_6_method_23_code
def yX4_isDropped : MethodName := ⟨RX4, "isDropped", "(I)Z"⟩
abbrev cX4_badRounds : ByteArray := prog_6_method_24_code
def yX4_badRounds : MethodName := ⟨RX4, "badRounds", "(I)I"⟩
abbrev cX4_product : ByteArray := prog_6_method_25_code
def yX4_product : MethodName := ⟨RX4, "product", "(II)I"⟩
abbrev cX4_inverse : ByteArray := prog_6_method_26_code
def yX4_inverse : MethodName := ⟨RX4, "inverse", "(I)I"⟩
abbrev cX4_times : ByteArray := prog_6_method_27_code
def yX4_times : MethodName := ⟨RX4, "times", "(II)I"⟩
abbrev cX4_packet : ByteArray := prog_6_method_28_code
def yX4_packet : MethodName := ⟨RX4, "packet", "(I)I"⟩
abbrev cX4_rebuilt : ByteArray := prog_6_method_29_code
def yX4_rebuilt : MethodName := ⟨RX4, "rebuilt", "(II)I"⟩
abbrev cX4_rebuiltByElimination : ByteArray := prog_6_method_30_code
def yX4_rebuiltByElimination : MethodName := ⟨RX4, "rebuiltByElimination", "(II)I"⟩
def RJ6 : String := "java/lang/Integer"
def TJ6 : u_T := fun k => match k with
  | _ => ("", "", "", false)
def tyJ6 : Nat → FieldType := fun k => match k with
  | _ => .int
abbrev wsJ60 : List Cond := u_ws RJ6 TJ6 0
theorem nmJ6 : ∀ a, a < 0 → ∀ b, b < 0 → a ≠ b → (TJ6 a).2.1 ≠ (TJ6 b).2.1 := by decide +kernel
theorem tyJ6_ok : ∀ k, k < 0 → parseFieldDescriptor (TJ6 k).2.2.1 = some (tyJ6 k) := by decide +kernel
abbrev cJ6_bitCount_0f7a4 : ByteArray := prog_11_method_49_code
def yJ6_bitCount_0f7a4 : MethodName := ⟨RJ6, "bitCount", "(I)I"⟩
def RJ9 : String := "java/lang/Math"
def TJ9 : u_T := fun k => match k with
  | _ => ("", "", "", false)
def tyJ9 : Nat → FieldType := fun k => match k with
  | _ => .int
abbrev wsJ90 : List Cond := u_ws RJ9 TJ9 0
theorem nmJ9 : ∀ a, a < 0 → ∀ b, b < 0 → a ≠ b → (TJ9 a).2.1 ≠ (TJ9 b).2.1 := by decide +kernel
theorem tyJ9_ok : ∀ k, k < 0 → parseFieldDescriptor (TJ9 k).2.2.1 = some (tyJ9 k) := by decide +kernel
abbrev cJ9_max_7cf53 : ByteArray := prog_12_method_65_code
def yJ9_max_7cf53 : MethodName := ⟨RJ9, "max", "(II)I"⟩
def RJ0 : String := "java/lang/String"
def TJ0 : u_T := fun k => match k with
  | _ => ("", "", "", false)
def tyJ0 : Nat → FieldType := fun k => match k with
  | _ => .int
abbrev wsJ00 : List Cond := u_ws RJ0 TJ0 0
theorem nmJ0 : ∀ a, a < 0 → ∀ b, b < 0 → a ≠ b → (TJ0 a).2.1 ≠ (TJ0 b).2.1 := by decide +kernel
theorem tyJ0_ok : ∀ k, k < 0 → parseFieldDescriptor (TJ0 k).2.2.1 = some (tyJ0 k) := by decide +kernel
def RL : String := "RepairSenderLaw"
abbrev cL_begin : ByteArray := method_3_code
def yL_begin : MethodName := ⟨RL, "begin", "(LRepairSender;II[J)I"⟩
abbrev cL_setDatum : ByteArray := method_4_code
def yL_setDatum : MethodName := ⟨RL, "setDatum", "(LRepairSender;II[J)I"⟩
abbrev cL_join : ByteArray := method_5_code
def yL_join : MethodName := ⟨RL, "join", "(LRepairSender;II[J)I"⟩
abbrev cL_setLosses : ByteArray := method_6_code
def yL_setLosses : MethodName := ⟨RL, "setLosses", "(LRepairSender;II[J)I"⟩
abbrev cL_setWait : ByteArray := method_7_code
def yL_setWait : MethodName := ⟨RL, "setWait", "(LRepairSender;II[J)I"⟩
abbrev cL_send : ByteArray := method_8_code
def yL_send : MethodName := ⟨RL, "send", "(LRepairSender;I[J)I"⟩
abbrev cL_round : ByteArray := method_9_code
def yL_round : MethodName := ⟨RL, "round", "(LRepairSender;[J)I"⟩
abbrev cL_has : ByteArray := method_10_code
def yL_has : MethodName := ⟨RL, "has", "(LRepairSender;I[J)I"⟩
abbrev cL_need : ByteArray := method_11_code
def yL_need : MethodName := ⟨RL, "need", "(LRepairSender;I[J)I"⟩
abbrev cL_isDropped : ByteArray := method_12_code
def yL_isDropped : MethodName := ⟨RL, "isDropped", "(LRepairSender;I[J)I"⟩
abbrev cL_badRounds : ByteArray := method_13_code
def yL_badRounds : MethodName := ⟨RL, "badRounds", "(LRepairSender;I[J)I"⟩
abbrev cL_times : ByteArray := method_14_code
def yL_times : MethodName := ⟨RL, "times", "(LRepairSender;II[J)I"⟩
abbrev cL_packet : ByteArray := method_15_code
def yL_packet : MethodName := ⟨RL, "packet", "(LRepairSender;I[J)I"⟩
abbrev cL_rebuilt : ByteArray := method_16_code
def yL_rebuilt : MethodName := ⟨RL, "rebuilt", "(LRepairSender;II[J)I"⟩
abbrev cL_rebuiltByElimination : ByteArray := method_17_code
def yL_rebuiltByElimination : MethodName := ⟨RL, "rebuiltByElimination", "(LRepairSender;II[J)I"⟩
abbrev cL_law : ByteArray := code
def yL_law : MethodName := ⟨RL, "law", "([I)Z"⟩
def wsX0_init : List Cond := .code yX0_init cX0_init 1 none :: ([.methodLink RX0 3 objectInit, .instanceMethod objectInit, .code objectInit ⟨#[0xb1]⟩ 1 none, .classLink RX0 9 "[[I", .arrayClass .int, .fieldLink RX0 11 "RepairSender$Equations" "cells" "[[I"] ++ wsX00)
def wsX1_product : List Cond := .code yX1_product cX1_product 5 (some .int) :: ([])
def wsX0_write : List Cond := .code yX0_write cX0_write 5 none :: ([.fieldLink RX0 22 "RepairSender$Equations" "count" "I", .fieldLink RX0 11 "RepairSender$Equations" "cells" "[[I", .static yX1_product, .initialized RX1, .code yX1_product cX1_product 5 (some .int)] ++ wsX20 ++ wsX00)
def wsX1_inverse : List Cond := .code yX1_inverse cX1_inverse 4 (some .int) :: ([.methodLink RX1 11 yX1_product, .static yX1_product, .initialized RX1, .code yX1_product cX1_product 5 (some .int)])
def wsX0_scaleRow : List Cond := .code yX0_scaleRow cX0_scaleRow 4 none :: ([.fieldLink RX0 22 "RepairSender$Equations" "count" "I", .fieldLink RX0 11 "RepairSender$Equations" "cells" "[[I", .static yX1_product, .initialized RX1, .code yX1_product cX1_product 5 (some .int)] ++ wsX00)
def wsX0_addMultiple : List Cond := .code yX0_addMultiple cX0_addMultiple 5 none :: ([.fieldLink RX0 22 "RepairSender$Equations" "count" "I", .fieldLink RX0 11 "RepairSender$Equations" "cells" "[[I", .static yX1_product, .initialized RX1, .code yX1_product cX1_product 5 (some .int)] ++ wsX00)
def wsX0_solve : List Cond := .code yX0_solve cX0_solve 3 none :: ([.fieldLink RX0 22 "RepairSender$Equations" "count" "I", .fieldLink RX0 11 "RepairSender$Equations" "cells" "[[I", .static yX1_inverse, .initialized RX1, .code yX1_inverse cX1_inverse 4 (some .int), .methodLink RX1 11 yX1_product, .static yX1_product, .code yX1_product cX1_product 5 (some .int), .methodLink RX0 40 yX0_scaleRow, .instanceMethod yX0_scaleRow, .selects RX0 yX0_scaleRow yX0_scaleRow, .initialized RX0, .code yX0_scaleRow cX0_scaleRow 4 none, .methodLink RX0 44 yX0_addMultiple, .instanceMethod yX0_addMultiple, .selects RX0 yX0_addMultiple yX0_addMultiple, .code yX0_addMultiple cX0_addMultiple 5 none] ++ wsX00)
def wsX0_polynomialAt : List Cond := .code yX0_polynomialAt cX0_polynomialAt 4 (some .int) :: ([.fieldLink RX0 22 "RepairSender$Equations" "count" "I", .fieldLink RX0 11 "RepairSender$Equations" "cells" "[[I", .static yX1_product, .initialized RX1, .code yX1_product cX1_product 5 (some .int)] ++ wsX00)
def wsX2_init : List Cond := .code yX2_init cX2_init 1 none :: ([.methodLink RX2 3 objectInit, .instanceMethod objectInit, .code objectInit ⟨#[0xb1]⟩ 1 none, .arrayClass .int, .fieldLink RX2 9 "RepairSender$Points" "places" "[I", .fieldLink RX2 15 "RepairSender$Points" "values" "[I"] ++ wsX20)
def wsX2_clear : List Cond := .code yX2_clear cX2_clear 1 none :: ([.fieldLink RX2 18 "RepairSender$Points" "count" "I"] ++ wsX20)
def wsX2_add : List Cond := .code yX2_add cX2_add 3 none :: ([.fieldLink RX2 18 "RepairSender$Points" "count" "I", .fieldLink RX2 9 "RepairSender$Points" "places" "[I", .fieldLink RX2 15 "RepairSender$Points" "values" "[I"] ++ wsX20)
def wsX2_weight : List Cond := .code yX2_weight cX2_weight 6 (some .int) :: ([.fieldLink RX2 18 "RepairSender$Points" "count" "I", .fieldLink RX2 9 "RepairSender$Points" "places" "[I", .static yX1_product, .initialized RX1, .code yX1_product cX1_product 5 (some .int), .static yX1_inverse, .code yX1_inverse cX1_inverse 4 (some .int), .methodLink RX1 11 yX1_product] ++ wsX20)
def wsX2_polynomialAt : List Cond := .code yX2_polynomialAt cX2_polynomialAt 4 (some .int) :: ([.fieldLink RX2 18 "RepairSender$Points" "count" "I", .fieldLink RX2 15 "RepairSender$Points" "values" "[I", .methodLink RX2 22 yX2_weight, .instanceMethod yX2_weight, .selects RX2 yX2_weight yX2_weight, .initialized RX2, .code yX2_weight cX2_weight 6 (some .int), .fieldLink RX2 9 "RepairSender$Points" "places" "[I", .static yX1_product, .initialized RX1, .code yX1_product cX1_product 5 (some .int), .static yX1_inverse, .code yX1_inverse cX1_inverse 4 (some .int), .methodLink RX1 11 yX1_product] ++ wsX20)
def wsX3_startBlock : List Cond := .code yX3_startBlock cX3_startBlock 4 none :: ([.fieldLink RX3 10 "RepairSender" "block" "LRepairSender$Points;", .fieldLink RX3 173 "RepairSender" "patience" "I", .fieldLink RX3 84 "RepairSender" "receiverCount" "I", .fieldLink RX3 56 "RepairSender" "sentCount" "I", .fieldLink RX3 111 "RepairSender" "reportCount" "I", .fieldLink RX3 114 "RepairSender" "keptBackCount" "I", .instanceMethod yX2_clear, .initialized RX2, .selects RX2 yX2_clear yX2_clear, .code yX2_clear cX2_clear 1 none, .fieldLink RX2 18 "RepairSender$Points" "count" "I", .instanceMethod yX2_add, .selects RX2 yX2_add yX2_add, .code yX2_add cX2_add 3 none, .fieldLink RX2 9 "RepairSender$Points" "places" "[I", .fieldLink RX2 15 "RepairSender$Points" "values" "[I"] ++ wsX30 ++ wsX20)
def wsX3_init_r1 : List Cond := [Cond.methodLink RX3 1 objectInit, Cond.instanceMethod objectInit, Cond.code objectInit ⟨#[0xb1]⟩ 1 none, Cond.classLink RX3 7 RX2, Cond.instantiable RX2 3, Cond.initialized RX2, Cond.fieldLink RX3 10 "RepairSender" "block" "LRepairSender$Points;", Cond.arrayClass .int, Cond.fieldLink RX3 16 "RepairSender" "losses" "[I", Cond.fieldLink RX3 20 "RepairSender" "waits" "[I", Cond.fieldLink RX3 23 "RepairSender" "packetSets" "[I", Cond.fieldLink RX3 26 "RepairSender" "badCounts" "[I", Cond.arrayClass .boolean, Cond.fieldLink RX3 29 "RepairSender" "dropped" "[Z", Cond.fieldLink RX3 33 "RepairSender" "chosen" "LRepairSender$Points;", Cond.classLink RX3 36 RX0, Cond.instantiable RX0 2, Cond.initialized RX0, Cond.fieldLink RX3 39 "RepairSender" "equations" "LRepairSender$Equations;", Cond.instanceMethod yX2_init, Cond.code yX2_init cX2_init 1 none, Cond.methodLink RX2 3 objectInit, Cond.fieldLink RX2 9 "RepairSender$Points" "places" "[I", Cond.fieldLink RX2 15 "RepairSender$Points" "values" "[I"]
def wsX3_init_r2 : List Cond := [Cond.instanceMethod yX0_init, Cond.code yX0_init cX0_init 1 none, Cond.methodLink RX0 3 objectInit, Cond.classLink RX0 9 "[[I", Cond.fieldLink RX0 11 "RepairSender$Equations" "cells" "[[I", Cond.methodLink RX3 43 yX3_startBlock, Cond.instanceMethod yX3_startBlock, Cond.selects RX3 yX3_startBlock yX3_startBlock, Cond.initialized RX3, Cond.code yX3_startBlock cX3_startBlock 4 none, Cond.fieldLink RX3 173 "RepairSender" "patience" "I", Cond.fieldLink RX3 84 "RepairSender" "receiverCount" "I", Cond.fieldLink RX3 56 "RepairSender" "sentCount" "I", Cond.fieldLink RX3 111 "RepairSender" "reportCount" "I", Cond.fieldLink RX3 114 "RepairSender" "keptBackCount" "I", Cond.instanceMethod yX2_clear, Cond.selects RX2 yX2_clear yX2_clear, Cond.code yX2_clear cX2_clear 1 none, Cond.fieldLink RX2 18 "RepairSender$Points" "count" "I", Cond.instanceMethod yX2_add, Cond.selects RX2 yX2_add yX2_add, Cond.code yX2_add cX2_add 3 none]
def wsX3_init : List Cond := .code yX3_init cX3_init 1 none :: ((wsX3_init_r1 ++ wsX3_init_r2) ++ wsX20 ++ wsX30 ++ wsX00)
def wsX3_begin : List Cond := .code yX3_begin cX3_begin 4 (some .int) :: ([.classLink RX3 47 "java/lang/IllegalArgumentException", .initialized "java/lang/IllegalArgumentException", .fieldLink RX3 56 "RepairSender" "sentCount" "I", .methodLink RX3 43 yX3_startBlock, .instanceMethod yX3_startBlock, .selects RX3 yX3_startBlock yX3_startBlock, .initialized RX3, .code yX3_startBlock cX3_startBlock 4 none, .fieldLink RX3 10 "RepairSender" "block" "LRepairSender$Points;", .fieldLink RX3 173 "RepairSender" "patience" "I", .fieldLink RX3 84 "RepairSender" "receiverCount" "I", .fieldLink RX3 111 "RepairSender" "reportCount" "I", .fieldLink RX3 114 "RepairSender" "keptBackCount" "I", .instanceMethod yX2_clear, .initialized RX2, .selects RX2 yX2_clear yX2_clear, .code yX2_clear cX2_clear 1 none, .fieldLink RX2 18 "RepairSender$Points" "count" "I", .instanceMethod yX2_add, .selects RX2 yX2_add yX2_add, .code yX2_add cX2_add 3 none, .fieldLink RX2 9 "RepairSender$Points" "places" "[I", .fieldLink RX2 15 "RepairSender$Points" "values" "[I"] ++ wsX30 ++ wsX20 ++ (vx_atS RX3 51 "java/lang/IllegalArgumentException" ["java/lang/RuntimeException", "java/lang/Exception"]).filter goodWord)
def wsX3_demandPlace : List Cond := .code yX3_demandPlace cX3_demandPlace 2 none :: ([.classLink RX3 129 "java/lang/IndexOutOfBoundsException", .initialized "java/lang/IndexOutOfBoundsException", .fieldLink RX3 10 "RepairSender" "block" "LRepairSender$Points;"] ++ wsX30 ++ wsX20 ++ (vx_atS RX3 133 "java/lang/IndexOutOfBoundsException" ["java/lang/RuntimeException", "java/lang/Exception"]).filter goodWord)
def wsX3_isFieldNumber : List Cond := .code yX3_isFieldNumber cX3_isFieldNumber 1 (some .boolean) :: ([])
def wsX3_setDatum : List Cond := .code yX3_setDatum cX3_setDatum 4 (some .int) :: ([.classLink RX3 47 "java/lang/IllegalArgumentException", .initialized "java/lang/IllegalArgumentException", .classLink RX3 70 "java/lang/IllegalStateException", .initialized "java/lang/IllegalStateException", .fieldLink RX3 56 "RepairSender" "sentCount" "I", .fieldLink RX3 10 "RepairSender" "block" "LRepairSender$Points;", .methodLink RX3 60 yX3_demandPlace, .instanceMethod yX3_demandPlace, .selects RX3 yX3_demandPlace yX3_demandPlace, .initialized RX3, .code yX3_demandPlace cX3_demandPlace 2 none, .classLink RX3 129 "java/lang/IndexOutOfBoundsException", .initialized "java/lang/IndexOutOfBoundsException", .methodLink RX3 64 yX3_isFieldNumber, .static yX3_isFieldNumber, .code yX3_isFieldNumber cX3_isFieldNumber 1 (some .boolean)] ++ wsX30 ++ wsX20 ++ (vx_atS RX3 51 "java/lang/IllegalArgumentException" ["java/lang/RuntimeException", "java/lang/Exception"]).filter goodWord ++ (vx_atS RX3 74 "java/lang/IllegalStateException" ["java/lang/RuntimeException", "java/lang/Exception"]).filter goodWord ++ (vx_atS RX3 133 "java/lang/IndexOutOfBoundsException" ["java/lang/RuntimeException", "java/lang/Exception"]).filter goodWord)
def wsX3_demandLosses : List Cond := .code yX3_demandLosses cX3_demandLosses 1 none :: ([.classLink RX3 47 "java/lang/IllegalArgumentException", .initialized "java/lang/IllegalArgumentException"] ++ (vx_atS RX3 51 "java/lang/IllegalArgumentException" ["java/lang/RuntimeException", "java/lang/Exception"]).filter goodWord)
def wsX3_demandWait : List Cond := .code yX3_demandWait cX3_demandWait 1 none :: ([.classLink RX3 47 "java/lang/IllegalArgumentException", .initialized "java/lang/IllegalArgumentException"] ++ (vx_atS RX3 51 "java/lang/IllegalArgumentException" ["java/lang/RuntimeException", "java/lang/Exception"]).filter goodWord)
def wsX3_join : List Cond := .code yX3_join cX3_join 4 (some .int) :: ([.classLink RX3 70 "java/lang/IllegalStateException", .initialized "java/lang/IllegalStateException", .fieldLink RX3 84 "RepairSender" "receiverCount" "I", .fieldLink RX3 16 "RepairSender" "losses" "[I", .fieldLink RX3 20 "RepairSender" "waits" "[I", .fieldLink RX3 23 "RepairSender" "packetSets" "[I", .fieldLink RX3 26 "RepairSender" "badCounts" "[I", .fieldLink RX3 29 "RepairSender" "dropped" "[Z", .methodLink RX3 78 yX3_demandLosses, .static yX3_demandLosses, .initialized RX3, .code yX3_demandLosses cX3_demandLosses 1 none, .classLink RX3 47 "java/lang/IllegalArgumentException", .initialized "java/lang/IllegalArgumentException", .methodLink RX3 81 yX3_demandWait, .static yX3_demandWait, .code yX3_demandWait cX3_demandWait 1 none] ++ wsX30 ++ (vx_atS RX3 74 "java/lang/IllegalStateException" ["java/lang/RuntimeException", "java/lang/Exception"]).filter goodWord ++ (vx_atS RX3 51 "java/lang/IllegalArgumentException" ["java/lang/RuntimeException", "java/lang/Exception"]).filter goodWord)
def wsX3_demandReceiver : List Cond := .code yX3_demandReceiver cX3_demandReceiver 2 none :: ([.classLink RX3 129 "java/lang/IndexOutOfBoundsException", .initialized "java/lang/IndexOutOfBoundsException", .fieldLink RX3 84 "RepairSender" "receiverCount" "I"] ++ wsX30 ++ (vx_atS RX3 133 "java/lang/IndexOutOfBoundsException" ["java/lang/RuntimeException", "java/lang/Exception"]).filter goodWord)
def wsX3_setLosses : List Cond := .code yX3_setLosses cX3_setLosses 4 (some .int) :: ([.fieldLink RX3 16 "RepairSender" "losses" "[I", .methodLink RX3 89 yX3_demandReceiver, .instanceMethod yX3_demandReceiver, .selects RX3 yX3_demandReceiver yX3_demandReceiver, .initialized RX3, .code yX3_demandReceiver cX3_demandReceiver 2 none, .classLink RX3 129 "java/lang/IndexOutOfBoundsException", .initialized "java/lang/IndexOutOfBoundsException", .fieldLink RX3 84 "RepairSender" "receiverCount" "I", .methodLink RX3 78 yX3_demandLosses, .static yX3_demandLosses, .code yX3_demandLosses cX3_demandLosses 1 none, .classLink RX3 47 "java/lang/IllegalArgumentException", .initialized "java/lang/IllegalArgumentException"] ++ wsX30 ++ (vx_atS RX3 133 "java/lang/IndexOutOfBoundsException" ["java/lang/RuntimeException", "java/lang/Exception"]).filter goodWord ++ (vx_atS RX3 51 "java/lang/IllegalArgumentException" ["java/lang/RuntimeException", "java/lang/Exception"]).filter goodWord)
def wsX3_setWait : List Cond := .code yX3_setWait cX3_setWait 4 (some .int) :: ([.fieldLink RX3 20 "RepairSender" "waits" "[I", .methodLink RX3 89 yX3_demandReceiver, .instanceMethod yX3_demandReceiver, .selects RX3 yX3_demandReceiver yX3_demandReceiver, .initialized RX3, .code yX3_demandReceiver cX3_demandReceiver 2 none, .classLink RX3 129 "java/lang/IndexOutOfBoundsException", .initialized "java/lang/IndexOutOfBoundsException", .fieldLink RX3 84 "RepairSender" "receiverCount" "I", .methodLink RX3 81 yX3_demandWait, .static yX3_demandWait, .code yX3_demandWait cX3_demandWait 1 none, .classLink RX3 47 "java/lang/IllegalArgumentException", .initialized "java/lang/IllegalArgumentException"] ++ wsX30 ++ (vx_atS RX3 133 "java/lang/IndexOutOfBoundsException" ["java/lang/RuntimeException", "java/lang/Exception"]).filter goodWord ++ (vx_atS RX3 51 "java/lang/IllegalArgumentException" ["java/lang/RuntimeException", "java/lang/Exception"]).filter goodWord)
def wsX3_sendNextPacket : List Cond := .code yX3_sendNextPacket cX3_sendNextPacket 4 none :: ([.fieldLink RX3 56 "RepairSender" "sentCount" "I", .fieldLink RX3 84 "RepairSender" "receiverCount" "I", .fieldLink RX3 29 "RepairSender" "dropped" "[Z", .fieldLink RX3 16 "RepairSender" "losses" "[I", .fieldLink RX3 23 "RepairSender" "packetSets" "[I"] ++ wsX30)
def wsX3_sendPackets : List Cond := .code yX3_sendPackets cX3_sendPackets 3 none :: ([.methodLink RX3 186 yX3_sendNextPacket, .instanceMethod yX3_sendNextPacket, .selects RX3 yX3_sendNextPacket yX3_sendNextPacket, .initialized RX3, .code yX3_sendNextPacket cX3_sendNextPacket 4 none, .fieldLink RX3 56 "RepairSender" "sentCount" "I", .fieldLink RX3 84 "RepairSender" "receiverCount" "I", .fieldLink RX3 29 "RepairSender" "dropped" "[Z", .fieldLink RX3 16 "RepairSender" "losses" "[I", .fieldLink RX3 23 "RepairSender" "packetSets" "[I"] ++ wsX30)
def wsJ6_bitCount_0f7a4 : List Cond := .code yJ6_bitCount_0f7a4 cJ6_bitCount_0f7a4 1 (some .int) :: ([.constant RJ6 265 (1431655765), .constant RJ6 266 (858993459), .constant RJ6 267 (252645135)])
def wsX3_needOf : List Cond := .code yX3_needOf cX3_needOf 2 (some .int) :: ([.fieldLink RX3 10 "RepairSender" "block" "LRepairSender$Points;", .fieldLink RX3 23 "RepairSender" "packetSets" "[I", .methodLink RX3 181 Lib.Math.max.name, .static Lib.Math.max.name, .initialized "java/lang/Math", .code Lib.Math.max.name Lib.Math.max.code 2 (some .int), .methodLink RX3 176 yJ6_bitCount_0f7a4, .static yJ6_bitCount_0f7a4, .initialized RJ6, .code yJ6_bitCount_0f7a4 cJ6_bitCount_0f7a4 1 (some .int), .constant RJ6 265 (1431655765), .constant RJ6 266 (858993459), .constant RJ6 267 (252645135)] ++ wsX30 ++ wsX20)
def wsX3_completeCount : List Cond := .code yX3_completeCount cX3_completeCount 3 (some .int) :: ([.fieldLink RX3 84 "RepairSender" "receiverCount" "I", .fieldLink RX3 29 "RepairSender" "dropped" "[Z", .methodLink RX3 117 yX3_needOf, .instanceMethod yX3_needOf, .selects RX3 yX3_needOf yX3_needOf, .initialized RX3, .code yX3_needOf cX3_needOf 2 (some .int), .fieldLink RX3 10 "RepairSender" "block" "LRepairSender$Points;", .fieldLink RX3 23 "RepairSender" "packetSets" "[I", .methodLink RX3 181 Lib.Math.max.name, .static Lib.Math.max.name, .initialized "java/lang/Math", .code Lib.Math.max.name Lib.Math.max.code 2 (some .int), .methodLink RX3 176 yJ6_bitCount_0f7a4, .static yJ6_bitCount_0f7a4, .initialized RJ6, .code yJ6_bitCount_0f7a4 cJ6_bitCount_0f7a4 1 (some .int), .constant RJ6 265 (1431655765), .constant RJ6 266 (858993459), .constant RJ6 267 (252645135)] ++ wsX30 ++ wsX20)
def wsX3_send_r1 : List Cond := [Cond.classLink RX3 47 "java/lang/IllegalArgumentException", Cond.initialized "java/lang/IllegalArgumentException", Cond.classLink RX3 70 "java/lang/IllegalStateException", Cond.initialized "java/lang/IllegalStateException", Cond.fieldLink RX3 56 "RepairSender" "sentCount" "I", Cond.methodLink RX3 96 yX3_sendPackets, Cond.instanceMethod yX3_sendPackets, Cond.selects RX3 yX3_sendPackets yX3_sendPackets, Cond.initialized RX3, Cond.code yX3_sendPackets cX3_sendPackets 3 none, Cond.methodLink RX3 186 yX3_sendNextPacket, Cond.instanceMethod yX3_sendNextPacket, Cond.selects RX3 yX3_sendNextPacket yX3_sendNextPacket, Cond.code yX3_sendNextPacket cX3_sendNextPacket 4 none, Cond.fieldLink RX3 84 "RepairSender" "receiverCount" "I", Cond.fieldLink RX3 29 "RepairSender" "dropped" "[Z", Cond.fieldLink RX3 16 "RepairSender" "losses" "[I", Cond.fieldLink RX3 23 "RepairSender" "packetSets" "[I", Cond.methodLink RX3 99 yX3_completeCount, Cond.instanceMethod yX3_completeCount, Cond.selects RX3 yX3_completeCount yX3_completeCount, Cond.code yX3_completeCount cX3_completeCount 3 (some .int), Cond.methodLink RX3 117 yX3_needOf, Cond.instanceMethod yX3_needOf]
def wsX3_send_r2 : List Cond := [Cond.selects RX3 yX3_needOf yX3_needOf, Cond.code yX3_needOf cX3_needOf 2 (some .int), Cond.fieldLink RX3 10 "RepairSender" "block" "LRepairSender$Points;", Cond.methodLink RX3 181 Lib.Math.max.name, Cond.static Lib.Math.max.name, Cond.initialized "java/lang/Math", Cond.code Lib.Math.max.name Lib.Math.max.code 2 (some .int), Cond.methodLink RX3 176 yJ6_bitCount_0f7a4, Cond.static yJ6_bitCount_0f7a4, Cond.initialized RJ6, Cond.code yJ6_bitCount_0f7a4 cJ6_bitCount_0f7a4 1 (some .int), Cond.constant RJ6 265 (1431655765), Cond.constant RJ6 266 (858993459), Cond.constant RJ6 267 (252645135)]
def wsX3_send : List Cond := .code yX3_send cX3_send 2 (some .int) :: ((wsX3_send_r1 ++ wsX3_send_r2) ++ wsX30 ++ wsX20 ++ (vx_atS RX3 51 "java/lang/IllegalArgumentException" ["java/lang/RuntimeException", "java/lang/Exception"]).filter goodWord ++ (vx_atS RX3 74 "java/lang/IllegalStateException" ["java/lang/RuntimeException", "java/lang/Exception"]).filter goodWord)
def wsX3_isLiveAndLacks : List Cond := .code yX3_isLiveAndLacks cX3_isLiveAndLacks 2 (some .boolean) :: ([.fieldLink RX3 29 "RepairSender" "dropped" "[Z", .methodLink RX3 117 yX3_needOf, .instanceMethod yX3_needOf, .selects RX3 yX3_needOf yX3_needOf, .initialized RX3, .code yX3_needOf cX3_needOf 2 (some .int), .fieldLink RX3 10 "RepairSender" "block" "LRepairSender$Points;", .fieldLink RX3 23 "RepairSender" "packetSets" "[I", .methodLink RX3 181 Lib.Math.max.name, .static Lib.Math.max.name, .initialized "java/lang/Math", .code Lib.Math.max.name Lib.Math.max.code 2 (some .int), .methodLink RX3 176 yJ6_bitCount_0f7a4, .static yJ6_bitCount_0f7a4, .initialized RJ6, .code yJ6_bitCount_0f7a4 cJ6_bitCount_0f7a4 1 (some .int), .constant RJ6 265 (1431655765), .constant RJ6 266 (858993459), .constant RJ6 267 (252645135)] ++ wsX30 ++ wsX20)
def wsX3_hearReportsAt_r1 : List Cond := [Cond.fieldLink RX3 84 "RepairSender" "receiverCount" "I", Cond.fieldLink RX3 20 "RepairSender" "waits" "[I", Cond.fieldLink RX3 111 "RepairSender" "reportCount" "I", Cond.methodLink RX3 181 Lib.Math.max.name, Cond.static Lib.Math.max.name, Cond.initialized "java/lang/Math", Cond.code Lib.Math.max.name Lib.Math.max.code 2 (some .int), Cond.fieldLink RX3 114 "RepairSender" "keptBackCount" "I", Cond.methodLink RX3 192 yX3_isLiveAndLacks, Cond.instanceMethod yX3_isLiveAndLacks, Cond.selects RX3 yX3_isLiveAndLacks yX3_isLiveAndLacks, Cond.initialized RX3, Cond.code yX3_isLiveAndLacks cX3_isLiveAndLacks 2 (some .boolean), Cond.fieldLink RX3 29 "RepairSender" "dropped" "[Z", Cond.methodLink RX3 117 yX3_needOf, Cond.instanceMethod yX3_needOf, Cond.selects RX3 yX3_needOf yX3_needOf, Cond.code yX3_needOf cX3_needOf 2 (some .int), Cond.fieldLink RX3 10 "RepairSender" "block" "LRepairSender$Points;", Cond.fieldLink RX3 23 "RepairSender" "packetSets" "[I", Cond.methodLink RX3 176 yJ6_bitCount_0f7a4, Cond.static yJ6_bitCount_0f7a4, Cond.initialized RJ6, Cond.code yJ6_bitCount_0f7a4 cJ6_bitCount_0f7a4 1 (some .int)]
def wsX3_hearReportsAt_r2 : List Cond := [Cond.constant RJ6 265 (1431655765), Cond.constant RJ6 266 (858993459), Cond.constant RJ6 267 (252645135)]
def wsX3_hearReportsAt : List Cond := .code yX3_hearReportsAt cX3_hearReportsAt 6 (some .int) :: ((wsX3_hearReportsAt_r1 ++ wsX3_hearReportsAt_r2) ++ wsX30 ++ wsX20)
def wsX3_hearReports_r1 : List Cond := [Cond.methodLink RX3 189 yX3_hearReportsAt, Cond.instanceMethod yX3_hearReportsAt, Cond.selects RX3 yX3_hearReportsAt yX3_hearReportsAt, Cond.initialized RX3, Cond.code yX3_hearReportsAt cX3_hearReportsAt 6 (some .int), Cond.fieldLink RX3 84 "RepairSender" "receiverCount" "I", Cond.fieldLink RX3 20 "RepairSender" "waits" "[I", Cond.fieldLink RX3 111 "RepairSender" "reportCount" "I", Cond.methodLink RX3 181 Lib.Math.max.name, Cond.static Lib.Math.max.name, Cond.initialized "java/lang/Math", Cond.code Lib.Math.max.name Lib.Math.max.code 2 (some .int), Cond.fieldLink RX3 114 "RepairSender" "keptBackCount" "I", Cond.methodLink RX3 192 yX3_isLiveAndLacks, Cond.instanceMethod yX3_isLiveAndLacks, Cond.selects RX3 yX3_isLiveAndLacks yX3_isLiveAndLacks, Cond.code yX3_isLiveAndLacks cX3_isLiveAndLacks 2 (some .boolean), Cond.fieldLink RX3 29 "RepairSender" "dropped" "[Z", Cond.methodLink RX3 117 yX3_needOf, Cond.instanceMethod yX3_needOf, Cond.selects RX3 yX3_needOf yX3_needOf, Cond.code yX3_needOf cX3_needOf 2 (some .int), Cond.fieldLink RX3 10 "RepairSender" "block" "LRepairSender$Points;", Cond.fieldLink RX3 23 "RepairSender" "packetSets" "[I"]
def wsX3_hearReports_r2 : List Cond := [Cond.methodLink RX3 176 yJ6_bitCount_0f7a4, Cond.static yJ6_bitCount_0f7a4, Cond.initialized RJ6, Cond.code yJ6_bitCount_0f7a4 cJ6_bitCount_0f7a4 1 (some .int), Cond.constant RJ6 265 (1431655765), Cond.constant RJ6 266 (858993459), Cond.constant RJ6 267 (252645135)]
def wsX3_hearReports : List Cond := .code yX3_hearReports cX3_hearReports 3 (some .int) :: ((wsX3_hearReports_r1 ++ wsX3_hearReports_r2) ++ wsX30 ++ wsX20)
def wsX3_countBadRounds_r1 : List Cond := [Cond.fieldLink RX3 84 "RepairSender" "receiverCount" "I", Cond.fieldLink RX3 26 "RepairSender" "badCounts" "[I", Cond.fieldLink RX3 29 "RepairSender" "dropped" "[Z", Cond.fieldLink RX3 173 "RepairSender" "patience" "I", Cond.methodLink RX3 192 yX3_isLiveAndLacks, Cond.instanceMethod yX3_isLiveAndLacks, Cond.selects RX3 yX3_isLiveAndLacks yX3_isLiveAndLacks, Cond.initialized RX3, Cond.code yX3_isLiveAndLacks cX3_isLiveAndLacks 2 (some .boolean), Cond.methodLink RX3 117 yX3_needOf, Cond.instanceMethod yX3_needOf, Cond.selects RX3 yX3_needOf yX3_needOf, Cond.code yX3_needOf cX3_needOf 2 (some .int), Cond.fieldLink RX3 10 "RepairSender" "block" "LRepairSender$Points;", Cond.fieldLink RX3 23 "RepairSender" "packetSets" "[I", Cond.methodLink RX3 181 Lib.Math.max.name, Cond.static Lib.Math.max.name, Cond.initialized "java/lang/Math", Cond.code Lib.Math.max.name Lib.Math.max.code 2 (some .int), Cond.methodLink RX3 176 yJ6_bitCount_0f7a4, Cond.static yJ6_bitCount_0f7a4, Cond.initialized RJ6, Cond.code yJ6_bitCount_0f7a4 cJ6_bitCount_0f7a4 1 (some .int), Cond.constant RJ6 265 (1431655765)]
def wsX3_countBadRounds_r2 : List Cond := [Cond.constant RJ6 266 (858993459), Cond.constant RJ6 267 (252645135)]
def wsX3_countBadRounds : List Cond := .code yX3_countBadRounds cX3_countBadRounds 2 none :: ((wsX3_countBadRounds_r1 ++ wsX3_countBadRounds_r2) ++ wsX30 ++ wsX20)
def wsX3_round_r1 : List Cond := [Cond.classLink RX3 70 "java/lang/IllegalStateException", Cond.initialized "java/lang/IllegalStateException", Cond.fieldLink RX3 56 "RepairSender" "sentCount" "I", Cond.methodLink RX3 105 yX3_hearReports, Cond.instanceMethod yX3_hearReports, Cond.selects RX3 yX3_hearReports yX3_hearReports, Cond.initialized RX3, Cond.code yX3_hearReports cX3_hearReports 3 (some .int), Cond.methodLink RX3 189 yX3_hearReportsAt, Cond.instanceMethod yX3_hearReportsAt, Cond.selects RX3 yX3_hearReportsAt yX3_hearReportsAt, Cond.code yX3_hearReportsAt cX3_hearReportsAt 6 (some .int), Cond.fieldLink RX3 84 "RepairSender" "receiverCount" "I", Cond.fieldLink RX3 20 "RepairSender" "waits" "[I", Cond.fieldLink RX3 111 "RepairSender" "reportCount" "I", Cond.methodLink RX3 181 Lib.Math.max.name, Cond.static Lib.Math.max.name, Cond.initialized "java/lang/Math", Cond.code Lib.Math.max.name Lib.Math.max.code 2 (some .int), Cond.fieldLink RX3 114 "RepairSender" "keptBackCount" "I", Cond.methodLink RX3 192 yX3_isLiveAndLacks, Cond.instanceMethod yX3_isLiveAndLacks, Cond.selects RX3 yX3_isLiveAndLacks yX3_isLiveAndLacks, Cond.code yX3_isLiveAndLacks cX3_isLiveAndLacks 2 (some .boolean)]
def wsX3_round_r2 : List Cond := [Cond.fieldLink RX3 29 "RepairSender" "dropped" "[Z", Cond.methodLink RX3 117 yX3_needOf, Cond.instanceMethod yX3_needOf, Cond.selects RX3 yX3_needOf yX3_needOf, Cond.code yX3_needOf cX3_needOf 2 (some .int), Cond.fieldLink RX3 10 "RepairSender" "block" "LRepairSender$Points;", Cond.fieldLink RX3 23 "RepairSender" "packetSets" "[I", Cond.methodLink RX3 176 yJ6_bitCount_0f7a4, Cond.static yJ6_bitCount_0f7a4, Cond.initialized RJ6, Cond.code yJ6_bitCount_0f7a4 cJ6_bitCount_0f7a4 1 (some .int), Cond.constant RJ6 265 (1431655765), Cond.constant RJ6 266 (858993459), Cond.constant RJ6 267 (252645135), Cond.methodLink RX3 96 yX3_sendPackets, Cond.instanceMethod yX3_sendPackets, Cond.selects RX3 yX3_sendPackets yX3_sendPackets, Cond.code yX3_sendPackets cX3_sendPackets 3 none, Cond.methodLink RX3 186 yX3_sendNextPacket, Cond.instanceMethod yX3_sendNextPacket, Cond.selects RX3 yX3_sendNextPacket yX3_sendNextPacket, Cond.code yX3_sendNextPacket cX3_sendNextPacket 4 none, Cond.fieldLink RX3 16 "RepairSender" "losses" "[I", Cond.methodLink RX3 108 yX3_countBadRounds]
def wsX3_round_r3 : List Cond := [Cond.instanceMethod yX3_countBadRounds, Cond.selects RX3 yX3_countBadRounds yX3_countBadRounds, Cond.code yX3_countBadRounds cX3_countBadRounds 2 none, Cond.fieldLink RX3 26 "RepairSender" "badCounts" "[I", Cond.fieldLink RX3 173 "RepairSender" "patience" "I"]
def wsX3_round : List Cond := .code yX3_round cX3_round 2 (some .int) :: ((wsX3_round_r1 ++ (wsX3_round_r2 ++ wsX3_round_r3)) ++ wsX30 ++ wsX20 ++ (vx_atS RX3 74 "java/lang/IllegalStateException" ["java/lang/RuntimeException", "java/lang/Exception"]).filter goodWord)
def wsX3_sent : List Cond := .code yX3_sent cX3_sent 1 (some .int) :: ([.fieldLink RX3 56 "RepairSender" "sentCount" "I"] ++ wsX30)
def wsX3_receivers : List Cond := .code yX3_receivers cX3_receivers 1 (some .int) :: ([.fieldLink RX3 84 "RepairSender" "receiverCount" "I"] ++ wsX30)
def wsX3_reports : List Cond := .code yX3_reports cX3_reports 1 (some .int) :: ([.fieldLink RX3 111 "RepairSender" "reportCount" "I"] ++ wsX30)
def wsX3_keptBack : List Cond := .code yX3_keptBack cX3_keptBack 1 (some .int) :: ([.fieldLink RX3 114 "RepairSender" "keptBackCount" "I"] ++ wsX30)
def wsX3_has : List Cond := .code yX3_has cX3_has 2 (some .int) :: ([.fieldLink RX3 23 "RepairSender" "packetSets" "[I", .methodLink RX3 89 yX3_demandReceiver, .instanceMethod yX3_demandReceiver, .selects RX3 yX3_demandReceiver yX3_demandReceiver, .initialized RX3, .code yX3_demandReceiver cX3_demandReceiver 2 none, .classLink RX3 129 "java/lang/IndexOutOfBoundsException", .initialized "java/lang/IndexOutOfBoundsException", .fieldLink RX3 84 "RepairSender" "receiverCount" "I"] ++ wsX30 ++ (vx_atS RX3 133 "java/lang/IndexOutOfBoundsException" ["java/lang/RuntimeException", "java/lang/Exception"]).filter goodWord)
def wsX3_need_r1 : List Cond := [Cond.methodLink RX3 89 yX3_demandReceiver, Cond.instanceMethod yX3_demandReceiver, Cond.selects RX3 yX3_demandReceiver yX3_demandReceiver, Cond.initialized RX3, Cond.code yX3_demandReceiver cX3_demandReceiver 2 none, Cond.classLink RX3 129 "java/lang/IndexOutOfBoundsException", Cond.initialized "java/lang/IndexOutOfBoundsException", Cond.fieldLink RX3 84 "RepairSender" "receiverCount" "I", Cond.methodLink RX3 117 yX3_needOf, Cond.instanceMethod yX3_needOf, Cond.selects RX3 yX3_needOf yX3_needOf, Cond.code yX3_needOf cX3_needOf 2 (some .int), Cond.fieldLink RX3 10 "RepairSender" "block" "LRepairSender$Points;", Cond.fieldLink RX3 23 "RepairSender" "packetSets" "[I", Cond.methodLink RX3 181 Lib.Math.max.name, Cond.static Lib.Math.max.name, Cond.initialized "java/lang/Math", Cond.code Lib.Math.max.name Lib.Math.max.code 2 (some .int), Cond.methodLink RX3 176 yJ6_bitCount_0f7a4, Cond.static yJ6_bitCount_0f7a4, Cond.initialized RJ6, Cond.code yJ6_bitCount_0f7a4 cJ6_bitCount_0f7a4 1 (some .int), Cond.constant RJ6 265 (1431655765), Cond.constant RJ6 266 (858993459)]
def wsX3_need_r2 : List Cond := [Cond.constant RJ6 267 (252645135)]
def wsX3_need : List Cond := .code yX3_need cX3_need 2 (some .int) :: ((wsX3_need_r1 ++ wsX3_need_r2) ++ wsX30 ++ wsX20 ++ (vx_atS RX3 133 "java/lang/IndexOutOfBoundsException" ["java/lang/RuntimeException", "java/lang/Exception"]).filter goodWord)
def wsX3_isDropped : List Cond := .code yX3_isDropped cX3_isDropped 2 (some .boolean) :: ([.fieldLink RX3 29 "RepairSender" "dropped" "[Z", .methodLink RX3 89 yX3_demandReceiver, .instanceMethod yX3_demandReceiver, .selects RX3 yX3_demandReceiver yX3_demandReceiver, .initialized RX3, .code yX3_demandReceiver cX3_demandReceiver 2 none, .classLink RX3 129 "java/lang/IndexOutOfBoundsException", .initialized "java/lang/IndexOutOfBoundsException", .fieldLink RX3 84 "RepairSender" "receiverCount" "I"] ++ wsX30 ++ (vx_atS RX3 133 "java/lang/IndexOutOfBoundsException" ["java/lang/RuntimeException", "java/lang/Exception"]).filter goodWord)
def wsX3_badRounds : List Cond := .code yX3_badRounds cX3_badRounds 2 (some .int) :: ([.fieldLink RX3 26 "RepairSender" "badCounts" "[I", .methodLink RX3 89 yX3_demandReceiver, .instanceMethod yX3_demandReceiver, .selects RX3 yX3_demandReceiver yX3_demandReceiver, .initialized RX3, .code yX3_demandReceiver cX3_demandReceiver 2 none, .classLink RX3 129 "java/lang/IndexOutOfBoundsException", .initialized "java/lang/IndexOutOfBoundsException", .fieldLink RX3 84 "RepairSender" "receiverCount" "I"] ++ wsX30 ++ (vx_atS RX3 133 "java/lang/IndexOutOfBoundsException" ["java/lang/RuntimeException", "java/lang/Exception"]).filter goodWord)
def wsX3_times : List Cond := .code yX3_times cX3_times 3 (some .int) :: ([.classLink RX3 47 "java/lang/IllegalArgumentException", .initialized "java/lang/IllegalArgumentException", .methodLink RX3 64 yX3_isFieldNumber, .static yX3_isFieldNumber, .initialized RX3, .code yX3_isFieldNumber cX3_isFieldNumber 1 (some .boolean), .static yX1_product, .initialized RX1, .code yX1_product cX1_product 5 (some .int)] ++ (vx_atS RX3 51 "java/lang/IllegalArgumentException" ["java/lang/RuntimeException", "java/lang/Exception"]).filter goodWord)
def wsX3_packet : List Cond := .code yX3_packet cX3_packet 2 (some .int) :: ([.classLink RX3 129 "java/lang/IndexOutOfBoundsException", .initialized "java/lang/IndexOutOfBoundsException", .fieldLink RX3 10 "RepairSender" "block" "LRepairSender$Points;", .instanceMethod yX2_polynomialAt, .initialized RX2, .selects RX2 yX2_polynomialAt yX2_polynomialAt, .code yX2_polynomialAt cX2_polynomialAt 4 (some .int), .fieldLink RX2 18 "RepairSender$Points" "count" "I", .fieldLink RX2 15 "RepairSender$Points" "values" "[I", .methodLink RX2 22 yX2_weight, .instanceMethod yX2_weight, .selects RX2 yX2_weight yX2_weight, .code yX2_weight cX2_weight 6 (some .int), .fieldLink RX2 9 "RepairSender$Points" "places" "[I", .static yX1_product, .initialized RX1, .code yX1_product cX1_product 5 (some .int), .static yX1_inverse, .code yX1_inverse cX1_inverse 4 (some .int), .methodLink RX1 11 yX1_product] ++ wsX30 ++ wsX20 ++ (vx_atS RX3 133 "java/lang/IndexOutOfBoundsException" ["java/lang/RuntimeException", "java/lang/Exception"]).filter goodWord)
def wsX3_demandRebuilding_r1 : List Cond := [Cond.classLink RX3 70 "java/lang/IllegalStateException", Cond.initialized "java/lang/IllegalStateException", Cond.methodLink RX3 89 yX3_demandReceiver, Cond.instanceMethod yX3_demandReceiver, Cond.selects RX3 yX3_demandReceiver yX3_demandReceiver, Cond.initialized RX3, Cond.code yX3_demandReceiver cX3_demandReceiver 2 none, Cond.classLink RX3 129 "java/lang/IndexOutOfBoundsException", Cond.initialized "java/lang/IndexOutOfBoundsException", Cond.fieldLink RX3 84 "RepairSender" "receiverCount" "I", Cond.methodLink RX3 60 yX3_demandPlace, Cond.instanceMethod yX3_demandPlace, Cond.selects RX3 yX3_demandPlace yX3_demandPlace, Cond.code yX3_demandPlace cX3_demandPlace 2 none, Cond.fieldLink RX3 10 "RepairSender" "block" "LRepairSender$Points;", Cond.methodLink RX3 117 yX3_needOf, Cond.instanceMethod yX3_needOf, Cond.selects RX3 yX3_needOf yX3_needOf, Cond.code yX3_needOf cX3_needOf 2 (some .int), Cond.fieldLink RX3 23 "RepairSender" "packetSets" "[I", Cond.methodLink RX3 181 Lib.Math.max.name, Cond.static Lib.Math.max.name, Cond.initialized "java/lang/Math", Cond.code Lib.Math.max.name Lib.Math.max.code 2 (some .int)]
def wsX3_demandRebuilding_r2 : List Cond := [Cond.methodLink RX3 176 yJ6_bitCount_0f7a4, Cond.static yJ6_bitCount_0f7a4, Cond.initialized RJ6, Cond.code yJ6_bitCount_0f7a4 cJ6_bitCount_0f7a4 1 (some .int), Cond.constant RJ6 265 (1431655765), Cond.constant RJ6 266 (858993459), Cond.constant RJ6 267 (252645135)]
def wsX3_demandRebuilding : List Cond := .code yX3_demandRebuilding cX3_demandRebuilding 3 none :: ((wsX3_demandRebuilding_r1 ++ wsX3_demandRebuilding_r2) ++ wsX30 ++ wsX20 ++ (vx_atS RX3 74 "java/lang/IllegalStateException" ["java/lang/RuntimeException", "java/lang/Exception"]).filter goodWord ++ (vx_atS RX3 133 "java/lang/IndexOutOfBoundsException" ["java/lang/RuntimeException", "java/lang/Exception"]).filter goodWord)
def wsX3_chooseIfWanted : List Cond := .code yX3_chooseIfWanted cX3_chooseIfWanted 4 none :: ([.fieldLink RX3 33 "RepairSender" "chosen" "LRepairSender$Points;", .fieldLink RX3 10 "RepairSender" "block" "LRepairSender$Points;", .instanceMethod yX2_polynomialAt, .initialized RX2, .selects RX2 yX2_polynomialAt yX2_polynomialAt, .code yX2_polynomialAt cX2_polynomialAt 4 (some .int), .fieldLink RX2 18 "RepairSender$Points" "count" "I", .fieldLink RX2 15 "RepairSender$Points" "values" "[I", .methodLink RX2 22 yX2_weight, .instanceMethod yX2_weight, .selects RX2 yX2_weight yX2_weight, .code yX2_weight cX2_weight 6 (some .int), .fieldLink RX2 9 "RepairSender$Points" "places" "[I", .static yX1_product, .initialized RX1, .code yX1_product cX1_product 5 (some .int), .static yX1_inverse, .code yX1_inverse cX1_inverse 4 (some .int), .methodLink RX1 11 yX1_product, .instanceMethod yX2_add, .selects RX2 yX2_add yX2_add, .code yX2_add cX2_add 3 none] ++ wsX30 ++ wsX20)
def wsX3_chooseLowest_r1 : List Cond := [Cond.fieldLink RX3 33 "RepairSender" "chosen" "LRepairSender$Points;", Cond.instanceMethod yX2_clear, Cond.initialized RX2, Cond.selects RX2 yX2_clear yX2_clear, Cond.code yX2_clear cX2_clear 1 none, Cond.fieldLink RX2 18 "RepairSender$Points" "count" "I", Cond.methodLink RX3 195 yX3_chooseIfWanted, Cond.instanceMethod yX3_chooseIfWanted, Cond.selects RX3 yX3_chooseIfWanted yX3_chooseIfWanted, Cond.initialized RX3, Cond.code yX3_chooseIfWanted cX3_chooseIfWanted 4 none, Cond.fieldLink RX3 10 "RepairSender" "block" "LRepairSender$Points;", Cond.instanceMethod yX2_polynomialAt, Cond.selects RX2 yX2_polynomialAt yX2_polynomialAt, Cond.code yX2_polynomialAt cX2_polynomialAt 4 (some .int), Cond.fieldLink RX2 15 "RepairSender$Points" "values" "[I", Cond.methodLink RX2 22 yX2_weight, Cond.instanceMethod yX2_weight, Cond.selects RX2 yX2_weight yX2_weight, Cond.code yX2_weight cX2_weight 6 (some .int), Cond.fieldLink RX2 9 "RepairSender$Points" "places" "[I", Cond.static yX1_product, Cond.initialized RX1, Cond.code yX1_product cX1_product 5 (some .int)]
def wsX3_chooseLowest_r2 : List Cond := [Cond.static yX1_inverse, Cond.code yX1_inverse cX1_inverse 4 (some .int), Cond.methodLink RX1 11 yX1_product, Cond.instanceMethod yX2_add, Cond.selects RX2 yX2_add yX2_add, Cond.code yX2_add cX2_add 3 none]
def wsX3_chooseLowest : List Cond := .code yX3_chooseLowest cX3_chooseLowest 3 none :: ((wsX3_chooseLowest_r1 ++ wsX3_chooseLowest_r2) ++ wsX30 ++ wsX20)
def wsX3_rebuilt_r1 : List Cond := [Cond.fieldLink RX3 23 "RepairSender" "packetSets" "[I", Cond.fieldLink RX3 33 "RepairSender" "chosen" "LRepairSender$Points;", Cond.methodLink RX3 137 yX3_demandRebuilding, Cond.instanceMethod yX3_demandRebuilding, Cond.selects RX3 yX3_demandRebuilding yX3_demandRebuilding, Cond.initialized RX3, Cond.code yX3_demandRebuilding cX3_demandRebuilding 3 none, Cond.classLink RX3 70 "java/lang/IllegalStateException", Cond.initialized "java/lang/IllegalStateException", Cond.methodLink RX3 89 yX3_demandReceiver, Cond.instanceMethod yX3_demandReceiver, Cond.selects RX3 yX3_demandReceiver yX3_demandReceiver, Cond.code yX3_demandReceiver cX3_demandReceiver 2 none, Cond.classLink RX3 129 "java/lang/IndexOutOfBoundsException", Cond.initialized "java/lang/IndexOutOfBoundsException", Cond.fieldLink RX3 84 "RepairSender" "receiverCount" "I", Cond.methodLink RX3 60 yX3_demandPlace, Cond.instanceMethod yX3_demandPlace, Cond.selects RX3 yX3_demandPlace yX3_demandPlace, Cond.code yX3_demandPlace cX3_demandPlace 2 none, Cond.fieldLink RX3 10 "RepairSender" "block" "LRepairSender$Points;", Cond.methodLink RX3 117 yX3_needOf, Cond.instanceMethod yX3_needOf, Cond.selects RX3 yX3_needOf yX3_needOf]
def wsX3_rebuilt_r2 : List Cond := [Cond.code yX3_needOf cX3_needOf 2 (some .int), Cond.methodLink RX3 181 Lib.Math.max.name, Cond.static Lib.Math.max.name, Cond.initialized "java/lang/Math", Cond.code Lib.Math.max.name Lib.Math.max.code 2 (some .int), Cond.methodLink RX3 176 yJ6_bitCount_0f7a4, Cond.static yJ6_bitCount_0f7a4, Cond.initialized RJ6, Cond.code yJ6_bitCount_0f7a4 cJ6_bitCount_0f7a4 1 (some .int), Cond.constant RJ6 265 (1431655765), Cond.constant RJ6 266 (858993459), Cond.constant RJ6 267 (252645135), Cond.methodLink RX3 140 yX3_chooseLowest, Cond.instanceMethod yX3_chooseLowest, Cond.selects RX3 yX3_chooseLowest yX3_chooseLowest, Cond.code yX3_chooseLowest cX3_chooseLowest 3 none, Cond.instanceMethod yX2_clear, Cond.initialized RX2, Cond.selects RX2 yX2_clear yX2_clear, Cond.code yX2_clear cX2_clear 1 none, Cond.fieldLink RX2 18 "RepairSender$Points" "count" "I", Cond.methodLink RX3 195 yX3_chooseIfWanted, Cond.instanceMethod yX3_chooseIfWanted, Cond.selects RX3 yX3_chooseIfWanted yX3_chooseIfWanted]
def wsX3_rebuilt_r3 : List Cond := [Cond.code yX3_chooseIfWanted cX3_chooseIfWanted 4 none, Cond.instanceMethod yX2_polynomialAt, Cond.selects RX2 yX2_polynomialAt yX2_polynomialAt, Cond.code yX2_polynomialAt cX2_polynomialAt 4 (some .int), Cond.fieldLink RX2 15 "RepairSender$Points" "values" "[I", Cond.methodLink RX2 22 yX2_weight, Cond.instanceMethod yX2_weight, Cond.selects RX2 yX2_weight yX2_weight, Cond.code yX2_weight cX2_weight 6 (some .int), Cond.fieldLink RX2 9 "RepairSender$Points" "places" "[I", Cond.static yX1_product, Cond.initialized RX1, Cond.code yX1_product cX1_product 5 (some .int), Cond.static yX1_inverse, Cond.code yX1_inverse cX1_inverse 4 (some .int), Cond.methodLink RX1 11 yX1_product, Cond.instanceMethod yX2_add, Cond.selects RX2 yX2_add yX2_add, Cond.code yX2_add cX2_add 3 none]
def wsX3_rebuilt : List Cond := .code yX3_rebuilt cX3_rebuilt 3 (some .int) :: ((wsX3_rebuilt_r1 ++ (wsX3_rebuilt_r2 ++ wsX3_rebuilt_r3)) ++ wsX30 ++ wsX20 ++ (vx_atS RX3 74 "java/lang/IllegalStateException" ["java/lang/RuntimeException", "java/lang/Exception"]).filter goodWord ++ (vx_atS RX3 133 "java/lang/IndexOutOfBoundsException" ["java/lang/RuntimeException", "java/lang/Exception"]).filter goodWord)
def wsX3_chooseHighest_r1 : List Cond := [Cond.fieldLink RX3 33 "RepairSender" "chosen" "LRepairSender$Points;", Cond.instanceMethod yX2_clear, Cond.initialized RX2, Cond.selects RX2 yX2_clear yX2_clear, Cond.code yX2_clear cX2_clear 1 none, Cond.fieldLink RX2 18 "RepairSender$Points" "count" "I", Cond.methodLink RX3 195 yX3_chooseIfWanted, Cond.instanceMethod yX3_chooseIfWanted, Cond.selects RX3 yX3_chooseIfWanted yX3_chooseIfWanted, Cond.initialized RX3, Cond.code yX3_chooseIfWanted cX3_chooseIfWanted 4 none, Cond.fieldLink RX3 10 "RepairSender" "block" "LRepairSender$Points;", Cond.instanceMethod yX2_polynomialAt, Cond.selects RX2 yX2_polynomialAt yX2_polynomialAt, Cond.code yX2_polynomialAt cX2_polynomialAt 4 (some .int), Cond.fieldLink RX2 15 "RepairSender$Points" "values" "[I", Cond.methodLink RX2 22 yX2_weight, Cond.instanceMethod yX2_weight, Cond.selects RX2 yX2_weight yX2_weight, Cond.code yX2_weight cX2_weight 6 (some .int), Cond.fieldLink RX2 9 "RepairSender$Points" "places" "[I", Cond.static yX1_product, Cond.initialized RX1, Cond.code yX1_product cX1_product 5 (some .int)]
def wsX3_chooseHighest_r2 : List Cond := [Cond.static yX1_inverse, Cond.code yX1_inverse cX1_inverse 4 (some .int), Cond.methodLink RX1 11 yX1_product, Cond.instanceMethod yX2_add, Cond.selects RX2 yX2_add yX2_add, Cond.code yX2_add cX2_add 3 none]
def wsX3_chooseHighest : List Cond := .code yX3_chooseHighest cX3_chooseHighest 3 none :: ((wsX3_chooseHighest_r1 ++ wsX3_chooseHighest_r2) ++ wsX30 ++ wsX20)
def wsX3_rebuiltByElimination_r1 : List Cond := [Cond.fieldLink RX3 23 "RepairSender" "packetSets" "[I", Cond.fieldLink RX3 39 "RepairSender" "equations" "LRepairSender$Equations;", Cond.fieldLink RX3 33 "RepairSender" "chosen" "LRepairSender$Points;", Cond.methodLink RX3 137 yX3_demandRebuilding, Cond.instanceMethod yX3_demandRebuilding, Cond.selects RX3 yX3_demandRebuilding yX3_demandRebuilding, Cond.initialized RX3, Cond.code yX3_demandRebuilding cX3_demandRebuilding 3 none, Cond.classLink RX3 70 "java/lang/IllegalStateException", Cond.initialized "java/lang/IllegalStateException", Cond.methodLink RX3 89 yX3_demandReceiver, Cond.instanceMethod yX3_demandReceiver, Cond.selects RX3 yX3_demandReceiver yX3_demandReceiver, Cond.code yX3_demandReceiver cX3_demandReceiver 2 none, Cond.classLink RX3 129 "java/lang/IndexOutOfBoundsException", Cond.initialized "java/lang/IndexOutOfBoundsException", Cond.fieldLink RX3 84 "RepairSender" "receiverCount" "I", Cond.methodLink RX3 60 yX3_demandPlace, Cond.instanceMethod yX3_demandPlace, Cond.selects RX3 yX3_demandPlace yX3_demandPlace, Cond.code yX3_demandPlace cX3_demandPlace 2 none, Cond.fieldLink RX3 10 "RepairSender" "block" "LRepairSender$Points;", Cond.methodLink RX3 117 yX3_needOf, Cond.instanceMethod yX3_needOf]
def wsX3_rebuiltByElimination_r2 : List Cond := [Cond.selects RX3 yX3_needOf yX3_needOf, Cond.code yX3_needOf cX3_needOf 2 (some .int), Cond.methodLink RX3 181 Lib.Math.max.name, Cond.static Lib.Math.max.name, Cond.initialized "java/lang/Math", Cond.code Lib.Math.max.name Lib.Math.max.code 2 (some .int), Cond.methodLink RX3 176 yJ6_bitCount_0f7a4, Cond.static yJ6_bitCount_0f7a4, Cond.initialized RJ6, Cond.code yJ6_bitCount_0f7a4 cJ6_bitCount_0f7a4 1 (some .int), Cond.constant RJ6 265 (1431655765), Cond.constant RJ6 266 (858993459), Cond.constant RJ6 267 (252645135), Cond.methodLink RX3 143 yX3_chooseHighest, Cond.instanceMethod yX3_chooseHighest, Cond.selects RX3 yX3_chooseHighest yX3_chooseHighest, Cond.code yX3_chooseHighest cX3_chooseHighest 3 none, Cond.instanceMethod yX2_clear, Cond.initialized RX2, Cond.selects RX2 yX2_clear yX2_clear, Cond.code yX2_clear cX2_clear 1 none, Cond.fieldLink RX2 18 "RepairSender$Points" "count" "I", Cond.methodLink RX3 195 yX3_chooseIfWanted, Cond.instanceMethod yX3_chooseIfWanted]
def wsX3_rebuiltByElimination_r3 : List Cond := [Cond.selects RX3 yX3_chooseIfWanted yX3_chooseIfWanted, Cond.code yX3_chooseIfWanted cX3_chooseIfWanted 4 none, Cond.instanceMethod yX2_polynomialAt, Cond.selects RX2 yX2_polynomialAt yX2_polynomialAt, Cond.code yX2_polynomialAt cX2_polynomialAt 4 (some .int), Cond.fieldLink RX2 15 "RepairSender$Points" "values" "[I", Cond.methodLink RX2 22 yX2_weight, Cond.instanceMethod yX2_weight, Cond.selects RX2 yX2_weight yX2_weight, Cond.code yX2_weight cX2_weight 6 (some .int), Cond.fieldLink RX2 9 "RepairSender$Points" "places" "[I", Cond.static yX1_product, Cond.initialized RX1, Cond.code yX1_product cX1_product 5 (some .int), Cond.static yX1_inverse, Cond.code yX1_inverse cX1_inverse 4 (some .int), Cond.methodLink RX1 11 yX1_product, Cond.instanceMethod yX2_add, Cond.selects RX2 yX2_add yX2_add, Cond.code yX2_add cX2_add 3 none, Cond.instanceMethod yX0_write, Cond.initialized RX0, Cond.selects RX0 yX0_write yX0_write, Cond.code yX0_write cX0_write 5 none]
def wsX3_rebuiltByElimination_r4 : List Cond := [Cond.fieldLink RX0 22 "RepairSender$Equations" "count" "I", Cond.fieldLink RX0 11 "RepairSender$Equations" "cells" "[[I", Cond.instanceMethod yX0_solve, Cond.selects RX0 yX0_solve yX0_solve, Cond.code yX0_solve cX0_solve 3 none, Cond.methodLink RX0 40 yX0_scaleRow, Cond.instanceMethod yX0_scaleRow, Cond.selects RX0 yX0_scaleRow yX0_scaleRow, Cond.code yX0_scaleRow cX0_scaleRow 4 none, Cond.methodLink RX0 44 yX0_addMultiple, Cond.instanceMethod yX0_addMultiple, Cond.selects RX0 yX0_addMultiple yX0_addMultiple, Cond.code yX0_addMultiple cX0_addMultiple 5 none, Cond.instanceMethod yX0_polynomialAt, Cond.selects RX0 yX0_polynomialAt yX0_polynomialAt, Cond.code yX0_polynomialAt cX0_polynomialAt 4 (some .int)]
def wsX3_rebuiltByElimination : List Cond := .code yX3_rebuiltByElimination cX3_rebuiltByElimination 3 (some .int) :: ((wsX3_rebuiltByElimination_r1 ++ (wsX3_rebuiltByElimination_r2 ++ (wsX3_rebuiltByElimination_r3 ++ wsX3_rebuiltByElimination_r4))) ++ wsX30 ++ wsX20 ++ wsX00 ++ (vx_atS RX3 74 "java/lang/IllegalStateException" ["java/lang/RuntimeException", "java/lang/Exception"]).filter goodWord ++ (vx_atS RX3 133 "java/lang/IndexOutOfBoundsException" ["java/lang/RuntimeException", "java/lang/Exception"]).filter goodWord)
def wsX4_init : List Cond := .code yX4_init cX4_init 1 none :: ([.methodLink RX4 1 objectInit, .instanceMethod objectInit, .code objectInit ⟨#[0xb1]⟩ 1 none, .arrayClass .int, .fieldLink RX4 7 "RepairSenderModel" "data" "[I", .fieldLink RX4 13 "RepairSenderModel" "lossesOf" "[I", .fieldLink RX4 16 "RepairSenderModel" "waits" "[I", .fieldLink RX4 19 "RepairSenderModel" "sets" "[I", .fieldLink RX4 22 "RepairSenderModel" "bads" "[I", .arrayClass .boolean, .fieldLink RX4 25 "RepairSenderModel" "isGone" "[Z", .fieldLink RX4 29 "RepairSenderModel" "needsAhead" "[I", .fieldLink RX4 32 "RepairSenderModel" "size" "I", .fieldLink RX4 36 "RepairSenderModel" "patience" "I"] ++ wsX40)
def wsX4_thrown : List Cond := .code yX4_thrown cX4_thrown 1 (some .int) :: ([.fieldLink RX4 39 "RepairSenderModel" "thrown" "I"] ++ wsX40)
def wsX4_in : List Cond := .code yX4_in cX4_in 3 (some .boolean) :: ([])
def wsX4_isReceiver : List Cond := .code yX4_isReceiver cX4_isReceiver 2 (some .boolean) :: ([.fieldLink RX4 42 "RepairSenderModel" "receiverMany" "I", .methodLink RX4 45 yX4_in, .static yX4_in, .initialized RX4, .code yX4_in cX4_in 3 (some .boolean)] ++ wsX40)
def wsX4_begin : List Cond := .code yX4_begin cX4_begin 5 (some .int) :: ([.fieldLink RX4 39 "RepairSenderModel" "thrown" "I", .fieldLink RX4 49 "RepairSenderModel" "sentMany" "I", .fieldLink RX4 32 "RepairSenderModel" "size" "I", .fieldLink RX4 36 "RepairSenderModel" "patience" "I", .fieldLink RX4 7 "RepairSenderModel" "data" "[I", .fieldLink RX4 42 "RepairSenderModel" "receiverMany" "I", .fieldLink RX4 52 "RepairSenderModel" "reportMany" "I", .fieldLink RX4 55 "RepairSenderModel" "silentMany" "I", .methodLink RX4 45 yX4_in, .static yX4_in, .initialized RX4, .code yX4_in cX4_in 3 (some .boolean)] ++ wsX40)
def wsX4_setDatum : List Cond := .code yX4_setDatum cX4_setDatum 4 (some .int) :: ([.fieldLink RX4 32 "RepairSenderModel" "size" "I", .fieldLink RX4 49 "RepairSenderModel" "sentMany" "I", .fieldLink RX4 39 "RepairSenderModel" "thrown" "I", .fieldLink RX4 7 "RepairSenderModel" "data" "[I", .methodLink RX4 45 yX4_in, .static yX4_in, .initialized RX4, .code yX4_in cX4_in 3 (some .boolean)] ++ wsX40)
def wsX4_join : List Cond := .code yX4_join cX4_join 3 (some .int) :: ([.fieldLink RX4 42 "RepairSenderModel" "receiverMany" "I", .fieldLink RX4 39 "RepairSenderModel" "thrown" "I", .fieldLink RX4 13 "RepairSenderModel" "lossesOf" "[I", .fieldLink RX4 16 "RepairSenderModel" "waits" "[I", .fieldLink RX4 19 "RepairSenderModel" "sets" "[I", .fieldLink RX4 22 "RepairSenderModel" "bads" "[I", .fieldLink RX4 25 "RepairSenderModel" "isGone" "[Z", .methodLink RX4 45 yX4_in, .static yX4_in, .initialized RX4, .code yX4_in cX4_in 3 (some .boolean)] ++ wsX40)
def wsX4_setLosses : List Cond := .code yX4_setLosses cX4_setLosses 4 (some .int) :: ([.fieldLink RX4 39 "RepairSenderModel" "thrown" "I", .fieldLink RX4 13 "RepairSenderModel" "lossesOf" "[I", .methodLink RX4 58 yX4_isReceiver, .instanceMethod yX4_isReceiver, .selects RX4 yX4_isReceiver yX4_isReceiver, .initialized RX4, .code yX4_isReceiver cX4_isReceiver 2 (some .boolean), .fieldLink RX4 42 "RepairSenderModel" "receiverMany" "I", .methodLink RX4 45 yX4_in, .static yX4_in, .code yX4_in cX4_in 3 (some .boolean)] ++ wsX40)
def wsX4_setWait : List Cond := .code yX4_setWait cX4_setWait 4 (some .int) :: ([.fieldLink RX4 39 "RepairSenderModel" "thrown" "I", .fieldLink RX4 16 "RepairSenderModel" "waits" "[I", .methodLink RX4 58 yX4_isReceiver, .instanceMethod yX4_isReceiver, .selects RX4 yX4_isReceiver yX4_isReceiver, .initialized RX4, .code yX4_isReceiver cX4_isReceiver 2 (some .boolean), .fieldLink RX4 42 "RepairSenderModel" "receiverMany" "I", .methodLink RX4 45 yX4_in, .static yX4_in, .code yX4_in cX4_in 3 (some .boolean)] ++ wsX40)
def wsX4_needOf : List Cond := .code yX4_needOf cX4_needOf 4 (some .int) :: ([.fieldLink RX4 32 "RepairSenderModel" "size" "I", .fieldLink RX4 19 "RepairSenderModel" "sets" "[I"] ++ wsX40)
def wsX4_sendOne : List Cond := .code yX4_sendOne cX4_sendOne 4 none :: ([.fieldLink RX4 49 "RepairSenderModel" "sentMany" "I", .fieldLink RX4 42 "RepairSenderModel" "receiverMany" "I", .fieldLink RX4 13 "RepairSenderModel" "lossesOf" "[I", .fieldLink RX4 19 "RepairSenderModel" "sets" "[I", .fieldLink RX4 25 "RepairSenderModel" "isGone" "[Z"] ++ wsX40)
def wsX4_send : List Cond := .code yX4_send cX4_send 4 (some .int) :: ([.fieldLink RX4 49 "RepairSenderModel" "sentMany" "I", .fieldLink RX4 39 "RepairSenderModel" "thrown" "I", .fieldLink RX4 42 "RepairSenderModel" "receiverMany" "I", .fieldLink RX4 25 "RepairSenderModel" "isGone" "[Z", .methodLink RX4 45 yX4_in, .static yX4_in, .initialized RX4, .code yX4_in cX4_in 3 (some .boolean), .methodLink RX4 62 yX4_sendOne, .instanceMethod yX4_sendOne, .selects RX4 yX4_sendOne yX4_sendOne, .code yX4_sendOne cX4_sendOne 4 none, .fieldLink RX4 13 "RepairSenderModel" "lossesOf" "[I", .fieldLink RX4 19 "RepairSenderModel" "sets" "[I", .methodLink RX4 65 yX4_needOf, .instanceMethod yX4_needOf, .selects RX4 yX4_needOf yX4_needOf, .code yX4_needOf cX4_needOf 4 (some .int), .fieldLink RX4 32 "RepairSenderModel" "size" "I"] ++ wsX40)
def wsX4_layNeeds : List Cond := .code yX4_layNeeds cX4_layNeeds 2 none :: ([.fieldLink RX4 42 "RepairSenderModel" "receiverMany" "I", .fieldLink RX4 29 "RepairSenderModel" "needsAhead" "[I", .fieldLink RX4 25 "RepairSenderModel" "isGone" "[Z", .methodLink RX4 65 yX4_needOf, .instanceMethod yX4_needOf, .selects RX4 yX4_needOf yX4_needOf, .initialized RX4, .code yX4_needOf cX4_needOf 4 (some .int), .fieldLink RX4 32 "RepairSenderModel" "size" "I", .fieldLink RX4 19 "RepairSenderModel" "sets" "[I"] ++ wsX40)
def wsX4_report : List Cond := .code yX4_report cX4_report 6 (some .int) :: ([.fieldLink RX4 42 "RepairSenderModel" "receiverMany" "I", .fieldLink RX4 16 "RepairSenderModel" "waits" "[I", .fieldLink RX4 29 "RepairSenderModel" "needsAhead" "[I", .fieldLink RX4 52 "RepairSenderModel" "reportMany" "I", .fieldLink RX4 55 "RepairSenderModel" "silentMany" "I"] ++ wsX40)
def wsX4_round_r1 : List Cond := [Cond.fieldLink RX4 49 "RepairSenderModel" "sentMany" "I", Cond.fieldLink RX4 39 "RepairSenderModel" "thrown" "I", Cond.fieldLink RX4 42 "RepairSenderModel" "receiverMany" "I", Cond.fieldLink RX4 29 "RepairSenderModel" "needsAhead" "[I", Cond.fieldLink RX4 22 "RepairSenderModel" "bads" "[I", Cond.fieldLink RX4 25 "RepairSenderModel" "isGone" "[Z", Cond.fieldLink RX4 36 "RepairSenderModel" "patience" "I", Cond.methodLink RX4 69 yX4_layNeeds, Cond.instanceMethod yX4_layNeeds, Cond.selects RX4 yX4_layNeeds yX4_layNeeds, Cond.initialized RX4, Cond.code yX4_layNeeds cX4_layNeeds 2 none, Cond.methodLink RX4 65 yX4_needOf, Cond.instanceMethod yX4_needOf, Cond.selects RX4 yX4_needOf yX4_needOf, Cond.code yX4_needOf cX4_needOf 4 (some .int), Cond.fieldLink RX4 32 "RepairSenderModel" "size" "I", Cond.fieldLink RX4 19 "RepairSenderModel" "sets" "[I", Cond.methodLink RX4 72 yX4_report, Cond.instanceMethod yX4_report, Cond.selects RX4 yX4_report yX4_report, Cond.code yX4_report cX4_report 6 (some .int), Cond.fieldLink RX4 16 "RepairSenderModel" "waits" "[I", Cond.fieldLink RX4 52 "RepairSenderModel" "reportMany" "I"]
def wsX4_round_r2 : List Cond := [Cond.fieldLink RX4 55 "RepairSenderModel" "silentMany" "I", Cond.methodLink RX4 62 yX4_sendOne, Cond.instanceMethod yX4_sendOne, Cond.selects RX4 yX4_sendOne yX4_sendOne, Cond.code yX4_sendOne cX4_sendOne 4 none, Cond.fieldLink RX4 13 "RepairSenderModel" "lossesOf" "[I"]
def wsX4_round : List Cond := .code yX4_round cX4_round 3 (some .int) :: ((wsX4_round_r1 ++ wsX4_round_r2) ++ wsX40)
def wsX4_sent : List Cond := .code yX4_sent cX4_sent 1 (some .int) :: ([.fieldLink RX4 39 "RepairSenderModel" "thrown" "I", .fieldLink RX4 49 "RepairSenderModel" "sentMany" "I"] ++ wsX40)
def wsX4_receivers : List Cond := .code yX4_receivers cX4_receivers 1 (some .int) :: ([.fieldLink RX4 39 "RepairSenderModel" "thrown" "I", .fieldLink RX4 42 "RepairSenderModel" "receiverMany" "I"] ++ wsX40)
def wsX4_reports : List Cond := .code yX4_reports cX4_reports 1 (some .int) :: ([.fieldLink RX4 39 "RepairSenderModel" "thrown" "I", .fieldLink RX4 52 "RepairSenderModel" "reportMany" "I"] ++ wsX40)
def wsX4_keptBack : List Cond := .code yX4_keptBack cX4_keptBack 1 (some .int) :: ([.fieldLink RX4 39 "RepairSenderModel" "thrown" "I", .fieldLink RX4 55 "RepairSenderModel" "silentMany" "I"] ++ wsX40)
def wsX4_asksFor : List Cond := .code yX4_asksFor cX4_asksFor 2 (some .boolean) :: ([.fieldLink RX4 39 "RepairSenderModel" "thrown" "I", .methodLink RX4 58 yX4_isReceiver, .instanceMethod yX4_isReceiver, .selects RX4 yX4_isReceiver yX4_isReceiver, .initialized RX4, .code yX4_isReceiver cX4_isReceiver 2 (some .boolean), .fieldLink RX4 42 "RepairSenderModel" "receiverMany" "I", .methodLink RX4 45 yX4_in, .static yX4_in, .code yX4_in cX4_in 3 (some .boolean)] ++ wsX40)
def wsX4_has : List Cond := .code yX4_has cX4_has 2 (some .int) :: ([.fieldLink RX4 19 "RepairSenderModel" "sets" "[I", .methodLink RX4 76 yX4_asksFor, .instanceMethod yX4_asksFor, .selects RX4 yX4_asksFor yX4_asksFor, .initialized RX4, .code yX4_asksFor cX4_asksFor 2 (some .boolean), .fieldLink RX4 39 "RepairSenderModel" "thrown" "I", .methodLink RX4 58 yX4_isReceiver, .instanceMethod yX4_isReceiver, .selects RX4 yX4_isReceiver yX4_isReceiver, .code yX4_isReceiver cX4_isReceiver 2 (some .boolean), .fieldLink RX4 42 "RepairSenderModel" "receiverMany" "I", .methodLink RX4 45 yX4_in, .static yX4_in, .code yX4_in cX4_in 3 (some .boolean)] ++ wsX40)
def wsX4_need : List Cond := .code yX4_need cX4_need 2 (some .int) :: ([.methodLink RX4 76 yX4_asksFor, .instanceMethod yX4_asksFor, .selects RX4 yX4_asksFor yX4_asksFor, .initialized RX4, .code yX4_asksFor cX4_asksFor 2 (some .boolean), .fieldLink RX4 39 "RepairSenderModel" "thrown" "I", .methodLink RX4 58 yX4_isReceiver, .instanceMethod yX4_isReceiver, .selects RX4 yX4_isReceiver yX4_isReceiver, .code yX4_isReceiver cX4_isReceiver 2 (some .boolean), .fieldLink RX4 42 "RepairSenderModel" "receiverMany" "I", .methodLink RX4 45 yX4_in, .static yX4_in, .code yX4_in cX4_in 3 (some .boolean), .methodLink RX4 65 yX4_needOf, .instanceMethod yX4_needOf, .selects RX4 yX4_needOf yX4_needOf, .code yX4_needOf cX4_needOf 4 (some .int), .fieldLink RX4 32 "RepairSenderModel" "size" "I", .fieldLink RX4 19 "RepairSenderModel" "sets" "[I"] ++ wsX40)
def wsX4_isDropped : List Cond := .code yX4_isDropped cX4_isDropped 2 (some .boolean) :: ([.fieldLink RX4 25 "RepairSenderModel" "isGone" "[Z", .methodLink RX4 76 yX4_asksFor, .instanceMethod yX4_asksFor, .selects RX4 yX4_asksFor yX4_asksFor, .initialized RX4, .code yX4_asksFor cX4_asksFor 2 (some .boolean), .fieldLink RX4 39 "RepairSenderModel" "thrown" "I", .methodLink RX4 58 yX4_isReceiver, .instanceMethod yX4_isReceiver, .selects RX4 yX4_isReceiver yX4_isReceiver, .code yX4_isReceiver cX4_isReceiver 2 (some .boolean), .fieldLink RX4 42 "RepairSenderModel" "receiverMany" "I", .methodLink RX4 45 yX4_in, .static yX4_in, .code yX4_in cX4_in 3 (some .boolean)] ++ wsX40)
def wsX4_badRounds : List Cond := .code yX4_badRounds cX4_badRounds 2 (some .int) :: ([.fieldLink RX4 22 "RepairSenderModel" "bads" "[I", .methodLink RX4 76 yX4_asksFor, .instanceMethod yX4_asksFor, .selects RX4 yX4_asksFor yX4_asksFor, .initialized RX4, .code yX4_asksFor cX4_asksFor 2 (some .boolean), .fieldLink RX4 39 "RepairSenderModel" "thrown" "I", .methodLink RX4 58 yX4_isReceiver, .instanceMethod yX4_isReceiver, .selects RX4 yX4_isReceiver yX4_isReceiver, .code yX4_isReceiver cX4_isReceiver 2 (some .boolean), .fieldLink RX4 42 "RepairSenderModel" "receiverMany" "I", .methodLink RX4 45 yX4_in, .static yX4_in, .code yX4_in cX4_in 3 (some .boolean)] ++ wsX40)
def wsX4_product : List Cond := .code yX4_product cX4_product 5 (some .int) :: ([])
def wsX4_inverse : List Cond := .code yX4_inverse cX4_inverse 2 (some .int) :: ([.methodLink RX4 79 yX4_product, .static yX4_product, .initialized RX4, .code yX4_product cX4_product 5 (some .int)])
def wsX4_times : List Cond := .code yX4_times cX4_times 3 (some .int) :: ([.fieldLink RX4 39 "RepairSenderModel" "thrown" "I", .methodLink RX4 45 yX4_in, .static yX4_in, .initialized RX4, .code yX4_in cX4_in 3 (some .boolean), .methodLink RX4 79 yX4_product, .static yX4_product, .code yX4_product cX4_product 5 (some .int)] ++ wsX40)
def wsX4_packet : List Cond := .code yX4_packet cX4_packet 7 (some .int) :: ([.fieldLink RX4 39 "RepairSenderModel" "thrown" "I", .fieldLink RX4 32 "RepairSenderModel" "size" "I", .fieldLink RX4 7 "RepairSenderModel" "data" "[I", .methodLink RX4 45 yX4_in, .static yX4_in, .initialized RX4, .code yX4_in cX4_in 3 (some .boolean), .methodLink RX4 79 yX4_product, .static yX4_product, .code yX4_product cX4_product 5 (some .int), .methodLink RX4 82 yX4_inverse, .static yX4_inverse, .code yX4_inverse cX4_inverse 2 (some .int)] ++ wsX40)
def wsX4_rebuilt : List Cond := .code yX4_rebuilt cX4_rebuilt 3 (some .int) :: ([.fieldLink RX4 32 "RepairSenderModel" "size" "I", .fieldLink RX4 39 "RepairSenderModel" "thrown" "I", .fieldLink RX4 7 "RepairSenderModel" "data" "[I", .methodLink RX4 58 yX4_isReceiver, .instanceMethod yX4_isReceiver, .selects RX4 yX4_isReceiver yX4_isReceiver, .initialized RX4, .code yX4_isReceiver cX4_isReceiver 2 (some .boolean), .fieldLink RX4 42 "RepairSenderModel" "receiverMany" "I", .methodLink RX4 45 yX4_in, .static yX4_in, .code yX4_in cX4_in 3 (some .boolean), .methodLink RX4 65 yX4_needOf, .instanceMethod yX4_needOf, .selects RX4 yX4_needOf yX4_needOf, .code yX4_needOf cX4_needOf 4 (some .int), .fieldLink RX4 19 "RepairSenderModel" "sets" "[I"] ++ wsX40)
def wsX4_rebuiltByElimination : List Cond := .code yX4_rebuiltByElimination cX4_rebuiltByElimination 3 (some .int) :: ([.methodLink RX4 85 yX4_rebuilt, .instanceMethod yX4_rebuilt, .selects RX4 yX4_rebuilt yX4_rebuilt, .initialized RX4, .code yX4_rebuilt cX4_rebuilt 3 (some .int), .fieldLink RX4 32 "RepairSenderModel" "size" "I", .fieldLink RX4 39 "RepairSenderModel" "thrown" "I", .fieldLink RX4 7 "RepairSenderModel" "data" "[I", .methodLink RX4 58 yX4_isReceiver, .instanceMethod yX4_isReceiver, .selects RX4 yX4_isReceiver yX4_isReceiver, .code yX4_isReceiver cX4_isReceiver 2 (some .boolean), .fieldLink RX4 42 "RepairSenderModel" "receiverMany" "I", .methodLink RX4 45 yX4_in, .static yX4_in, .code yX4_in cX4_in 3 (some .boolean), .methodLink RX4 65 yX4_needOf, .instanceMethod yX4_needOf, .selects RX4 yX4_needOf yX4_needOf, .code yX4_needOf cX4_needOf 4 (some .int), .fieldLink RX4 19 "RepairSenderModel" "sets" "[I"] ++ wsX40)
def wsJ9_max_7cf53 : List Cond := .code yJ9_max_7cf53 cJ9_max_7cf53 2 (some .int) :: ([])
def wsL_begin_r1 : List Cond := [Cond.classLink RL 13 "java/lang/IllegalArgumentException", Cond.methodLink RL 7 yX3_begin, Cond.instanceMethod yX3_begin, Cond.selects RX3 yX3_begin yX3_begin, Cond.initialized RX3, Cond.code yX3_begin cX3_begin 4 (some .int), Cond.classLink RX3 47 "java/lang/IllegalArgumentException", Cond.initialized "java/lang/IllegalArgumentException", Cond.fieldLink RX3 56 "RepairSender" "sentCount" "I", Cond.methodLink RX3 43 yX3_startBlock, Cond.instanceMethod yX3_startBlock, Cond.selects RX3 yX3_startBlock yX3_startBlock, Cond.code yX3_startBlock cX3_startBlock 4 none, Cond.fieldLink RX3 10 "RepairSender" "block" "LRepairSender$Points;", Cond.fieldLink RX3 173 "RepairSender" "patience" "I", Cond.fieldLink RX3 84 "RepairSender" "receiverCount" "I", Cond.fieldLink RX3 111 "RepairSender" "reportCount" "I", Cond.fieldLink RX3 114 "RepairSender" "keptBackCount" "I", Cond.instanceMethod yX2_clear, Cond.initialized RX2, Cond.selects RX2 yX2_clear yX2_clear, Cond.code yX2_clear cX2_clear 1 none, Cond.fieldLink RX2 18 "RepairSender$Points" "count" "I", Cond.instanceMethod yX2_add]
def wsL_begin_r2 : List Cond := [Cond.selects RX2 yX2_add yX2_add, Cond.code yX2_add cX2_add 3 none, Cond.fieldLink RX2 9 "RepairSender$Points" "places" "[I", Cond.fieldLink RX2 15 "RepairSender$Points" "values" "[I"]
def wsL_begin : List Cond := .codeWith yL_begin cL_begin 5 (some .int) [(0, 10, 13, 13)] :: ((wsL_begin_r1 ++ wsL_begin_r2) ++ wsX30 ++ wsX20 ++ (vx_atS RX3 51 "java/lang/IllegalArgumentException" ["java/lang/RuntimeException", "java/lang/Exception"]).filter goodWord)
def wsL_setDatum : List Cond := .codeWith yL_setDatum cL_setDatum 5 (some .int) [(0, 10, 13, 18), (0, 10, 17, 13), (0, 10, 21, 20)] :: ([.classLink RL 18 "java/lang/IndexOutOfBoundsException", .classLink RL 13 "java/lang/IllegalArgumentException", .classLink RL 20 "java/lang/IllegalStateException", .methodLink RL 15 yX3_setDatum, .instanceMethod yX3_setDatum, .selects RX3 yX3_setDatum yX3_setDatum, .initialized RX3, .code yX3_setDatum cX3_setDatum 4 (some .int), .classLink RX3 47 "java/lang/IllegalArgumentException", .initialized "java/lang/IllegalArgumentException", .classLink RX3 70 "java/lang/IllegalStateException", .initialized "java/lang/IllegalStateException", .fieldLink RX3 56 "RepairSender" "sentCount" "I", .fieldLink RX3 10 "RepairSender" "block" "LRepairSender$Points;", .methodLink RX3 60 yX3_demandPlace, .instanceMethod yX3_demandPlace, .selects RX3 yX3_demandPlace yX3_demandPlace, .code yX3_demandPlace cX3_demandPlace 2 none, .classLink RX3 129 "java/lang/IndexOutOfBoundsException", .initialized "java/lang/IndexOutOfBoundsException", .methodLink RX3 64 yX3_isFieldNumber, .static yX3_isFieldNumber, .code yX3_isFieldNumber cX3_isFieldNumber 1 (some .boolean)] ++ wsX30 ++ wsX20 ++ (vx_atS RX3 51 "java/lang/IllegalArgumentException" ["java/lang/RuntimeException", "java/lang/Exception"]).filter goodWord ++ (vx_atS RX3 74 "java/lang/IllegalStateException" ["java/lang/RuntimeException", "java/lang/Exception"]).filter goodWord ++ (vx_atS RX3 133 "java/lang/IndexOutOfBoundsException" ["java/lang/RuntimeException", "java/lang/Exception"]).filter goodWord)
def wsL_join : List Cond := .codeWith yL_join cL_join 5 (some .int) [(0, 10, 13, 13), (0, 10, 17, 20)] :: ([.classLink RL 13 "java/lang/IllegalArgumentException", .classLink RL 20 "java/lang/IllegalStateException", .methodLink RL 22 yX3_join, .instanceMethod yX3_join, .selects RX3 yX3_join yX3_join, .initialized RX3, .code yX3_join cX3_join 4 (some .int), .classLink RX3 70 "java/lang/IllegalStateException", .initialized "java/lang/IllegalStateException", .fieldLink RX3 84 "RepairSender" "receiverCount" "I", .fieldLink RX3 16 "RepairSender" "losses" "[I", .fieldLink RX3 20 "RepairSender" "waits" "[I", .fieldLink RX3 23 "RepairSender" "packetSets" "[I", .fieldLink RX3 26 "RepairSender" "badCounts" "[I", .fieldLink RX3 29 "RepairSender" "dropped" "[Z", .methodLink RX3 78 yX3_demandLosses, .static yX3_demandLosses, .code yX3_demandLosses cX3_demandLosses 1 none, .classLink RX3 47 "java/lang/IllegalArgumentException", .initialized "java/lang/IllegalArgumentException", .methodLink RX3 81 yX3_demandWait, .static yX3_demandWait, .code yX3_demandWait cX3_demandWait 1 none] ++ wsX30 ++ (vx_atS RX3 74 "java/lang/IllegalStateException" ["java/lang/RuntimeException", "java/lang/Exception"]).filter goodWord ++ (vx_atS RX3 51 "java/lang/IllegalArgumentException" ["java/lang/RuntimeException", "java/lang/Exception"]).filter goodWord)
def wsL_setLosses : List Cond := .codeWith yL_setLosses cL_setLosses 5 (some .int) [(0, 10, 13, 18), (0, 10, 17, 13)] :: ([.classLink RL 18 "java/lang/IndexOutOfBoundsException", .classLink RL 13 "java/lang/IllegalArgumentException", .methodLink RL 25 yX3_setLosses, .instanceMethod yX3_setLosses, .selects RX3 yX3_setLosses yX3_setLosses, .initialized RX3, .code yX3_setLosses cX3_setLosses 4 (some .int), .fieldLink RX3 16 "RepairSender" "losses" "[I", .methodLink RX3 89 yX3_demandReceiver, .instanceMethod yX3_demandReceiver, .selects RX3 yX3_demandReceiver yX3_demandReceiver, .code yX3_demandReceiver cX3_demandReceiver 2 none, .classLink RX3 129 "java/lang/IndexOutOfBoundsException", .initialized "java/lang/IndexOutOfBoundsException", .fieldLink RX3 84 "RepairSender" "receiverCount" "I", .methodLink RX3 78 yX3_demandLosses, .static yX3_demandLosses, .code yX3_demandLosses cX3_demandLosses 1 none, .classLink RX3 47 "java/lang/IllegalArgumentException", .initialized "java/lang/IllegalArgumentException"] ++ wsX30 ++ (vx_atS RX3 133 "java/lang/IndexOutOfBoundsException" ["java/lang/RuntimeException", "java/lang/Exception"]).filter goodWord ++ (vx_atS RX3 51 "java/lang/IllegalArgumentException" ["java/lang/RuntimeException", "java/lang/Exception"]).filter goodWord)
def wsL_setWait : List Cond := .codeWith yL_setWait cL_setWait 5 (some .int) [(0, 10, 13, 18), (0, 10, 17, 13)] :: ([.classLink RL 18 "java/lang/IndexOutOfBoundsException", .classLink RL 13 "java/lang/IllegalArgumentException", .methodLink RL 28 yX3_setWait, .instanceMethod yX3_setWait, .selects RX3 yX3_setWait yX3_setWait, .initialized RX3, .code yX3_setWait cX3_setWait 4 (some .int), .fieldLink RX3 20 "RepairSender" "waits" "[I", .methodLink RX3 89 yX3_demandReceiver, .instanceMethod yX3_demandReceiver, .selects RX3 yX3_demandReceiver yX3_demandReceiver, .code yX3_demandReceiver cX3_demandReceiver 2 none, .classLink RX3 129 "java/lang/IndexOutOfBoundsException", .initialized "java/lang/IndexOutOfBoundsException", .fieldLink RX3 84 "RepairSender" "receiverCount" "I", .methodLink RX3 81 yX3_demandWait, .static yX3_demandWait, .code yX3_demandWait cX3_demandWait 1 none, .classLink RX3 47 "java/lang/IllegalArgumentException", .initialized "java/lang/IllegalArgumentException"] ++ wsX30 ++ (vx_atS RX3 133 "java/lang/IndexOutOfBoundsException" ["java/lang/RuntimeException", "java/lang/Exception"]).filter goodWord ++ (vx_atS RX3 51 "java/lang/IllegalArgumentException" ["java/lang/RuntimeException", "java/lang/Exception"]).filter goodWord)
def wsL_send_r1 : List Cond := [Cond.classLink RL 13 "java/lang/IllegalArgumentException", Cond.classLink RL 20 "java/lang/IllegalStateException", Cond.methodLink RL 31 yX3_send, Cond.instanceMethod yX3_send, Cond.selects RX3 yX3_send yX3_send, Cond.initialized RX3, Cond.code yX3_send cX3_send 2 (some .int), Cond.classLink RX3 47 "java/lang/IllegalArgumentException", Cond.initialized "java/lang/IllegalArgumentException", Cond.classLink RX3 70 "java/lang/IllegalStateException", Cond.initialized "java/lang/IllegalStateException", Cond.fieldLink RX3 56 "RepairSender" "sentCount" "I", Cond.methodLink RX3 96 yX3_sendPackets, Cond.instanceMethod yX3_sendPackets, Cond.selects RX3 yX3_sendPackets yX3_sendPackets, Cond.code yX3_sendPackets cX3_sendPackets 3 none, Cond.methodLink RX3 186 yX3_sendNextPacket, Cond.instanceMethod yX3_sendNextPacket, Cond.selects RX3 yX3_sendNextPacket yX3_sendNextPacket, Cond.code yX3_sendNextPacket cX3_sendNextPacket 4 none, Cond.fieldLink RX3 84 "RepairSender" "receiverCount" "I", Cond.fieldLink RX3 29 "RepairSender" "dropped" "[Z", Cond.fieldLink RX3 16 "RepairSender" "losses" "[I", Cond.fieldLink RX3 23 "RepairSender" "packetSets" "[I"]
def wsL_send_r2 : List Cond := [Cond.methodLink RX3 99 yX3_completeCount, Cond.instanceMethod yX3_completeCount, Cond.selects RX3 yX3_completeCount yX3_completeCount, Cond.code yX3_completeCount cX3_completeCount 3 (some .int), Cond.methodLink RX3 117 yX3_needOf, Cond.instanceMethod yX3_needOf, Cond.selects RX3 yX3_needOf yX3_needOf, Cond.code yX3_needOf cX3_needOf 2 (some .int), Cond.fieldLink RX3 10 "RepairSender" "block" "LRepairSender$Points;", Cond.methodLink RX3 181 Lib.Math.max.name, Cond.static Lib.Math.max.name, Cond.initialized "java/lang/Math", Cond.code Lib.Math.max.name Lib.Math.max.code 2 (some .int), Cond.methodLink RX3 176 yJ6_bitCount_0f7a4, Cond.static yJ6_bitCount_0f7a4, Cond.initialized RJ6, Cond.code yJ6_bitCount_0f7a4 cJ6_bitCount_0f7a4 1 (some .int), Cond.constant RJ6 265 (1431655765), Cond.constant RJ6 266 (858993459), Cond.constant RJ6 267 (252645135)]
def wsL_send : List Cond := .codeWith yL_send cL_send 4 (some .int) [(0, 9, 12, 13), (0, 9, 15, 20)] :: ((wsL_send_r1 ++ wsL_send_r2) ++ wsX30 ++ wsX20 ++ (vx_atS RX3 51 "java/lang/IllegalArgumentException" ["java/lang/RuntimeException", "java/lang/Exception"]).filter goodWord ++ (vx_atS RX3 74 "java/lang/IllegalStateException" ["java/lang/RuntimeException", "java/lang/Exception"]).filter goodWord)
def wsL_round_r1 : List Cond := [Cond.classLink RL 20 "java/lang/IllegalStateException", Cond.methodLink RL 35 yX3_round, Cond.instanceMethod yX3_round, Cond.selects RX3 yX3_round yX3_round, Cond.initialized RX3, Cond.code yX3_round cX3_round 2 (some .int), Cond.classLink RX3 70 "java/lang/IllegalStateException", Cond.initialized "java/lang/IllegalStateException", Cond.fieldLink RX3 56 "RepairSender" "sentCount" "I", Cond.methodLink RX3 105 yX3_hearReports, Cond.instanceMethod yX3_hearReports, Cond.selects RX3 yX3_hearReports yX3_hearReports, Cond.code yX3_hearReports cX3_hearReports 3 (some .int), Cond.methodLink RX3 189 yX3_hearReportsAt, Cond.instanceMethod yX3_hearReportsAt, Cond.selects RX3 yX3_hearReportsAt yX3_hearReportsAt, Cond.code yX3_hearReportsAt cX3_hearReportsAt 6 (some .int), Cond.fieldLink RX3 84 "RepairSender" "receiverCount" "I", Cond.fieldLink RX3 20 "RepairSender" "waits" "[I", Cond.fieldLink RX3 111 "RepairSender" "reportCount" "I", Cond.methodLink RX3 181 Lib.Math.max.name, Cond.static Lib.Math.max.name, Cond.initialized "java/lang/Math", Cond.code Lib.Math.max.name Lib.Math.max.code 2 (some .int)]
def wsL_round_r2 : List Cond := [Cond.fieldLink RX3 114 "RepairSender" "keptBackCount" "I", Cond.methodLink RX3 192 yX3_isLiveAndLacks, Cond.instanceMethod yX3_isLiveAndLacks, Cond.selects RX3 yX3_isLiveAndLacks yX3_isLiveAndLacks, Cond.code yX3_isLiveAndLacks cX3_isLiveAndLacks 2 (some .boolean), Cond.fieldLink RX3 29 "RepairSender" "dropped" "[Z", Cond.methodLink RX3 117 yX3_needOf, Cond.instanceMethod yX3_needOf, Cond.selects RX3 yX3_needOf yX3_needOf, Cond.code yX3_needOf cX3_needOf 2 (some .int), Cond.fieldLink RX3 10 "RepairSender" "block" "LRepairSender$Points;", Cond.fieldLink RX3 23 "RepairSender" "packetSets" "[I", Cond.methodLink RX3 176 yJ6_bitCount_0f7a4, Cond.static yJ6_bitCount_0f7a4, Cond.initialized RJ6, Cond.code yJ6_bitCount_0f7a4 cJ6_bitCount_0f7a4 1 (some .int), Cond.constant RJ6 265 (1431655765), Cond.constant RJ6 266 (858993459), Cond.constant RJ6 267 (252645135), Cond.methodLink RX3 96 yX3_sendPackets, Cond.instanceMethod yX3_sendPackets, Cond.selects RX3 yX3_sendPackets yX3_sendPackets, Cond.code yX3_sendPackets cX3_sendPackets 3 none, Cond.methodLink RX3 186 yX3_sendNextPacket]
def wsL_round_r3 : List Cond := [Cond.instanceMethod yX3_sendNextPacket, Cond.selects RX3 yX3_sendNextPacket yX3_sendNextPacket, Cond.code yX3_sendNextPacket cX3_sendNextPacket 4 none, Cond.fieldLink RX3 16 "RepairSender" "losses" "[I", Cond.methodLink RX3 108 yX3_countBadRounds, Cond.instanceMethod yX3_countBadRounds, Cond.selects RX3 yX3_countBadRounds yX3_countBadRounds, Cond.code yX3_countBadRounds cX3_countBadRounds 2 none, Cond.fieldLink RX3 26 "RepairSender" "badCounts" "[I", Cond.fieldLink RX3 173 "RepairSender" "patience" "I"]
def wsL_round : List Cond := .codeWith yL_round cL_round 3 (some .int) [(0, 8, 11, 20)] :: ((wsL_round_r1 ++ (wsL_round_r2 ++ wsL_round_r3)) ++ wsX30 ++ wsX20 ++ (vx_atS RX3 74 "java/lang/IllegalStateException" ["java/lang/RuntimeException", "java/lang/Exception"]).filter goodWord)
def wsL_has : List Cond := .codeWith yL_has cL_has 4 (some .int) [(0, 9, 12, 18)] :: ([.classLink RL 18 "java/lang/IndexOutOfBoundsException", .methodLink RL 39 yX3_has, .instanceMethod yX3_has, .selects RX3 yX3_has yX3_has, .initialized RX3, .code yX3_has cX3_has 2 (some .int), .fieldLink RX3 23 "RepairSender" "packetSets" "[I", .methodLink RX3 89 yX3_demandReceiver, .instanceMethod yX3_demandReceiver, .selects RX3 yX3_demandReceiver yX3_demandReceiver, .code yX3_demandReceiver cX3_demandReceiver 2 none, .classLink RX3 129 "java/lang/IndexOutOfBoundsException", .initialized "java/lang/IndexOutOfBoundsException", .fieldLink RX3 84 "RepairSender" "receiverCount" "I"] ++ wsX30 ++ (vx_atS RX3 133 "java/lang/IndexOutOfBoundsException" ["java/lang/RuntimeException", "java/lang/Exception"]).filter goodWord)
def wsL_need_r1 : List Cond := [Cond.classLink RL 18 "java/lang/IndexOutOfBoundsException", Cond.methodLink RL 42 yX3_need, Cond.instanceMethod yX3_need, Cond.selects RX3 yX3_need yX3_need, Cond.initialized RX3, Cond.code yX3_need cX3_need 2 (some .int), Cond.methodLink RX3 89 yX3_demandReceiver, Cond.instanceMethod yX3_demandReceiver, Cond.selects RX3 yX3_demandReceiver yX3_demandReceiver, Cond.code yX3_demandReceiver cX3_demandReceiver 2 none, Cond.classLink RX3 129 "java/lang/IndexOutOfBoundsException", Cond.initialized "java/lang/IndexOutOfBoundsException", Cond.fieldLink RX3 84 "RepairSender" "receiverCount" "I", Cond.methodLink RX3 117 yX3_needOf, Cond.instanceMethod yX3_needOf, Cond.selects RX3 yX3_needOf yX3_needOf, Cond.code yX3_needOf cX3_needOf 2 (some .int), Cond.fieldLink RX3 10 "RepairSender" "block" "LRepairSender$Points;", Cond.fieldLink RX3 23 "RepairSender" "packetSets" "[I", Cond.methodLink RX3 181 Lib.Math.max.name, Cond.static Lib.Math.max.name, Cond.initialized "java/lang/Math", Cond.code Lib.Math.max.name Lib.Math.max.code 2 (some .int), Cond.methodLink RX3 176 yJ6_bitCount_0f7a4]
def wsL_need_r2 : List Cond := [Cond.static yJ6_bitCount_0f7a4, Cond.initialized RJ6, Cond.code yJ6_bitCount_0f7a4 cJ6_bitCount_0f7a4 1 (some .int), Cond.constant RJ6 265 (1431655765), Cond.constant RJ6 266 (858993459), Cond.constant RJ6 267 (252645135)]
def wsL_need : List Cond := .codeWith yL_need cL_need 4 (some .int) [(0, 9, 12, 18)] :: ((wsL_need_r1 ++ wsL_need_r2) ++ wsX30 ++ wsX20 ++ (vx_atS RX3 133 "java/lang/IndexOutOfBoundsException" ["java/lang/RuntimeException", "java/lang/Exception"]).filter goodWord)
def wsL_isDropped : List Cond := .codeWith yL_isDropped cL_isDropped 4 (some .int) [(0, 16, 19, 18)] :: ([.classLink RL 18 "java/lang/IndexOutOfBoundsException", .methodLink RL 45 yX3_isDropped, .instanceMethod yX3_isDropped, .selects RX3 yX3_isDropped yX3_isDropped, .initialized RX3, .code yX3_isDropped cX3_isDropped 2 (some .boolean), .fieldLink RX3 29 "RepairSender" "dropped" "[Z", .methodLink RX3 89 yX3_demandReceiver, .instanceMethod yX3_demandReceiver, .selects RX3 yX3_demandReceiver yX3_demandReceiver, .code yX3_demandReceiver cX3_demandReceiver 2 none, .classLink RX3 129 "java/lang/IndexOutOfBoundsException", .initialized "java/lang/IndexOutOfBoundsException", .fieldLink RX3 84 "RepairSender" "receiverCount" "I"] ++ wsX30 ++ (vx_atS RX3 133 "java/lang/IndexOutOfBoundsException" ["java/lang/RuntimeException", "java/lang/Exception"]).filter goodWord)
def wsL_badRounds : List Cond := .codeWith yL_badRounds cL_badRounds 4 (some .int) [(0, 9, 12, 18)] :: ([.classLink RL 18 "java/lang/IndexOutOfBoundsException", .methodLink RL 49 yX3_badRounds, .instanceMethod yX3_badRounds, .selects RX3 yX3_badRounds yX3_badRounds, .initialized RX3, .code yX3_badRounds cX3_badRounds 2 (some .int), .fieldLink RX3 26 "RepairSender" "badCounts" "[I", .methodLink RX3 89 yX3_demandReceiver, .instanceMethod yX3_demandReceiver, .selects RX3 yX3_demandReceiver yX3_demandReceiver, .code yX3_demandReceiver cX3_demandReceiver 2 none, .classLink RX3 129 "java/lang/IndexOutOfBoundsException", .initialized "java/lang/IndexOutOfBoundsException", .fieldLink RX3 84 "RepairSender" "receiverCount" "I"] ++ wsX30 ++ (vx_atS RX3 133 "java/lang/IndexOutOfBoundsException" ["java/lang/RuntimeException", "java/lang/Exception"]).filter goodWord)
def wsL_times : List Cond := .codeWith yL_times cL_times 5 (some .int) [(0, 10, 13, 13)] :: ([.classLink RL 13 "java/lang/IllegalArgumentException", .methodLink RL 52 yX3_times, .instanceMethod yX3_times, .selects RX3 yX3_times yX3_times, .initialized RX3, .code yX3_times cX3_times 3 (some .int), .classLink RX3 47 "java/lang/IllegalArgumentException", .initialized "java/lang/IllegalArgumentException", .methodLink RX3 64 yX3_isFieldNumber, .static yX3_isFieldNumber, .code yX3_isFieldNumber cX3_isFieldNumber 1 (some .boolean), .static yX1_product, .initialized RX1, .code yX1_product cX1_product 5 (some .int)] ++ (vx_atS RX3 51 "java/lang/IllegalArgumentException" ["java/lang/RuntimeException", "java/lang/Exception"]).filter goodWord)
def wsL_packet_r1 : List Cond := [Cond.classLink RL 18 "java/lang/IndexOutOfBoundsException", Cond.methodLink RL 55 yX3_packet, Cond.instanceMethod yX3_packet, Cond.selects RX3 yX3_packet yX3_packet, Cond.initialized RX3, Cond.code yX3_packet cX3_packet 2 (some .int), Cond.classLink RX3 129 "java/lang/IndexOutOfBoundsException", Cond.initialized "java/lang/IndexOutOfBoundsException", Cond.fieldLink RX3 10 "RepairSender" "block" "LRepairSender$Points;", Cond.instanceMethod yX2_polynomialAt, Cond.initialized RX2, Cond.selects RX2 yX2_polynomialAt yX2_polynomialAt, Cond.code yX2_polynomialAt cX2_polynomialAt 4 (some .int), Cond.fieldLink RX2 18 "RepairSender$Points" "count" "I", Cond.fieldLink RX2 15 "RepairSender$Points" "values" "[I", Cond.methodLink RX2 22 yX2_weight, Cond.instanceMethod yX2_weight, Cond.selects RX2 yX2_weight yX2_weight, Cond.code yX2_weight cX2_weight 6 (some .int), Cond.fieldLink RX2 9 "RepairSender$Points" "places" "[I", Cond.static yX1_product, Cond.initialized RX1, Cond.code yX1_product cX1_product 5 (some .int), Cond.static yX1_inverse]
def wsL_packet_r2 : List Cond := [Cond.code yX1_inverse cX1_inverse 4 (some .int), Cond.methodLink RX1 11 yX1_product]
def wsL_packet : List Cond := .codeWith yL_packet cL_packet 4 (some .int) [(0, 9, 12, 18)] :: ((wsL_packet_r1 ++ wsL_packet_r2) ++ wsX30 ++ wsX20 ++ (vx_atS RX3 133 "java/lang/IndexOutOfBoundsException" ["java/lang/RuntimeException", "java/lang/Exception"]).filter goodWord)
def wsL_rebuilt_r1 : List Cond := [Cond.classLink RL 18 "java/lang/IndexOutOfBoundsException", Cond.classLink RL 20 "java/lang/IllegalStateException", Cond.methodLink RL 58 yX3_rebuilt, Cond.instanceMethod yX3_rebuilt, Cond.selects RX3 yX3_rebuilt yX3_rebuilt, Cond.initialized RX3, Cond.code yX3_rebuilt cX3_rebuilt 3 (some .int), Cond.fieldLink RX3 23 "RepairSender" "packetSets" "[I", Cond.fieldLink RX3 33 "RepairSender" "chosen" "LRepairSender$Points;", Cond.methodLink RX3 137 yX3_demandRebuilding, Cond.instanceMethod yX3_demandRebuilding, Cond.selects RX3 yX3_demandRebuilding yX3_demandRebuilding, Cond.code yX3_demandRebuilding cX3_demandRebuilding 3 none, Cond.classLink RX3 70 "java/lang/IllegalStateException", Cond.initialized "java/lang/IllegalStateException", Cond.methodLink RX3 89 yX3_demandReceiver, Cond.instanceMethod yX3_demandReceiver, Cond.selects RX3 yX3_demandReceiver yX3_demandReceiver, Cond.code yX3_demandReceiver cX3_demandReceiver 2 none, Cond.classLink RX3 129 "java/lang/IndexOutOfBoundsException", Cond.initialized "java/lang/IndexOutOfBoundsException", Cond.fieldLink RX3 84 "RepairSender" "receiverCount" "I", Cond.methodLink RX3 60 yX3_demandPlace, Cond.instanceMethod yX3_demandPlace]
def wsL_rebuilt_r2 : List Cond := [Cond.selects RX3 yX3_demandPlace yX3_demandPlace, Cond.code yX3_demandPlace cX3_demandPlace 2 none, Cond.fieldLink RX3 10 "RepairSender" "block" "LRepairSender$Points;", Cond.methodLink RX3 117 yX3_needOf, Cond.instanceMethod yX3_needOf, Cond.selects RX3 yX3_needOf yX3_needOf, Cond.code yX3_needOf cX3_needOf 2 (some .int), Cond.methodLink RX3 181 Lib.Math.max.name, Cond.static Lib.Math.max.name, Cond.initialized "java/lang/Math", Cond.code Lib.Math.max.name Lib.Math.max.code 2 (some .int), Cond.methodLink RX3 176 yJ6_bitCount_0f7a4, Cond.static yJ6_bitCount_0f7a4, Cond.initialized RJ6, Cond.code yJ6_bitCount_0f7a4 cJ6_bitCount_0f7a4 1 (some .int), Cond.constant RJ6 265 (1431655765), Cond.constant RJ6 266 (858993459), Cond.constant RJ6 267 (252645135), Cond.methodLink RX3 140 yX3_chooseLowest, Cond.instanceMethod yX3_chooseLowest, Cond.selects RX3 yX3_chooseLowest yX3_chooseLowest, Cond.code yX3_chooseLowest cX3_chooseLowest 3 none, Cond.instanceMethod yX2_clear, Cond.initialized RX2]
def wsL_rebuilt_r3 : List Cond := [Cond.selects RX2 yX2_clear yX2_clear, Cond.code yX2_clear cX2_clear 1 none, Cond.fieldLink RX2 18 "RepairSender$Points" "count" "I", Cond.methodLink RX3 195 yX3_chooseIfWanted, Cond.instanceMethod yX3_chooseIfWanted, Cond.selects RX3 yX3_chooseIfWanted yX3_chooseIfWanted, Cond.code yX3_chooseIfWanted cX3_chooseIfWanted 4 none, Cond.instanceMethod yX2_polynomialAt, Cond.selects RX2 yX2_polynomialAt yX2_polynomialAt, Cond.code yX2_polynomialAt cX2_polynomialAt 4 (some .int), Cond.fieldLink RX2 15 "RepairSender$Points" "values" "[I", Cond.methodLink RX2 22 yX2_weight, Cond.instanceMethod yX2_weight, Cond.selects RX2 yX2_weight yX2_weight, Cond.code yX2_weight cX2_weight 6 (some .int), Cond.fieldLink RX2 9 "RepairSender$Points" "places" "[I", Cond.static yX1_product, Cond.initialized RX1, Cond.code yX1_product cX1_product 5 (some .int), Cond.static yX1_inverse, Cond.code yX1_inverse cX1_inverse 4 (some .int), Cond.methodLink RX1 11 yX1_product, Cond.instanceMethod yX2_add, Cond.selects RX2 yX2_add yX2_add]
def wsL_rebuilt_r4 : List Cond := [Cond.code yX2_add cX2_add 3 none]
def wsL_rebuilt : List Cond := .codeWith yL_rebuilt cL_rebuilt 5 (some .int) [(0, 10, 13, 18), (0, 10, 17, 20)] :: ((wsL_rebuilt_r1 ++ (wsL_rebuilt_r2 ++ (wsL_rebuilt_r3 ++ wsL_rebuilt_r4))) ++ wsX30 ++ wsX20 ++ (vx_atS RX3 74 "java/lang/IllegalStateException" ["java/lang/RuntimeException", "java/lang/Exception"]).filter goodWord ++ (vx_atS RX3 133 "java/lang/IndexOutOfBoundsException" ["java/lang/RuntimeException", "java/lang/Exception"]).filter goodWord)
def wsL_rebuiltByElimination_r1 : List Cond := [Cond.classLink RL 18 "java/lang/IndexOutOfBoundsException", Cond.classLink RL 20 "java/lang/IllegalStateException", Cond.methodLink RL 61 yX3_rebuiltByElimination, Cond.instanceMethod yX3_rebuiltByElimination, Cond.selects RX3 yX3_rebuiltByElimination yX3_rebuiltByElimination, Cond.initialized RX3, Cond.code yX3_rebuiltByElimination cX3_rebuiltByElimination 3 (some .int), Cond.fieldLink RX3 23 "RepairSender" "packetSets" "[I", Cond.fieldLink RX3 39 "RepairSender" "equations" "LRepairSender$Equations;", Cond.fieldLink RX3 33 "RepairSender" "chosen" "LRepairSender$Points;", Cond.methodLink RX3 137 yX3_demandRebuilding, Cond.instanceMethod yX3_demandRebuilding, Cond.selects RX3 yX3_demandRebuilding yX3_demandRebuilding, Cond.code yX3_demandRebuilding cX3_demandRebuilding 3 none, Cond.classLink RX3 70 "java/lang/IllegalStateException", Cond.initialized "java/lang/IllegalStateException", Cond.methodLink RX3 89 yX3_demandReceiver, Cond.instanceMethod yX3_demandReceiver, Cond.selects RX3 yX3_demandReceiver yX3_demandReceiver, Cond.code yX3_demandReceiver cX3_demandReceiver 2 none, Cond.classLink RX3 129 "java/lang/IndexOutOfBoundsException", Cond.initialized "java/lang/IndexOutOfBoundsException", Cond.fieldLink RX3 84 "RepairSender" "receiverCount" "I", Cond.methodLink RX3 60 yX3_demandPlace]
def wsL_rebuiltByElimination_r2 : List Cond := [Cond.instanceMethod yX3_demandPlace, Cond.selects RX3 yX3_demandPlace yX3_demandPlace, Cond.code yX3_demandPlace cX3_demandPlace 2 none, Cond.fieldLink RX3 10 "RepairSender" "block" "LRepairSender$Points;", Cond.methodLink RX3 117 yX3_needOf, Cond.instanceMethod yX3_needOf, Cond.selects RX3 yX3_needOf yX3_needOf, Cond.code yX3_needOf cX3_needOf 2 (some .int), Cond.methodLink RX3 181 Lib.Math.max.name, Cond.static Lib.Math.max.name, Cond.initialized "java/lang/Math", Cond.code Lib.Math.max.name Lib.Math.max.code 2 (some .int), Cond.methodLink RX3 176 yJ6_bitCount_0f7a4, Cond.static yJ6_bitCount_0f7a4, Cond.initialized RJ6, Cond.code yJ6_bitCount_0f7a4 cJ6_bitCount_0f7a4 1 (some .int), Cond.constant RJ6 265 (1431655765), Cond.constant RJ6 266 (858993459), Cond.constant RJ6 267 (252645135), Cond.methodLink RX3 143 yX3_chooseHighest, Cond.instanceMethod yX3_chooseHighest, Cond.selects RX3 yX3_chooseHighest yX3_chooseHighest, Cond.code yX3_chooseHighest cX3_chooseHighest 3 none, Cond.instanceMethod yX2_clear]
def wsL_rebuiltByElimination_r3 : List Cond := [Cond.initialized RX2, Cond.selects RX2 yX2_clear yX2_clear, Cond.code yX2_clear cX2_clear 1 none, Cond.fieldLink RX2 18 "RepairSender$Points" "count" "I", Cond.methodLink RX3 195 yX3_chooseIfWanted, Cond.instanceMethod yX3_chooseIfWanted, Cond.selects RX3 yX3_chooseIfWanted yX3_chooseIfWanted, Cond.code yX3_chooseIfWanted cX3_chooseIfWanted 4 none, Cond.instanceMethod yX2_polynomialAt, Cond.selects RX2 yX2_polynomialAt yX2_polynomialAt, Cond.code yX2_polynomialAt cX2_polynomialAt 4 (some .int), Cond.fieldLink RX2 15 "RepairSender$Points" "values" "[I", Cond.methodLink RX2 22 yX2_weight, Cond.instanceMethod yX2_weight, Cond.selects RX2 yX2_weight yX2_weight, Cond.code yX2_weight cX2_weight 6 (some .int), Cond.fieldLink RX2 9 "RepairSender$Points" "places" "[I", Cond.static yX1_product, Cond.initialized RX1, Cond.code yX1_product cX1_product 5 (some .int), Cond.static yX1_inverse, Cond.code yX1_inverse cX1_inverse 4 (some .int), Cond.methodLink RX1 11 yX1_product, Cond.instanceMethod yX2_add]
def wsL_rebuiltByElimination_r4 : List Cond := [Cond.selects RX2 yX2_add yX2_add, Cond.code yX2_add cX2_add 3 none, Cond.instanceMethod yX0_write, Cond.initialized RX0, Cond.selects RX0 yX0_write yX0_write, Cond.code yX0_write cX0_write 5 none, Cond.fieldLink RX0 22 "RepairSender$Equations" "count" "I", Cond.fieldLink RX0 11 "RepairSender$Equations" "cells" "[[I", Cond.instanceMethod yX0_solve, Cond.selects RX0 yX0_solve yX0_solve, Cond.code yX0_solve cX0_solve 3 none, Cond.methodLink RX0 40 yX0_scaleRow, Cond.instanceMethod yX0_scaleRow, Cond.selects RX0 yX0_scaleRow yX0_scaleRow, Cond.code yX0_scaleRow cX0_scaleRow 4 none, Cond.methodLink RX0 44 yX0_addMultiple, Cond.instanceMethod yX0_addMultiple, Cond.selects RX0 yX0_addMultiple yX0_addMultiple, Cond.code yX0_addMultiple cX0_addMultiple 5 none, Cond.instanceMethod yX0_polynomialAt, Cond.selects RX0 yX0_polynomialAt yX0_polynomialAt, Cond.code yX0_polynomialAt cX0_polynomialAt 4 (some .int)]
def wsL_rebuiltByElimination : List Cond := .codeWith yL_rebuiltByElimination cL_rebuiltByElimination 5 (some .int) [(0, 10, 13, 18), (0, 10, 17, 20)] :: ((wsL_rebuiltByElimination_r1 ++ (wsL_rebuiltByElimination_r2 ++ (wsL_rebuiltByElimination_r3 ++ wsL_rebuiltByElimination_r4))) ++ wsX30 ++ wsX20 ++ wsX00 ++ (vx_atS RX3 74 "java/lang/IllegalStateException" ["java/lang/RuntimeException", "java/lang/Exception"]).filter goodWord ++ (vx_atS RX3 133 "java/lang/IndexOutOfBoundsException" ["java/lang/RuntimeException", "java/lang/Exception"]).filter goodWord)
abbrev vwCl : List vw_C := [(RX0, TX0, 2), (RX2, TX2, 3), (RX3, TX3, 13), (RX4, TX4, 14)]
end
section
theorem dX0_init_0 : decode cX0_init 0 = .ok (.aload_n 0, 1) := by decide +kernel
theorem dX0_init_1 : decode cX0_init 1 = .ok (.invokespecial 3, 3) := by decide +kernel
theorem dX0_init_4 : decode cX0_init 4 = .ok (.aload_n 0, 1) := by decide +kernel
theorem dX0_init_5 : decode cX0_init 5 = .ok (.bipush 8, 2) := by decide +kernel
theorem dX0_init_7 : decode cX0_init 7 = .ok (.bipush 9, 2) := by decide +kernel
theorem dX0_init_9 : decode cX0_init 9 = .ok (.multianewarray 9 2, 4) := by decide +kernel
theorem dX0_init_13 : decode cX0_init 13 = .ok (.putfield 11, 3) := by decide +kernel
theorem dX0_init_16 : decode cX0_init 16 = .ok (.return_, 1) := by decide +kernel
set_option maxRecDepth 20000 in
theorem ggX0_write_X1_product : GoodIn wsX0_write wsX1_product := goodIn_r _ [5] (by decide +kernel) (by decide +kernel)
set_option maxRecDepth 20000 in
theorem gX0_write_X1_product_n27 : GoodIn wsX0_write (wsX1_product) := ggX0_write_X1_product
theorem dX0_write_0 : decode cX0_write 0 = .ok (.aload_n 0, 1) := by decide +kernel
theorem dX0_write_1 : decode cX0_write 1 = .ok (.aload_n 1, 1) := by decide +kernel
theorem dX0_write_2 : decode cX0_write 2 = .ok (.getfield 16, 3) := by decide +kernel
theorem dX0_write_5 : decode cX0_write 5 = .ok (.putfield 22, 3) := by decide +kernel
theorem dX0_write_8 : decode cX0_write 8 = .ok (.iconst 0, 1) := by decide +kernel
theorem dX0_write_9 : decode cX0_write 9 = .ok (.istore_n 2, 1) := by decide +kernel
theorem dX0_write_10 : decode cX0_write 10 = .ok (.iload_n 2, 1) := by decide +kernel
theorem dX0_write_11 : decode cX0_write 11 = .ok (.aload_n 0, 1) := by decide +kernel
theorem dX0_write_12 : decode cX0_write 12 = .ok (.getfield 22, 3) := by decide +kernel
theorem dX0_write_15 : decode cX0_write 15 = .ok (.if_icmp .ge 67, 3) := by decide +kernel
theorem dX0_write_18 : decode cX0_write 18 = .ok (.iconst 1, 1) := by decide +kernel
theorem dX0_write_19 : decode cX0_write 19 = .ok (.istore_n 3, 1) := by decide +kernel
theorem dX0_write_20 : decode cX0_write 20 = .ok (.iconst 0, 1) := by decide +kernel
theorem dX0_write_21 : decode cX0_write 21 = .ok (.istore 4, 2) := by decide +kernel
theorem dX0_write_23 : decode cX0_write 23 = .ok (.iload 4, 2) := by decide +kernel
theorem dX0_write_25 : decode cX0_write 25 = .ok (.aload_n 0, 1) := by decide +kernel
theorem dX0_write_26 : decode cX0_write 26 = .ok (.getfield 22, 3) := by decide +kernel
theorem dX0_write_29 : decode cX0_write 29 = .ok (.if_icmp .ge 30, 3) := by decide +kernel
theorem dX0_write_32 : decode cX0_write 32 = .ok (.aload_n 0, 1) := by decide +kernel
theorem dX0_write_33 : decode cX0_write 33 = .ok (.getfield 11, 3) := by decide +kernel
theorem dX0_write_36 : decode cX0_write 36 = .ok (.iload_n 2, 1) := by decide +kernel
theorem dX0_write_37 : decode cX0_write 37 = .ok (.aaload, 1) := by decide +kernel
theorem dX0_write_38 : decode cX0_write 38 = .ok (.iload 4, 2) := by decide +kernel
theorem dX0_write_40 : decode cX0_write 40 = .ok (.iload_n 3, 1) := by decide +kernel
theorem dX0_write_41 : decode cX0_write 41 = .ok (.iastore, 1) := by decide +kernel
theorem dX0_write_42 : decode cX0_write 42 = .ok (.iload_n 3, 1) := by decide +kernel
theorem dX0_write_43 : decode cX0_write 43 = .ok (.aload_n 1, 1) := by decide +kernel
theorem dX0_write_44 : decode cX0_write 44 = .ok (.getfield 23, 3) := by decide +kernel
theorem dX0_write_47 : decode cX0_write 47 = .ok (.iload_n 2, 1) := by decide +kernel
theorem dX0_write_48 : decode cX0_write 48 = .ok (.iaload, 1) := by decide +kernel
theorem dX0_write_49 : decode cX0_write 49 = .ok (.invokestatic 27, 3) := by decide +kernel
theorem dX0_write_52 : decode cX0_write 52 = .ok (.istore_n 3, 1) := by decide +kernel
theorem dX0_write_53 : decode cX0_write 53 = .ok (.iinc 4 1, 3) := by decide +kernel
theorem dX0_write_56 : decode cX0_write 56 = .ok (.goto (-33), 3) := by decide +kernel
theorem dX0_write_59 : decode cX0_write 59 = .ok (.aload_n 0, 1) := by decide +kernel
theorem dX0_write_60 : decode cX0_write 60 = .ok (.getfield 11, 3) := by decide +kernel
theorem dX0_write_63 : decode cX0_write 63 = .ok (.iload_n 2, 1) := by decide +kernel
theorem dX0_write_64 : decode cX0_write 64 = .ok (.aaload, 1) := by decide +kernel
theorem dX0_write_65 : decode cX0_write 65 = .ok (.aload_n 0, 1) := by decide +kernel
theorem dX0_write_66 : decode cX0_write 66 = .ok (.getfield 22, 3) := by decide +kernel
theorem dX0_write_69 : decode cX0_write 69 = .ok (.aload_n 1, 1) := by decide +kernel
theorem dX0_write_70 : decode cX0_write 70 = .ok (.getfield 33, 3) := by decide +kernel
theorem dX0_write_73 : decode cX0_write 73 = .ok (.iload_n 2, 1) := by decide +kernel
theorem dX0_write_74 : decode cX0_write 74 = .ok (.iaload, 1) := by decide +kernel
theorem dX0_write_75 : decode cX0_write 75 = .ok (.iastore, 1) := by decide +kernel
theorem dX0_write_76 : decode cX0_write 76 = .ok (.iinc 2 1, 3) := by decide +kernel
theorem dX0_write_79 : decode cX0_write 79 = .ok (.goto (-69), 3) := by decide +kernel
theorem dX0_write_82 : decode cX0_write 82 = .ok (.return_, 1) := by decide +kernel
set_option maxRecDepth 20000 in
theorem ggX0_solve_X1_inverse : GoodIn wsX0_solve wsX1_inverse := goodIn_r _ [5, 6, 7, 4, 8] (by decide +kernel) (by decide +kernel)
set_option maxRecDepth 20000 in
theorem gX0_solve_X1_inverse_n36 : GoodIn wsX0_solve (wsX1_inverse) := ggX0_solve_X1_inverse
set_option maxRecDepth 20000 in
theorem ggX0_solve_X0_scaleRow : GoodIn wsX0_solve wsX0_scaleRow := goodIn_r _ [13, 1, 2, 7, 4, 8, 18, 19] (by decide +kernel) (by decide +kernel)
set_option maxRecDepth 20000 in
theorem gX0_solve_X0_scaleRow : GoodIn wsX0_solve (wsV RX0 40 RX0 yX0_scaleRow wsX0_scaleRow) := goodIn_app (goodIn_of _ (by decide +kernel)) ggX0_solve_X0_scaleRow
set_option maxRecDepth 20000 in
theorem ggX0_solve_X0_addMultiple : GoodIn wsX0_solve wsX0_addMultiple := goodIn_r _ [17, 1, 2, 7, 4, 8, 18, 19] (by decide +kernel) (by decide +kernel)
set_option maxRecDepth 20000 in
theorem gX0_solve_X0_addMultiple : GoodIn wsX0_solve (wsV RX0 44 RX0 yX0_addMultiple wsX0_addMultiple) := goodIn_app (goodIn_of _ (by decide +kernel)) ggX0_solve_X0_addMultiple
theorem dX0_solve_0 : decode cX0_solve 0 = .ok (.iconst 0, 1) := by decide +kernel
theorem dX0_solve_1 : decode cX0_solve 1 = .ok (.istore_n 1, 1) := by decide +kernel
theorem dX0_solve_2 : decode cX0_solve 2 = .ok (.iload_n 1, 1) := by decide +kernel
theorem dX0_solve_3 : decode cX0_solve 3 = .ok (.aload_n 0, 1) := by decide +kernel
theorem dX0_solve_4 : decode cX0_solve 4 = .ok (.getfield 22, 3) := by decide +kernel
theorem dX0_solve_7 : decode cX0_solve 7 = .ok (.if_icmp .ge 60, 3) := by decide +kernel
theorem dX0_solve_10 : decode cX0_solve 10 = .ok (.aload_n 0, 1) := by decide +kernel
theorem dX0_solve_11 : decode cX0_solve 11 = .ok (.iload_n 1, 1) := by decide +kernel
theorem dX0_solve_12 : decode cX0_solve 12 = .ok (.aload_n 0, 1) := by decide +kernel
theorem dX0_solve_13 : decode cX0_solve 13 = .ok (.getfield 11, 3) := by decide +kernel
theorem dX0_solve_16 : decode cX0_solve 16 = .ok (.iload_n 1, 1) := by decide +kernel
theorem dX0_solve_17 : decode cX0_solve 17 = .ok (.aaload, 1) := by decide +kernel
theorem dX0_solve_18 : decode cX0_solve 18 = .ok (.iload_n 1, 1) := by decide +kernel
theorem dX0_solve_19 : decode cX0_solve 19 = .ok (.iaload, 1) := by decide +kernel
theorem dX0_solve_20 : decode cX0_solve 20 = .ok (.invokestatic 36, 3) := by decide +kernel
theorem dX0_solve_23 : decode cX0_solve 23 = .ok (.invokevirtual 40, 3) := by decide +kernel
theorem dX0_solve_26 : decode cX0_solve 26 = .ok (.iconst 0, 1) := by decide +kernel
theorem dX0_solve_27 : decode cX0_solve 27 = .ok (.istore_n 2, 1) := by decide +kernel
theorem dX0_solve_28 : decode cX0_solve 28 = .ok (.iload_n 2, 1) := by decide +kernel
theorem dX0_solve_29 : decode cX0_solve 29 = .ok (.aload_n 0, 1) := by decide +kernel
theorem dX0_solve_30 : decode cX0_solve 30 = .ok (.getfield 22, 3) := by decide +kernel
theorem dX0_solve_33 : decode cX0_solve 33 = .ok (.if_icmp .ge 28, 3) := by decide +kernel
theorem dX0_solve_36 : decode cX0_solve 36 = .ok (.iload_n 2, 1) := by decide +kernel
theorem dX0_solve_37 : decode cX0_solve 37 = .ok (.iload_n 1, 1) := by decide +kernel
theorem dX0_solve_38 : decode cX0_solve 38 = .ok (.if_icmp .eq 17, 3) := by decide +kernel
theorem dX0_solve_41 : decode cX0_solve 41 = .ok (.aload_n 0, 1) := by decide +kernel
theorem dX0_solve_42 : decode cX0_solve 42 = .ok (.iload_n 2, 1) := by decide +kernel
theorem dX0_solve_43 : decode cX0_solve 43 = .ok (.iload_n 1, 1) := by decide +kernel
theorem dX0_solve_44 : decode cX0_solve 44 = .ok (.aload_n 0, 1) := by decide +kernel
theorem dX0_solve_45 : decode cX0_solve 45 = .ok (.getfield 11, 3) := by decide +kernel
theorem dX0_solve_48 : decode cX0_solve 48 = .ok (.iload_n 2, 1) := by decide +kernel
theorem dX0_solve_49 : decode cX0_solve 49 = .ok (.aaload, 1) := by decide +kernel
theorem dX0_solve_50 : decode cX0_solve 50 = .ok (.iload_n 1, 1) := by decide +kernel
theorem dX0_solve_51 : decode cX0_solve 51 = .ok (.iaload, 1) := by decide +kernel
theorem dX0_solve_52 : decode cX0_solve 52 = .ok (.invokevirtual 44, 3) := by decide +kernel
theorem dX0_solve_55 : decode cX0_solve 55 = .ok (.iinc 2 1, 3) := by decide +kernel
theorem dX0_solve_58 : decode cX0_solve 58 = .ok (.goto (-30), 3) := by decide +kernel
theorem dX0_solve_61 : decode cX0_solve 61 = .ok (.iinc 1 1, 3) := by decide +kernel
theorem dX0_solve_64 : decode cX0_solve 64 = .ok (.goto (-62), 3) := by decide +kernel
theorem dX0_solve_67 : decode cX0_solve 67 = .ok (.return_, 1) := by decide +kernel
set_option maxRecDepth 20000 in
theorem ggX0_scaleRow_X1_product : GoodIn wsX0_scaleRow wsX1_product := goodIn_r _ [5] (by decide +kernel) (by decide +kernel)
set_option maxRecDepth 20000 in
theorem gX0_scaleRow_X1_product_n27 : GoodIn wsX0_scaleRow (wsX1_product) := ggX0_scaleRow_X1_product
theorem dX0_scaleRow_0 : decode cX0_scaleRow 0 = .ok (.iconst 0, 1) := by decide +kernel
theorem dX0_scaleRow_1 : decode cX0_scaleRow 1 = .ok (.istore_n 3, 1) := by decide +kernel
theorem dX0_scaleRow_2 : decode cX0_scaleRow 2 = .ok (.iload_n 3, 1) := by decide +kernel
theorem dX0_scaleRow_3 : decode cX0_scaleRow 3 = .ok (.aload_n 0, 1) := by decide +kernel
theorem dX0_scaleRow_4 : decode cX0_scaleRow 4 = .ok (.getfield 22, 3) := by decide +kernel
theorem dX0_scaleRow_7 : decode cX0_scaleRow 7 = .ok (.if_icmp .gt 29, 3) := by decide +kernel
theorem dX0_scaleRow_10 : decode cX0_scaleRow 10 = .ok (.aload_n 0, 1) := by decide +kernel
theorem dX0_scaleRow_11 : decode cX0_scaleRow 11 = .ok (.getfield 11, 3) := by decide +kernel
theorem dX0_scaleRow_14 : decode cX0_scaleRow 14 = .ok (.iload_n 1, 1) := by decide +kernel
theorem dX0_scaleRow_15 : decode cX0_scaleRow 15 = .ok (.aaload, 1) := by decide +kernel
theorem dX0_scaleRow_16 : decode cX0_scaleRow 16 = .ok (.iload_n 3, 1) := by decide +kernel
theorem dX0_scaleRow_17 : decode cX0_scaleRow 17 = .ok (.aload_n 0, 1) := by decide +kernel
theorem dX0_scaleRow_18 : decode cX0_scaleRow 18 = .ok (.getfield 11, 3) := by decide +kernel
theorem dX0_scaleRow_21 : decode cX0_scaleRow 21 = .ok (.iload_n 1, 1) := by decide +kernel
theorem dX0_scaleRow_22 : decode cX0_scaleRow 22 = .ok (.aaload, 1) := by decide +kernel
theorem dX0_scaleRow_23 : decode cX0_scaleRow 23 = .ok (.iload_n 3, 1) := by decide +kernel
theorem dX0_scaleRow_24 : decode cX0_scaleRow 24 = .ok (.iaload, 1) := by decide +kernel
theorem dX0_scaleRow_25 : decode cX0_scaleRow 25 = .ok (.iload_n 2, 1) := by decide +kernel
theorem dX0_scaleRow_26 : decode cX0_scaleRow 26 = .ok (.invokestatic 27, 3) := by decide +kernel
theorem dX0_scaleRow_29 : decode cX0_scaleRow 29 = .ok (.iastore, 1) := by decide +kernel
theorem dX0_scaleRow_30 : decode cX0_scaleRow 30 = .ok (.iinc 3 1, 3) := by decide +kernel
theorem dX0_scaleRow_33 : decode cX0_scaleRow 33 = .ok (.goto (-31), 3) := by decide +kernel
theorem dX0_scaleRow_36 : decode cX0_scaleRow 36 = .ok (.return_, 1) := by decide +kernel
set_option maxRecDepth 20000 in
theorem ggX0_addMultiple_X1_product : GoodIn wsX0_addMultiple wsX1_product := goodIn_r _ [5] (by decide +kernel) (by decide +kernel)
set_option maxRecDepth 20000 in
theorem gX0_addMultiple_X1_product_n27 : GoodIn wsX0_addMultiple (wsX1_product) := ggX0_addMultiple_X1_product
theorem dX0_addMultiple_0 : decode cX0_addMultiple 0 = .ok (.iconst 0, 1) := by decide +kernel
theorem dX0_addMultiple_1 : decode cX0_addMultiple 1 = .ok (.istore 4, 2) := by decide +kernel
theorem dX0_addMultiple_3 : decode cX0_addMultiple 3 = .ok (.iload 4, 2) := by decide +kernel
theorem dX0_addMultiple_5 : decode cX0_addMultiple 5 = .ok (.aload_n 0, 1) := by decide +kernel
theorem dX0_addMultiple_6 : decode cX0_addMultiple 6 = .ok (.getfield 22, 3) := by decide +kernel
theorem dX0_addMultiple_9 : decode cX0_addMultiple 9 = .ok (.if_icmp .gt 34, 3) := by decide +kernel
theorem dX0_addMultiple_12 : decode cX0_addMultiple 12 = .ok (.aload_n 0, 1) := by decide +kernel
theorem dX0_addMultiple_13 : decode cX0_addMultiple 13 = .ok (.getfield 11, 3) := by decide +kernel
theorem dX0_addMultiple_16 : decode cX0_addMultiple 16 = .ok (.iload_n 1, 1) := by decide +kernel
theorem dX0_addMultiple_17 : decode cX0_addMultiple 17 = .ok (.aaload, 1) := by decide +kernel
theorem dX0_addMultiple_18 : decode cX0_addMultiple 18 = .ok (.iload 4, 2) := by decide +kernel
theorem dX0_addMultiple_20 : decode cX0_addMultiple 20 = .ok (.dup2, 1) := by decide +kernel
theorem dX0_addMultiple_21 : decode cX0_addMultiple 21 = .ok (.iaload, 1) := by decide +kernel
theorem dX0_addMultiple_22 : decode cX0_addMultiple 22 = .ok (.aload_n 0, 1) := by decide +kernel
theorem dX0_addMultiple_23 : decode cX0_addMultiple 23 = .ok (.getfield 11, 3) := by decide +kernel
theorem dX0_addMultiple_26 : decode cX0_addMultiple 26 = .ok (.iload_n 2, 1) := by decide +kernel
theorem dX0_addMultiple_27 : decode cX0_addMultiple 27 = .ok (.aaload, 1) := by decide +kernel
theorem dX0_addMultiple_28 : decode cX0_addMultiple 28 = .ok (.iload 4, 2) := by decide +kernel
theorem dX0_addMultiple_30 : decode cX0_addMultiple 30 = .ok (.iaload, 1) := by decide +kernel
theorem dX0_addMultiple_31 : decode cX0_addMultiple 31 = .ok (.iload_n 3, 1) := by decide +kernel
theorem dX0_addMultiple_32 : decode cX0_addMultiple 32 = .ok (.invokestatic 27, 3) := by decide +kernel
theorem dX0_addMultiple_35 : decode cX0_addMultiple 35 = .ok (.ixor, 1) := by decide +kernel
theorem dX0_addMultiple_36 : decode cX0_addMultiple 36 = .ok (.iastore, 1) := by decide +kernel
theorem dX0_addMultiple_37 : decode cX0_addMultiple 37 = .ok (.iinc 4 1, 3) := by decide +kernel
theorem dX0_addMultiple_40 : decode cX0_addMultiple 40 = .ok (.goto (-37), 3) := by decide +kernel
theorem dX0_addMultiple_43 : decode cX0_addMultiple 43 = .ok (.return_, 1) := by decide +kernel
set_option maxRecDepth 20000 in
theorem ggX0_polynomialAt_X1_product : GoodIn wsX0_polynomialAt wsX1_product := goodIn_r _ [5] (by decide +kernel) (by decide +kernel)
set_option maxRecDepth 20000 in
theorem gX0_polynomialAt_X1_product_n27 : GoodIn wsX0_polynomialAt (wsX1_product) := ggX0_polynomialAt_X1_product
theorem dX0_polynomialAt_0 : decode cX0_polynomialAt 0 = .ok (.iconst 0, 1) := by decide +kernel
theorem dX0_polynomialAt_1 : decode cX0_polynomialAt 1 = .ok (.istore_n 2, 1) := by decide +kernel
theorem dX0_polynomialAt_2 : decode cX0_polynomialAt 2 = .ok (.aload_n 0, 1) := by decide +kernel
theorem dX0_polynomialAt_3 : decode cX0_polynomialAt 3 = .ok (.getfield 22, 3) := by decide +kernel
theorem dX0_polynomialAt_6 : decode cX0_polynomialAt 6 = .ok (.iconst 1, 1) := by decide +kernel
theorem dX0_polynomialAt_7 : decode cX0_polynomialAt 7 = .ok (.isub, 1) := by decide +kernel
theorem dX0_polynomialAt_8 : decode cX0_polynomialAt 8 = .ok (.istore_n 3, 1) := by decide +kernel
theorem dX0_polynomialAt_9 : decode cX0_polynomialAt 9 = .ok (.iload_n 3, 1) := by decide +kernel
theorem dX0_polynomialAt_10 : decode cX0_polynomialAt 10 = .ok (.ifCond .lt 27, 3) := by decide +kernel
theorem dX0_polynomialAt_13 : decode cX0_polynomialAt 13 = .ok (.iload_n 2, 1) := by decide +kernel
theorem dX0_polynomialAt_14 : decode cX0_polynomialAt 14 = .ok (.iload_n 1, 1) := by decide +kernel
theorem dX0_polynomialAt_15 : decode cX0_polynomialAt 15 = .ok (.invokestatic 27, 3) := by decide +kernel
theorem dX0_polynomialAt_18 : decode cX0_polynomialAt 18 = .ok (.aload_n 0, 1) := by decide +kernel
theorem dX0_polynomialAt_19 : decode cX0_polynomialAt 19 = .ok (.getfield 11, 3) := by decide +kernel
theorem dX0_polynomialAt_22 : decode cX0_polynomialAt 22 = .ok (.iload_n 3, 1) := by decide +kernel
theorem dX0_polynomialAt_23 : decode cX0_polynomialAt 23 = .ok (.aaload, 1) := by decide +kernel
theorem dX0_polynomialAt_24 : decode cX0_polynomialAt 24 = .ok (.aload_n 0, 1) := by decide +kernel
theorem dX0_polynomialAt_25 : decode cX0_polynomialAt 25 = .ok (.getfield 22, 3) := by decide +kernel
theorem dX0_polynomialAt_28 : decode cX0_polynomialAt 28 = .ok (.iaload, 1) := by decide +kernel
theorem dX0_polynomialAt_29 : decode cX0_polynomialAt 29 = .ok (.ixor, 1) := by decide +kernel
theorem dX0_polynomialAt_30 : decode cX0_polynomialAt 30 = .ok (.istore_n 2, 1) := by decide +kernel
theorem dX0_polynomialAt_31 : decode cX0_polynomialAt 31 = .ok (.iinc 3 (-1), 3) := by decide +kernel
theorem dX0_polynomialAt_34 : decode cX0_polynomialAt 34 = .ok (.goto (-25), 3) := by decide +kernel
theorem dX0_polynomialAt_37 : decode cX0_polynomialAt 37 = .ok (.iload_n 2, 1) := by decide +kernel
theorem dX0_polynomialAt_38 : decode cX0_polynomialAt 38 = .ok (.ireturn, 1) := by decide +kernel
theorem dX1_product_0 : decode cX1_product 0 = .ok (.iconst 0, 1) := by decide +kernel
theorem dX1_product_1 : decode cX1_product 1 = .ok (.istore_n 2, 1) := by decide +kernel
theorem dX1_product_2 : decode cX1_product 2 = .ok (.iload_n 0, 1) := by decide +kernel
theorem dX1_product_3 : decode cX1_product 3 = .ok (.istore_n 3, 1) := by decide +kernel
theorem dX1_product_4 : decode cX1_product 4 = .ok (.iconst 0, 1) := by decide +kernel
theorem dX1_product_5 : decode cX1_product 5 = .ok (.istore 4, 2) := by decide +kernel
theorem dX1_product_7 : decode cX1_product 7 = .ok (.iload 4, 2) := by decide +kernel
theorem dX1_product_9 : decode cX1_product 9 = .ok (.bipush 8, 2) := by decide +kernel
theorem dX1_product_11 : decode cX1_product 11 = .ok (.if_icmp .ge 39, 3) := by decide +kernel
theorem dX1_product_14 : decode cX1_product 14 = .ok (.iload_n 1, 1) := by decide +kernel
theorem dX1_product_15 : decode cX1_product 15 = .ok (.iload 4, 2) := by decide +kernel
theorem dX1_product_17 : decode cX1_product 17 = .ok (.ishr, 1) := by decide +kernel
theorem dX1_product_18 : decode cX1_product 18 = .ok (.iconst 1, 1) := by decide +kernel
theorem dX1_product_19 : decode cX1_product 19 = .ok (.iand, 1) := by decide +kernel
theorem dX1_product_20 : decode cX1_product 20 = .ok (.ifCond .eq 7, 3) := by decide +kernel
theorem dX1_product_23 : decode cX1_product 23 = .ok (.iload_n 2, 1) := by decide +kernel
theorem dX1_product_24 : decode cX1_product 24 = .ok (.iload_n 3, 1) := by decide +kernel
theorem dX1_product_25 : decode cX1_product 25 = .ok (.ixor, 1) := by decide +kernel
theorem dX1_product_26 : decode cX1_product 26 = .ok (.istore_n 2, 1) := by decide +kernel
theorem dX1_product_27 : decode cX1_product 27 = .ok (.iload_n 3, 1) := by decide +kernel
theorem dX1_product_28 : decode cX1_product 28 = .ok (.iconst 1, 1) := by decide +kernel
theorem dX1_product_29 : decode cX1_product 29 = .ok (.ishl, 1) := by decide +kernel
theorem dX1_product_30 : decode cX1_product 30 = .ok (.istore_n 3, 1) := by decide +kernel
theorem dX1_product_31 : decode cX1_product 31 = .ok (.iload_n 3, 1) := by decide +kernel
theorem dX1_product_32 : decode cX1_product 32 = .ok (.sipush 255, 3) := by decide +kernel
theorem dX1_product_35 : decode cX1_product 35 = .ok (.if_icmp .le 9, 3) := by decide +kernel
theorem dX1_product_38 : decode cX1_product 38 = .ok (.iload_n 3, 1) := by decide +kernel
theorem dX1_product_39 : decode cX1_product 39 = .ok (.sipush 285, 3) := by decide +kernel
theorem dX1_product_42 : decode cX1_product 42 = .ok (.ixor, 1) := by decide +kernel
theorem dX1_product_43 : decode cX1_product 43 = .ok (.istore_n 3, 1) := by decide +kernel
theorem dX1_product_44 : decode cX1_product 44 = .ok (.iinc 4 1, 3) := by decide +kernel
theorem dX1_product_47 : decode cX1_product 47 = .ok (.goto (-40), 3) := by decide +kernel
theorem dX1_product_50 : decode cX1_product 50 = .ok (.iload_n 2, 1) := by decide +kernel
theorem dX1_product_51 : decode cX1_product 51 = .ok (.ireturn, 1) := by decide +kernel
set_option maxRecDepth 20000 in
theorem ggX1_inverse_X1_product : GoodIn wsX1_inverse wsX1_product := goodIn_r _ [4] (by decide +kernel) (by decide +kernel)
set_option maxRecDepth 20000 in
theorem gX1_inverse_X1_product : GoodIn wsX1_inverse (va_wsS RX1 11 yX1_product wsX1_product) := goodIn_app (goodIn_of _ (by decide +kernel)) ggX1_inverse_X1_product
theorem dX1_inverse_0 : decode cX1_inverse 0 = .ok (.iconst 1, 1) := by decide +kernel
theorem dX1_inverse_1 : decode cX1_inverse 1 = .ok (.istore_n 1, 1) := by decide +kernel
theorem dX1_inverse_2 : decode cX1_inverse 2 = .ok (.iload_n 0, 1) := by decide +kernel
theorem dX1_inverse_3 : decode cX1_inverse 3 = .ok (.istore_n 2, 1) := by decide +kernel
theorem dX1_inverse_4 : decode cX1_inverse 4 = .ok (.iconst 1, 1) := by decide +kernel
theorem dX1_inverse_5 : decode cX1_inverse 5 = .ok (.istore_n 3, 1) := by decide +kernel
theorem dX1_inverse_6 : decode cX1_inverse 6 = .ok (.iload_n 3, 1) := by decide +kernel
theorem dX1_inverse_7 : decode cX1_inverse 7 = .ok (.bipush 8, 2) := by decide +kernel
theorem dX1_inverse_9 : decode cX1_inverse 9 = .ok (.if_icmp .ge 21, 3) := by decide +kernel
theorem dX1_inverse_12 : decode cX1_inverse 12 = .ok (.iload_n 2, 1) := by decide +kernel
theorem dX1_inverse_13 : decode cX1_inverse 13 = .ok (.iload_n 2, 1) := by decide +kernel
theorem dX1_inverse_14 : decode cX1_inverse 14 = .ok (.invokestatic 11, 3) := by decide +kernel
theorem dX1_inverse_17 : decode cX1_inverse 17 = .ok (.istore_n 2, 1) := by decide +kernel
theorem dX1_inverse_18 : decode cX1_inverse 18 = .ok (.iload_n 1, 1) := by decide +kernel
theorem dX1_inverse_19 : decode cX1_inverse 19 = .ok (.iload_n 2, 1) := by decide +kernel
theorem dX1_inverse_20 : decode cX1_inverse 20 = .ok (.invokestatic 11, 3) := by decide +kernel
theorem dX1_inverse_23 : decode cX1_inverse 23 = .ok (.istore_n 1, 1) := by decide +kernel
theorem dX1_inverse_24 : decode cX1_inverse 24 = .ok (.iinc 3 1, 3) := by decide +kernel
theorem dX1_inverse_27 : decode cX1_inverse 27 = .ok (.goto (-21), 3) := by decide +kernel
theorem dX1_inverse_30 : decode cX1_inverse 30 = .ok (.iload_n 1, 1) := by decide +kernel
theorem dX1_inverse_31 : decode cX1_inverse 31 = .ok (.ireturn, 1) := by decide +kernel
theorem dX2_init_0 : decode cX2_init 0 = .ok (.aload_n 0, 1) := by decide +kernel
theorem dX2_init_1 : decode cX2_init 1 = .ok (.invokespecial 3, 3) := by decide +kernel
theorem dX2_init_4 : decode cX2_init 4 = .ok (.aload_n 0, 1) := by decide +kernel
theorem dX2_init_5 : decode cX2_init 5 = .ok (.bipush 8, 2) := by decide +kernel
theorem dX2_init_7 : decode cX2_init 7 = .ok (.newarray .int, 2) := by decide +kernel
theorem dX2_init_9 : decode cX2_init 9 = .ok (.putfield 9, 3) := by decide +kernel
theorem dX2_init_12 : decode cX2_init 12 = .ok (.aload_n 0, 1) := by decide +kernel
theorem dX2_init_13 : decode cX2_init 13 = .ok (.bipush 8, 2) := by decide +kernel
theorem dX2_init_15 : decode cX2_init 15 = .ok (.newarray .int, 2) := by decide +kernel
theorem dX2_init_17 : decode cX2_init 17 = .ok (.putfield 15, 3) := by decide +kernel
theorem dX2_init_20 : decode cX2_init 20 = .ok (.return_, 1) := by decide +kernel
theorem dX2_clear_0 : decode cX2_clear 0 = .ok (.aload_n 0, 1) := by decide +kernel
theorem dX2_clear_1 : decode cX2_clear 1 = .ok (.iconst 0, 1) := by decide +kernel
theorem dX2_clear_2 : decode cX2_clear 2 = .ok (.putfield 18, 3) := by decide +kernel
theorem dX2_clear_5 : decode cX2_clear 5 = .ok (.return_, 1) := by decide +kernel
theorem dX2_add_0 : decode cX2_add 0 = .ok (.aload_n 0, 1) := by decide +kernel
theorem dX2_add_1 : decode cX2_add 1 = .ok (.getfield 18, 3) := by decide +kernel
theorem dX2_add_4 : decode cX2_add 4 = .ok (.bipush 8, 2) := by decide +kernel
theorem dX2_add_6 : decode cX2_add 6 = .ok (.if_icmp .ge 33, 3) := by decide +kernel
theorem dX2_add_9 : decode cX2_add 9 = .ok (.aload_n 0, 1) := by decide +kernel
theorem dX2_add_10 : decode cX2_add 10 = .ok (.getfield 9, 3) := by decide +kernel
theorem dX2_add_13 : decode cX2_add 13 = .ok (.aload_n 0, 1) := by decide +kernel
theorem dX2_add_14 : decode cX2_add 14 = .ok (.getfield 18, 3) := by decide +kernel
theorem dX2_add_17 : decode cX2_add 17 = .ok (.iload_n 1, 1) := by decide +kernel
theorem dX2_add_18 : decode cX2_add 18 = .ok (.iastore, 1) := by decide +kernel
theorem dX2_add_19 : decode cX2_add 19 = .ok (.aload_n 0, 1) := by decide +kernel
theorem dX2_add_20 : decode cX2_add 20 = .ok (.getfield 15, 3) := by decide +kernel
theorem dX2_add_23 : decode cX2_add 23 = .ok (.aload_n 0, 1) := by decide +kernel
theorem dX2_add_24 : decode cX2_add 24 = .ok (.getfield 18, 3) := by decide +kernel
theorem dX2_add_27 : decode cX2_add 27 = .ok (.iload_n 2, 1) := by decide +kernel
theorem dX2_add_28 : decode cX2_add 28 = .ok (.iastore, 1) := by decide +kernel
theorem dX2_add_29 : decode cX2_add 29 = .ok (.aload_n 0, 1) := by decide +kernel
theorem dX2_add_30 : decode cX2_add 30 = .ok (.dup, 1) := by decide +kernel
theorem dX2_add_31 : decode cX2_add 31 = .ok (.getfield 18, 3) := by decide +kernel
theorem dX2_add_34 : decode cX2_add 34 = .ok (.iconst 1, 1) := by decide +kernel
theorem dX2_add_35 : decode cX2_add 35 = .ok (.iadd, 1) := by decide +kernel
theorem dX2_add_36 : decode cX2_add 36 = .ok (.putfield 18, 3) := by decide +kernel
theorem dX2_add_39 : decode cX2_add 39 = .ok (.return_, 1) := by decide +kernel
set_option maxRecDepth 20000 in
theorem ggX2_polynomialAt_X2_weight : GoodIn wsX2_polynomialAt wsX2_weight := goodIn_r _ [7, 1, 8, 9, 10, 11, 12, 13, 14, 15, 16, 17] (by decide +kernel) (by decide +kernel)
set_option maxRecDepth 20000 in
theorem gX2_polynomialAt_X2_weight : GoodIn wsX2_polynomialAt (wsV RX2 22 RX2 yX2_weight wsX2_weight) := goodIn_app (goodIn_of _ (by decide +kernel)) ggX2_polynomialAt_X2_weight
set_option maxRecDepth 20000 in
theorem ggX2_polynomialAt_X1_product : GoodIn wsX2_polynomialAt wsX1_product := goodIn_r _ [11] (by decide +kernel) (by decide +kernel)
set_option maxRecDepth 20000 in
theorem gX2_polynomialAt_X1_product_n26 : GoodIn wsX2_polynomialAt (wsX1_product) := ggX2_polynomialAt_X1_product
theorem dX2_polynomialAt_0 : decode cX2_polynomialAt 0 = .ok (.iconst 0, 1) := by decide +kernel
theorem dX2_polynomialAt_1 : decode cX2_polynomialAt 1 = .ok (.istore_n 2, 1) := by decide +kernel
theorem dX2_polynomialAt_2 : decode cX2_polynomialAt 2 = .ok (.iconst 0, 1) := by decide +kernel
theorem dX2_polynomialAt_3 : decode cX2_polynomialAt 3 = .ok (.istore_n 3, 1) := by decide +kernel
theorem dX2_polynomialAt_4 : decode cX2_polynomialAt 4 = .ok (.iload_n 3, 1) := by decide +kernel
theorem dX2_polynomialAt_5 : decode cX2_polynomialAt 5 = .ok (.aload_n 0, 1) := by decide +kernel
theorem dX2_polynomialAt_6 : decode cX2_polynomialAt 6 = .ok (.getfield 18, 3) := by decide +kernel
theorem dX2_polynomialAt_9 : decode cX2_polynomialAt 9 = .ok (.if_icmp .ge 27, 3) := by decide +kernel
theorem dX2_polynomialAt_12 : decode cX2_polynomialAt 12 = .ok (.iload_n 2, 1) := by decide +kernel
theorem dX2_polynomialAt_13 : decode cX2_polynomialAt 13 = .ok (.aload_n 0, 1) := by decide +kernel
theorem dX2_polynomialAt_14 : decode cX2_polynomialAt 14 = .ok (.getfield 15, 3) := by decide +kernel
theorem dX2_polynomialAt_17 : decode cX2_polynomialAt 17 = .ok (.iload_n 3, 1) := by decide +kernel
theorem dX2_polynomialAt_18 : decode cX2_polynomialAt 18 = .ok (.iaload, 1) := by decide +kernel
theorem dX2_polynomialAt_19 : decode cX2_polynomialAt 19 = .ok (.aload_n 0, 1) := by decide +kernel
theorem dX2_polynomialAt_20 : decode cX2_polynomialAt 20 = .ok (.iload_n 3, 1) := by decide +kernel
theorem dX2_polynomialAt_21 : decode cX2_polynomialAt 21 = .ok (.iload_n 1, 1) := by decide +kernel
theorem dX2_polynomialAt_22 : decode cX2_polynomialAt 22 = .ok (.invokevirtual 22, 3) := by decide +kernel
theorem dX2_polynomialAt_25 : decode cX2_polynomialAt 25 = .ok (.invokestatic 26, 3) := by decide +kernel
theorem dX2_polynomialAt_28 : decode cX2_polynomialAt 28 = .ok (.ixor, 1) := by decide +kernel
theorem dX2_polynomialAt_29 : decode cX2_polynomialAt 29 = .ok (.istore_n 2, 1) := by decide +kernel
theorem dX2_polynomialAt_30 : decode cX2_polynomialAt 30 = .ok (.iinc 3 1, 3) := by decide +kernel
theorem dX2_polynomialAt_33 : decode cX2_polynomialAt 33 = .ok (.goto (-29), 3) := by decide +kernel
theorem dX2_polynomialAt_36 : decode cX2_polynomialAt 36 = .ok (.iload_n 2, 1) := by decide +kernel
theorem dX2_polynomialAt_37 : decode cX2_polynomialAt 37 = .ok (.ireturn, 1) := by decide +kernel
set_option maxRecDepth 20000 in
theorem ggX2_weight_X1_product : GoodIn wsX2_weight wsX1_product := goodIn_r _ [5] (by decide +kernel) (by decide +kernel)
set_option maxRecDepth 20000 in
theorem gX2_weight_X1_product_n26 : GoodIn wsX2_weight (wsX1_product) := ggX2_weight_X1_product
set_option maxRecDepth 20000 in
theorem ggX2_weight_X1_inverse : GoodIn wsX2_weight wsX1_inverse := goodIn_r _ [7, 8, 3, 4, 5] (by decide +kernel) (by decide +kernel)
set_option maxRecDepth 20000 in
theorem gX2_weight_X1_inverse_n31 : GoodIn wsX2_weight (wsX1_inverse) := ggX2_weight_X1_inverse
theorem dX2_weight_0 : decode cX2_weight 0 = .ok (.iconst 1, 1) := by decide +kernel
theorem dX2_weight_1 : decode cX2_weight 1 = .ok (.istore_n 3, 1) := by decide +kernel
theorem dX2_weight_2 : decode cX2_weight 2 = .ok (.iconst 1, 1) := by decide +kernel
theorem dX2_weight_3 : decode cX2_weight 3 = .ok (.istore 4, 2) := by decide +kernel
theorem dX2_weight_5 : decode cX2_weight 5 = .ok (.iconst 0, 1) := by decide +kernel
theorem dX2_weight_6 : decode cX2_weight 6 = .ok (.istore 5, 2) := by decide +kernel
theorem dX2_weight_8 : decode cX2_weight 8 = .ok (.iload 5, 2) := by decide +kernel
theorem dX2_weight_10 : decode cX2_weight 10 = .ok (.aload_n 0, 1) := by decide +kernel
theorem dX2_weight_11 : decode cX2_weight 11 = .ok (.getfield 18, 3) := by decide +kernel
theorem dX2_weight_14 : decode cX2_weight 14 = .ok (.if_icmp .ge 50, 3) := by decide +kernel
theorem dX2_weight_17 : decode cX2_weight 17 = .ok (.iload 5, 2) := by decide +kernel
theorem dX2_weight_19 : decode cX2_weight 19 = .ok (.iload_n 1, 1) := by decide +kernel
theorem dX2_weight_20 : decode cX2_weight 20 = .ok (.if_icmp .eq 38, 3) := by decide +kernel
theorem dX2_weight_23 : decode cX2_weight 23 = .ok (.iload_n 3, 1) := by decide +kernel
theorem dX2_weight_24 : decode cX2_weight 24 = .ok (.iload_n 2, 1) := by decide +kernel
theorem dX2_weight_25 : decode cX2_weight 25 = .ok (.aload_n 0, 1) := by decide +kernel
theorem dX2_weight_26 : decode cX2_weight 26 = .ok (.getfield 9, 3) := by decide +kernel
theorem dX2_weight_29 : decode cX2_weight 29 = .ok (.iload 5, 2) := by decide +kernel
theorem dX2_weight_31 : decode cX2_weight 31 = .ok (.iaload, 1) := by decide +kernel
theorem dX2_weight_32 : decode cX2_weight 32 = .ok (.ixor, 1) := by decide +kernel
theorem dX2_weight_33 : decode cX2_weight 33 = .ok (.invokestatic 26, 3) := by decide +kernel
theorem dX2_weight_36 : decode cX2_weight 36 = .ok (.istore_n 3, 1) := by decide +kernel
theorem dX2_weight_37 : decode cX2_weight 37 = .ok (.iload 4, 2) := by decide +kernel
theorem dX2_weight_39 : decode cX2_weight 39 = .ok (.aload_n 0, 1) := by decide +kernel
theorem dX2_weight_40 : decode cX2_weight 40 = .ok (.getfield 9, 3) := by decide +kernel
theorem dX2_weight_43 : decode cX2_weight 43 = .ok (.iload_n 1, 1) := by decide +kernel
theorem dX2_weight_44 : decode cX2_weight 44 = .ok (.iaload, 1) := by decide +kernel
theorem dX2_weight_45 : decode cX2_weight 45 = .ok (.aload_n 0, 1) := by decide +kernel
theorem dX2_weight_46 : decode cX2_weight 46 = .ok (.getfield 9, 3) := by decide +kernel
theorem dX2_weight_49 : decode cX2_weight 49 = .ok (.iload 5, 2) := by decide +kernel
theorem dX2_weight_51 : decode cX2_weight 51 = .ok (.iaload, 1) := by decide +kernel
theorem dX2_weight_52 : decode cX2_weight 52 = .ok (.ixor, 1) := by decide +kernel
theorem dX2_weight_53 : decode cX2_weight 53 = .ok (.invokestatic 26, 3) := by decide +kernel
theorem dX2_weight_56 : decode cX2_weight 56 = .ok (.istore 4, 2) := by decide +kernel
theorem dX2_weight_58 : decode cX2_weight 58 = .ok (.iinc 5 1, 3) := by decide +kernel
theorem dX2_weight_61 : decode cX2_weight 61 = .ok (.goto (-53), 3) := by decide +kernel
theorem dX2_weight_64 : decode cX2_weight 64 = .ok (.iload_n 3, 1) := by decide +kernel
theorem dX2_weight_65 : decode cX2_weight 65 = .ok (.iload 4, 2) := by decide +kernel
theorem dX2_weight_67 : decode cX2_weight 67 = .ok (.invokestatic 31, 3) := by decide +kernel
theorem dX2_weight_70 : decode cX2_weight 70 = .ok (.invokestatic 26, 3) := by decide +kernel
theorem dX2_weight_73 : decode cX2_weight 73 = .ok (.ireturn, 1) := by decide +kernel
set_option maxRecDepth 20000 in
theorem ggX3_init_X2_init : GoodIn wsX3_init wsX2_init := goodIn_r _ [21, 22, 2, 3, 8, 23, 24, 47, 48, 49] (by decide +kernel) (by decide +kernel)
set_option maxRecDepth 20000 in
theorem gX3_init_X2_init_n9 : GoodIn wsX3_init (wsX2_init) := ggX3_init_X2_init
set_option maxRecDepth 20000 in
theorem ggX3_init_X0_init : GoodIn wsX3_init wsX0_init := goodIn_r _ [26, 27, 2, 3, 28, 8, 29, 63, 64] (by decide +kernel) (by decide +kernel)
set_option maxRecDepth 20000 in
theorem gX3_init_X0_init_n38 : GoodIn wsX3_init (wsX0_init) := ggX3_init_X0_init
set_option maxRecDepth 20000 in
theorem ggX3_init_X3_startBlock : GoodIn wsX3_init wsX3_startBlock := goodIn_r _ [34, 7, 35, 36, 37, 38, 39, 40, 6, 41, 42, 43, 44, 45, 46, 23, 24, 50, 51, 52, 53, 54, 55, 56, 57, 58, 59, 60, 61, 62, 47, 48, 49] (by decide +kernel) (by decide +kernel)
set_option maxRecDepth 20000 in
theorem gX3_init_X3_startBlock : GoodIn wsX3_init (wsV RX3 43 RX3 yX3_startBlock wsX3_startBlock) := goodIn_app (goodIn_of _ (by decide +kernel)) ggX3_init_X3_startBlock
theorem dX3_init_0 : decode cX3_init 0 = .ok (.aload_n 0, 1) := by decide +kernel
theorem dX3_init_1 : decode cX3_init 1 = .ok (.invokespecial 1, 3) := by decide +kernel
theorem dX3_init_4 : decode cX3_init 4 = .ok (.aload_n 0, 1) := by decide +kernel
theorem dX3_init_5 : decode cX3_init 5 = .ok (.new 7, 3) := by decide +kernel
theorem dX3_init_8 : decode cX3_init 8 = .ok (.dup, 1) := by decide +kernel
theorem dX3_init_9 : decode cX3_init 9 = .ok (.invokespecial 9, 3) := by decide +kernel
theorem dX3_init_12 : decode cX3_init 12 = .ok (.putfield 10, 3) := by decide +kernel
theorem dX3_init_15 : decode cX3_init 15 = .ok (.aload_n 0, 1) := by decide +kernel
theorem dX3_init_16 : decode cX3_init 16 = .ok (.bipush 6, 2) := by decide +kernel
theorem dX3_init_18 : decode cX3_init 18 = .ok (.newarray .int, 2) := by decide +kernel
theorem dX3_init_20 : decode cX3_init 20 = .ok (.putfield 16, 3) := by decide +kernel
theorem dX3_init_23 : decode cX3_init 23 = .ok (.aload_n 0, 1) := by decide +kernel
theorem dX3_init_24 : decode cX3_init 24 = .ok (.bipush 6, 2) := by decide +kernel
theorem dX3_init_26 : decode cX3_init 26 = .ok (.newarray .int, 2) := by decide +kernel
theorem dX3_init_28 : decode cX3_init 28 = .ok (.putfield 20, 3) := by decide +kernel
theorem dX3_init_31 : decode cX3_init 31 = .ok (.aload_n 0, 1) := by decide +kernel
theorem dX3_init_32 : decode cX3_init 32 = .ok (.bipush 6, 2) := by decide +kernel
theorem dX3_init_34 : decode cX3_init 34 = .ok (.newarray .int, 2) := by decide +kernel
theorem dX3_init_36 : decode cX3_init 36 = .ok (.putfield 23, 3) := by decide +kernel
theorem dX3_init_39 : decode cX3_init 39 = .ok (.aload_n 0, 1) := by decide +kernel
theorem dX3_init_40 : decode cX3_init 40 = .ok (.bipush 6, 2) := by decide +kernel
theorem dX3_init_42 : decode cX3_init 42 = .ok (.newarray .int, 2) := by decide +kernel
theorem dX3_init_44 : decode cX3_init 44 = .ok (.putfield 26, 3) := by decide +kernel
theorem dX3_init_47 : decode cX3_init 47 = .ok (.aload_n 0, 1) := by decide +kernel
theorem dX3_init_48 : decode cX3_init 48 = .ok (.bipush 6, 2) := by decide +kernel
theorem dX3_init_50 : decode cX3_init 50 = .ok (.newarray .boolean, 2) := by decide +kernel
theorem dX3_init_52 : decode cX3_init 52 = .ok (.putfield 29, 3) := by decide +kernel
theorem dX3_init_55 : decode cX3_init 55 = .ok (.aload_n 0, 1) := by decide +kernel
theorem dX3_init_56 : decode cX3_init 56 = .ok (.new 7, 3) := by decide +kernel
theorem dX3_init_59 : decode cX3_init 59 = .ok (.dup, 1) := by decide +kernel
theorem dX3_init_60 : decode cX3_init 60 = .ok (.invokespecial 9, 3) := by decide +kernel
theorem dX3_init_63 : decode cX3_init 63 = .ok (.putfield 33, 3) := by decide +kernel
theorem dX3_init_66 : decode cX3_init 66 = .ok (.aload_n 0, 1) := by decide +kernel
theorem dX3_init_67 : decode cX3_init 67 = .ok (.new 36, 3) := by decide +kernel
theorem dX3_init_70 : decode cX3_init 70 = .ok (.dup, 1) := by decide +kernel
theorem dX3_init_71 : decode cX3_init 71 = .ok (.invokespecial 38, 3) := by decide +kernel
theorem dX3_init_74 : decode cX3_init 74 = .ok (.putfield 39, 3) := by decide +kernel
theorem dX3_init_77 : decode cX3_init 77 = .ok (.aload_n 0, 1) := by decide +kernel
theorem dX3_init_78 : decode cX3_init 78 = .ok (.iconst 4, 1) := by decide +kernel
theorem dX3_init_79 : decode cX3_init 79 = .ok (.iconst 3, 1) := by decide +kernel
theorem dX3_init_80 : decode cX3_init 80 = .ok (.invokevirtual 43, 3) := by decide +kernel
theorem dX3_init_83 : decode cX3_init 83 = .ok (.return_, 1) := by decide +kernel
set_option maxRecDepth 20000 in
theorem ggX3_begin_X3_startBlock : GoodIn wsX3_begin wsX3_startBlock := goodIn_r _ [8, 9, 10, 11, 3, 12, 13, 14, 15, 16, 17, 18, 19, 20, 21, 22, 23, 24, 25, 26, 27, 28, 29, 30, 31, 32, 33, 34, 35, 36, 37, 38, 39] (by decide +kernel) (by decide +kernel)
set_option maxRecDepth 20000 in
theorem gX3_begin_X3_startBlock : GoodIn wsX3_begin (wsV RX3 43 RX3 yX3_startBlock wsX3_startBlock) := goodIn_app (goodIn_of _ (by decide +kernel)) ggX3_begin_X3_startBlock
theorem dX3_begin_0 : decode cX3_begin 0 = .ok (.iload_n 1, 1) := by decide +kernel
theorem dX3_begin_1 : decode cX3_begin 1 = .ok (.iconst 1, 1) := by decide +kernel
theorem dX3_begin_2 : decode cX3_begin 2 = .ok (.if_icmp .lt 9, 3) := by decide +kernel
theorem dX3_begin_5 : decode cX3_begin 5 = .ok (.iload_n 1, 1) := by decide +kernel
theorem dX3_begin_6 : decode cX3_begin 6 = .ok (.bipush 8, 2) := by decide +kernel
theorem dX3_begin_8 : decode cX3_begin 8 = .ok (.if_icmp .le 13, 3) := by decide +kernel
theorem dX3_begin_11 : decode cX3_begin 11 = .ok (.new 47, 3) := by decide +kernel
theorem dX3_begin_14 : decode cX3_begin 14 = .ok (.dup, 1) := by decide +kernel
theorem dX3_begin_15 : decode cX3_begin 15 = .ok (.ldc 49, 2) := by decide +kernel
theorem dX3_begin_17 : decode cX3_begin 17 = .ok (.invokespecial 51, 3) := by decide +kernel
theorem dX3_begin_20 : decode cX3_begin 20 = .ok (.athrow, 1) := by decide +kernel
theorem dX3_begin_21 : decode cX3_begin 21 = .ok (.iload_n 2, 1) := by decide +kernel
theorem dX3_begin_22 : decode cX3_begin 22 = .ok (.iconst 1, 1) := by decide +kernel
theorem dX3_begin_23 : decode cX3_begin 23 = .ok (.if_icmp .lt 9, 3) := by decide +kernel
theorem dX3_begin_26 : decode cX3_begin 26 = .ok (.iload_n 2, 1) := by decide +kernel
theorem dX3_begin_27 : decode cX3_begin 27 = .ok (.bipush 20, 2) := by decide +kernel
theorem dX3_begin_29 : decode cX3_begin 29 = .ok (.if_icmp .le 13, 3) := by decide +kernel
theorem dX3_begin_32 : decode cX3_begin 32 = .ok (.new 47, 3) := by decide +kernel
theorem dX3_begin_35 : decode cX3_begin 35 = .ok (.dup, 1) := by decide +kernel
theorem dX3_begin_36 : decode cX3_begin 36 = .ok (.ldc 54, 2) := by decide +kernel
theorem dX3_begin_38 : decode cX3_begin 38 = .ok (.invokespecial 51, 3) := by decide +kernel
theorem dX3_begin_41 : decode cX3_begin 41 = .ok (.athrow, 1) := by decide +kernel
theorem dX3_begin_42 : decode cX3_begin 42 = .ok (.aload_n 0, 1) := by decide +kernel
theorem dX3_begin_43 : decode cX3_begin 43 = .ok (.getfield 56, 3) := by decide +kernel
theorem dX3_begin_46 : decode cX3_begin 46 = .ok (.istore_n 3, 1) := by decide +kernel
theorem dX3_begin_47 : decode cX3_begin 47 = .ok (.aload_n 0, 1) := by decide +kernel
theorem dX3_begin_48 : decode cX3_begin 48 = .ok (.iload_n 1, 1) := by decide +kernel
theorem dX3_begin_49 : decode cX3_begin 49 = .ok (.iload_n 2, 1) := by decide +kernel
theorem dX3_begin_50 : decode cX3_begin 50 = .ok (.invokevirtual 43, 3) := by decide +kernel
theorem dX3_begin_53 : decode cX3_begin 53 = .ok (.iload_n 3, 1) := by decide +kernel
theorem dX3_begin_54 : decode cX3_begin 54 = .ok (.ireturn, 1) := by decide +kernel
set_option maxRecDepth 20000 in
theorem ggX3_setDatum_X3_demandPlace : GoodIn wsX3_setDatum wsX3_demandPlace := goodIn_ca (goodIn_r _ [11, 12, 13, 6, 17, 18, 19, 20, 21, 22, 23, 24, 25, 26, 27, 28, 29, 30, 31, 32] (by decide +kernel) (by decide +kernel)) (goodIn_sub (fun _ h => List.mem_cons_of_mem _ (List.mem_append_right _ h)) (by decide +kernel))
set_option maxRecDepth 20000 in
theorem gX3_setDatum_X3_demandPlace : GoodIn wsX3_setDatum (wsV RX3 60 RX3 yX3_demandPlace wsX3_demandPlace) := goodIn_app (goodIn_of _ (by decide +kernel)) ggX3_setDatum_X3_demandPlace
set_option maxRecDepth 20000 in
theorem ggX3_setDatum_X3_isFieldNumber : GoodIn wsX3_setDatum wsX3_isFieldNumber := goodIn_r _ [16] (by decide +kernel) (by decide +kernel)
set_option maxRecDepth 20000 in
theorem gX3_setDatum_X3_isFieldNumber : GoodIn wsX3_setDatum (va_wsS RX3 64 yX3_isFieldNumber wsX3_isFieldNumber) := goodIn_app (goodIn_of _ (by decide +kernel)) ggX3_setDatum_X3_isFieldNumber
theorem dX3_setDatum_0 : decode cX3_setDatum 0 = .ok (.aload_n 0, 1) := by decide +kernel
theorem dX3_setDatum_1 : decode cX3_setDatum 1 = .ok (.iload_n 1, 1) := by decide +kernel
theorem dX3_setDatum_2 : decode cX3_setDatum 2 = .ok (.invokevirtual 60, 3) := by decide +kernel
theorem dX3_setDatum_5 : decode cX3_setDatum 5 = .ok (.iload_n 2, 1) := by decide +kernel
theorem dX3_setDatum_6 : decode cX3_setDatum 6 = .ok (.invokestatic 64, 3) := by decide +kernel
theorem dX3_setDatum_9 : decode cX3_setDatum 9 = .ok (.ifCond .ne 13, 3) := by decide +kernel
theorem dX3_setDatum_12 : decode cX3_setDatum 12 = .ok (.new 47, 3) := by decide +kernel
theorem dX3_setDatum_15 : decode cX3_setDatum 15 = .ok (.dup, 1) := by decide +kernel
theorem dX3_setDatum_16 : decode cX3_setDatum 16 = .ok (.ldc 68, 2) := by decide +kernel
theorem dX3_setDatum_18 : decode cX3_setDatum 18 = .ok (.invokespecial 51, 3) := by decide +kernel
theorem dX3_setDatum_21 : decode cX3_setDatum 21 = .ok (.athrow, 1) := by decide +kernel
theorem dX3_setDatum_22 : decode cX3_setDatum 22 = .ok (.aload_n 0, 1) := by decide +kernel
theorem dX3_setDatum_23 : decode cX3_setDatum 23 = .ok (.getfield 56, 3) := by decide +kernel
theorem dX3_setDatum_26 : decode cX3_setDatum 26 = .ok (.ifCond .le 13, 3) := by decide +kernel
theorem dX3_setDatum_29 : decode cX3_setDatum 29 = .ok (.new 70, 3) := by decide +kernel
theorem dX3_setDatum_32 : decode cX3_setDatum 32 = .ok (.dup, 1) := by decide +kernel
theorem dX3_setDatum_33 : decode cX3_setDatum 33 = .ok (.ldc 72, 2) := by decide +kernel
theorem dX3_setDatum_35 : decode cX3_setDatum 35 = .ok (.invokespecial 74, 3) := by decide +kernel
theorem dX3_setDatum_38 : decode cX3_setDatum 38 = .ok (.athrow, 1) := by decide +kernel
theorem dX3_setDatum_39 : decode cX3_setDatum 39 = .ok (.aload_n 0, 1) := by decide +kernel
theorem dX3_setDatum_40 : decode cX3_setDatum 40 = .ok (.getfield 10, 3) := by decide +kernel
theorem dX3_setDatum_43 : decode cX3_setDatum 43 = .ok (.getfield 75, 3) := by decide +kernel
theorem dX3_setDatum_46 : decode cX3_setDatum 46 = .ok (.iload_n 1, 1) := by decide +kernel
theorem dX3_setDatum_47 : decode cX3_setDatum 47 = .ok (.iaload, 1) := by decide +kernel
theorem dX3_setDatum_48 : decode cX3_setDatum 48 = .ok (.istore_n 3, 1) := by decide +kernel
theorem dX3_setDatum_49 : decode cX3_setDatum 49 = .ok (.aload_n 0, 1) := by decide +kernel
theorem dX3_setDatum_50 : decode cX3_setDatum 50 = .ok (.getfield 10, 3) := by decide +kernel
theorem dX3_setDatum_53 : decode cX3_setDatum 53 = .ok (.getfield 75, 3) := by decide +kernel
theorem dX3_setDatum_56 : decode cX3_setDatum 56 = .ok (.iload_n 1, 1) := by decide +kernel
theorem dX3_setDatum_57 : decode cX3_setDatum 57 = .ok (.iload_n 2, 1) := by decide +kernel
theorem dX3_setDatum_58 : decode cX3_setDatum 58 = .ok (.iastore, 1) := by decide +kernel
theorem dX3_setDatum_59 : decode cX3_setDatum 59 = .ok (.iload_n 3, 1) := by decide +kernel
theorem dX3_setDatum_60 : decode cX3_setDatum 60 = .ok (.ireturn, 1) := by decide +kernel
set_option maxRecDepth 20000 in
theorem ggX3_join_X3_demandLosses : GoodIn wsX3_join wsX3_demandLosses := goodIn_ca (goodIn_r _ [12, 13, 14] (by decide +kernel) (by decide +kernel)) (goodIn_sub (fun _ h => List.mem_cons_of_mem _ (List.mem_append_right _ h)) (by decide +kernel))
set_option maxRecDepth 20000 in
theorem gX3_join_X3_demandLosses : GoodIn wsX3_join (va_wsS RX3 78 yX3_demandLosses wsX3_demandLosses) := goodIn_app (goodIn_of _ (by decide +kernel)) ggX3_join_X3_demandLosses
set_option maxRecDepth 20000 in
theorem ggX3_join_X3_demandWait : GoodIn wsX3_join wsX3_demandWait := goodIn_ca (goodIn_r _ [17, 13, 14] (by decide +kernel) (by decide +kernel)) (goodIn_sub (fun _ h => List.mem_cons_of_mem _ (List.mem_append_right _ h)) (by decide +kernel))
set_option maxRecDepth 20000 in
theorem gX3_join_X3_demandWait : GoodIn wsX3_join (va_wsS RX3 81 yX3_demandWait wsX3_demandWait) := goodIn_app (goodIn_of _ (by decide +kernel)) ggX3_join_X3_demandWait
theorem dX3_join_0 : decode cX3_join 0 = .ok (.iload_n 1, 1) := by decide +kernel
theorem dX3_join_1 : decode cX3_join 1 = .ok (.invokestatic 78, 3) := by decide +kernel
theorem dX3_join_4 : decode cX3_join 4 = .ok (.iload_n 2, 1) := by decide +kernel
theorem dX3_join_5 : decode cX3_join 5 = .ok (.invokestatic 81, 3) := by decide +kernel
theorem dX3_join_8 : decode cX3_join 8 = .ok (.aload_n 0, 1) := by decide +kernel
theorem dX3_join_9 : decode cX3_join 9 = .ok (.getfield 84, 3) := by decide +kernel
theorem dX3_join_12 : decode cX3_join 12 = .ok (.bipush 6, 2) := by decide +kernel
theorem dX3_join_14 : decode cX3_join 14 = .ok (.if_icmp .lt 13, 3) := by decide +kernel
theorem dX3_join_17 : decode cX3_join 17 = .ok (.new 70, 3) := by decide +kernel
theorem dX3_join_20 : decode cX3_join 20 = .ok (.dup, 1) := by decide +kernel
theorem dX3_join_21 : decode cX3_join 21 = .ok (.ldc 87, 2) := by decide +kernel
theorem dX3_join_23 : decode cX3_join 23 = .ok (.invokespecial 74, 3) := by decide +kernel
theorem dX3_join_26 : decode cX3_join 26 = .ok (.athrow, 1) := by decide +kernel
theorem dX3_join_27 : decode cX3_join 27 = .ok (.aload_n 0, 1) := by decide +kernel
theorem dX3_join_28 : decode cX3_join 28 = .ok (.getfield 84, 3) := by decide +kernel
theorem dX3_join_31 : decode cX3_join 31 = .ok (.istore_n 3, 1) := by decide +kernel
theorem dX3_join_32 : decode cX3_join 32 = .ok (.aload_n 0, 1) := by decide +kernel
theorem dX3_join_33 : decode cX3_join 33 = .ok (.getfield 16, 3) := by decide +kernel
theorem dX3_join_36 : decode cX3_join 36 = .ok (.iload_n 3, 1) := by decide +kernel
theorem dX3_join_37 : decode cX3_join 37 = .ok (.iload_n 1, 1) := by decide +kernel
theorem dX3_join_38 : decode cX3_join 38 = .ok (.iastore, 1) := by decide +kernel
theorem dX3_join_39 : decode cX3_join 39 = .ok (.aload_n 0, 1) := by decide +kernel
theorem dX3_join_40 : decode cX3_join 40 = .ok (.getfield 20, 3) := by decide +kernel
theorem dX3_join_43 : decode cX3_join 43 = .ok (.iload_n 3, 1) := by decide +kernel
theorem dX3_join_44 : decode cX3_join 44 = .ok (.iload_n 2, 1) := by decide +kernel
theorem dX3_join_45 : decode cX3_join 45 = .ok (.iastore, 1) := by decide +kernel
theorem dX3_join_46 : decode cX3_join 46 = .ok (.aload_n 0, 1) := by decide +kernel
theorem dX3_join_47 : decode cX3_join 47 = .ok (.getfield 23, 3) := by decide +kernel
theorem dX3_join_50 : decode cX3_join 50 = .ok (.iload_n 3, 1) := by decide +kernel
theorem dX3_join_51 : decode cX3_join 51 = .ok (.iconst 0, 1) := by decide +kernel
theorem dX3_join_52 : decode cX3_join 52 = .ok (.iastore, 1) := by decide +kernel
theorem dX3_join_53 : decode cX3_join 53 = .ok (.aload_n 0, 1) := by decide +kernel
theorem dX3_join_54 : decode cX3_join 54 = .ok (.getfield 26, 3) := by decide +kernel
theorem dX3_join_57 : decode cX3_join 57 = .ok (.iload_n 3, 1) := by decide +kernel
theorem dX3_join_58 : decode cX3_join 58 = .ok (.iconst 0, 1) := by decide +kernel
theorem dX3_join_59 : decode cX3_join 59 = .ok (.iastore, 1) := by decide +kernel
theorem dX3_join_60 : decode cX3_join 60 = .ok (.aload_n 0, 1) := by decide +kernel
theorem dX3_join_61 : decode cX3_join 61 = .ok (.getfield 29, 3) := by decide +kernel
theorem dX3_join_64 : decode cX3_join 64 = .ok (.iload_n 3, 1) := by decide +kernel
theorem dX3_join_65 : decode cX3_join 65 = .ok (.iconst 0, 1) := by decide +kernel
theorem dX3_join_66 : decode cX3_join 66 = .ok (.bastore, 1) := by decide +kernel
theorem dX3_join_67 : decode cX3_join 67 = .ok (.aload_n 0, 1) := by decide +kernel
theorem dX3_join_68 : decode cX3_join 68 = .ok (.dup, 1) := by decide +kernel
theorem dX3_join_69 : decode cX3_join 69 = .ok (.getfield 84, 3) := by decide +kernel
theorem dX3_join_72 : decode cX3_join 72 = .ok (.iconst 1, 1) := by decide +kernel
theorem dX3_join_73 : decode cX3_join 73 = .ok (.iadd, 1) := by decide +kernel
theorem dX3_join_74 : decode cX3_join 74 = .ok (.putfield 84, 3) := by decide +kernel
theorem dX3_join_77 : decode cX3_join 77 = .ok (.iload_n 3, 1) := by decide +kernel
theorem dX3_join_78 : decode cX3_join 78 = .ok (.ireturn, 1) := by decide +kernel
set_option maxRecDepth 20000 in
theorem ggX3_setLosses_X3_demandReceiver : GoodIn wsX3_setLosses wsX3_demandReceiver := goodIn_ca (goodIn_r _ [6, 7, 8, 9, 15, 16, 17, 18, 19, 20, 21, 22, 23, 24, 25, 26, 27] (by decide +kernel) (by decide +kernel)) (goodIn_sub (fun _ h => List.mem_cons_of_mem _ (List.mem_append_left _ (List.mem_append_right _ h))) (by decide +kernel))
set_option maxRecDepth 20000 in
theorem gX3_setLosses_X3_demandReceiver : GoodIn wsX3_setLosses (wsV RX3 89 RX3 yX3_demandReceiver wsX3_demandReceiver) := goodIn_app (goodIn_of _ (by decide +kernel)) ggX3_setLosses_X3_demandReceiver
set_option maxRecDepth 20000 in
theorem ggX3_setLosses_X3_demandLosses : GoodIn wsX3_setLosses wsX3_demandLosses := goodIn_ca (goodIn_r _ [12, 13, 14] (by decide +kernel) (by decide +kernel)) (goodIn_sub (fun _ h => List.mem_cons_of_mem _ (List.mem_append_right _ h)) (by decide +kernel))
set_option maxRecDepth 20000 in
theorem gX3_setLosses_X3_demandLosses : GoodIn wsX3_setLosses (va_wsS RX3 78 yX3_demandLosses wsX3_demandLosses) := goodIn_app (goodIn_of _ (by decide +kernel)) ggX3_setLosses_X3_demandLosses
theorem dX3_setLosses_0 : decode cX3_setLosses 0 = .ok (.aload_n 0, 1) := by decide +kernel
theorem dX3_setLosses_1 : decode cX3_setLosses 1 = .ok (.iload_n 1, 1) := by decide +kernel
theorem dX3_setLosses_2 : decode cX3_setLosses 2 = .ok (.invokevirtual 89, 3) := by decide +kernel
theorem dX3_setLosses_5 : decode cX3_setLosses 5 = .ok (.iload_n 2, 1) := by decide +kernel
theorem dX3_setLosses_6 : decode cX3_setLosses 6 = .ok (.invokestatic 78, 3) := by decide +kernel
theorem dX3_setLosses_9 : decode cX3_setLosses 9 = .ok (.aload_n 0, 1) := by decide +kernel
theorem dX3_setLosses_10 : decode cX3_setLosses 10 = .ok (.getfield 16, 3) := by decide +kernel
theorem dX3_setLosses_13 : decode cX3_setLosses 13 = .ok (.iload_n 1, 1) := by decide +kernel
theorem dX3_setLosses_14 : decode cX3_setLosses 14 = .ok (.iaload, 1) := by decide +kernel
theorem dX3_setLosses_15 : decode cX3_setLosses 15 = .ok (.istore_n 3, 1) := by decide +kernel
theorem dX3_setLosses_16 : decode cX3_setLosses 16 = .ok (.aload_n 0, 1) := by decide +kernel
theorem dX3_setLosses_17 : decode cX3_setLosses 17 = .ok (.getfield 16, 3) := by decide +kernel
theorem dX3_setLosses_20 : decode cX3_setLosses 20 = .ok (.iload_n 1, 1) := by decide +kernel
theorem dX3_setLosses_21 : decode cX3_setLosses 21 = .ok (.iload_n 2, 1) := by decide +kernel
theorem dX3_setLosses_22 : decode cX3_setLosses 22 = .ok (.iastore, 1) := by decide +kernel
theorem dX3_setLosses_23 : decode cX3_setLosses 23 = .ok (.iload_n 3, 1) := by decide +kernel
theorem dX3_setLosses_24 : decode cX3_setLosses 24 = .ok (.ireturn, 1) := by decide +kernel
set_option maxRecDepth 20000 in
theorem ggX3_setWait_X3_demandReceiver : GoodIn wsX3_setWait wsX3_demandReceiver := goodIn_ca (goodIn_r _ [6, 7, 8, 9, 15, 16, 17, 18, 19, 20, 21, 22, 23, 24, 25, 26, 27] (by decide +kernel) (by decide +kernel)) (goodIn_sub (fun _ h => List.mem_cons_of_mem _ (List.mem_append_left _ (List.mem_append_right _ h))) (by decide +kernel))
set_option maxRecDepth 20000 in
theorem gX3_setWait_X3_demandReceiver : GoodIn wsX3_setWait (wsV RX3 89 RX3 yX3_demandReceiver wsX3_demandReceiver) := goodIn_app (goodIn_of _ (by decide +kernel)) ggX3_setWait_X3_demandReceiver
set_option maxRecDepth 20000 in
theorem ggX3_setWait_X3_demandWait : GoodIn wsX3_setWait wsX3_demandWait := goodIn_ca (goodIn_r _ [12, 13, 14] (by decide +kernel) (by decide +kernel)) (goodIn_sub (fun _ h => List.mem_cons_of_mem _ (List.mem_append_right _ h)) (by decide +kernel))
set_option maxRecDepth 20000 in
theorem gX3_setWait_X3_demandWait : GoodIn wsX3_setWait (va_wsS RX3 81 yX3_demandWait wsX3_demandWait) := goodIn_app (goodIn_of _ (by decide +kernel)) ggX3_setWait_X3_demandWait
theorem dX3_setWait_0 : decode cX3_setWait 0 = .ok (.aload_n 0, 1) := by decide +kernel
theorem dX3_setWait_1 : decode cX3_setWait 1 = .ok (.iload_n 1, 1) := by decide +kernel
theorem dX3_setWait_2 : decode cX3_setWait 2 = .ok (.invokevirtual 89, 3) := by decide +kernel
theorem dX3_setWait_5 : decode cX3_setWait 5 = .ok (.iload_n 2, 1) := by decide +kernel
theorem dX3_setWait_6 : decode cX3_setWait 6 = .ok (.invokestatic 81, 3) := by decide +kernel
theorem dX3_setWait_9 : decode cX3_setWait 9 = .ok (.aload_n 0, 1) := by decide +kernel
theorem dX3_setWait_10 : decode cX3_setWait 10 = .ok (.getfield 20, 3) := by decide +kernel
theorem dX3_setWait_13 : decode cX3_setWait 13 = .ok (.iload_n 1, 1) := by decide +kernel
theorem dX3_setWait_14 : decode cX3_setWait 14 = .ok (.iaload, 1) := by decide +kernel
theorem dX3_setWait_15 : decode cX3_setWait 15 = .ok (.istore_n 3, 1) := by decide +kernel
theorem dX3_setWait_16 : decode cX3_setWait 16 = .ok (.aload_n 0, 1) := by decide +kernel
theorem dX3_setWait_17 : decode cX3_setWait 17 = .ok (.getfield 20, 3) := by decide +kernel
theorem dX3_setWait_20 : decode cX3_setWait 20 = .ok (.iload_n 1, 1) := by decide +kernel
theorem dX3_setWait_21 : decode cX3_setWait 21 = .ok (.iload_n 2, 1) := by decide +kernel
theorem dX3_setWait_22 : decode cX3_setWait 22 = .ok (.iastore, 1) := by decide +kernel
theorem dX3_setWait_23 : decode cX3_setWait 23 = .ok (.iload_n 3, 1) := by decide +kernel
theorem dX3_setWait_24 : decode cX3_setWait 24 = .ok (.ireturn, 1) := by decide +kernel
set_option maxRecDepth 20000 in
theorem ggX3_send_X3_sendPackets : GoodIn wsX3_send wsX3_sendPackets := goodIn_r _ [10, 11, 12, 13, 9, 14, 5, 15, 16, 17, 18, 39, 40, 41, 42, 43, 44, 45, 46, 47, 48, 49, 50, 51] (by decide +kernel) (by decide +kernel)
set_option maxRecDepth 20000 in
theorem gX3_send_X3_sendPackets : GoodIn wsX3_send (wsV RX3 96 RX3 yX3_sendPackets wsX3_sendPackets) := goodIn_app (goodIn_of _ (by decide +kernel)) ggX3_send_X3_sendPackets
set_option maxRecDepth 20000 in
theorem ggX3_send_X3_completeCount : GoodIn wsX3_send wsX3_completeCount := goodIn_r _ [22, 15, 16, 23, 24, 25, 9, 26, 27, 18, 28, 29, 30, 31, 32, 33, 34, 35, 36, 37, 38, 39, 40, 41, 42, 43, 44, 45, 46, 47, 48, 49, 50, 51, 52, 53, 54] (by decide +kernel) (by decide +kernel)
set_option maxRecDepth 20000 in
theorem gX3_send_X3_completeCount : GoodIn wsX3_send (wsV RX3 99 RX3 yX3_completeCount wsX3_completeCount) := goodIn_app (goodIn_of _ (by decide +kernel)) ggX3_send_X3_completeCount
theorem dX3_send_0 : decode cX3_send 0 = .ok (.iload_n 1, 1) := by decide +kernel
theorem dX3_send_1 : decode cX3_send 1 = .ok (.iconst 1, 1) := by decide +kernel
theorem dX3_send_2 : decode cX3_send 2 = .ok (.if_icmp .lt 9, 3) := by decide +kernel
theorem dX3_send_5 : decode cX3_send 5 = .ok (.iload_n 1, 1) := by decide +kernel
theorem dX3_send_6 : decode cX3_send 6 = .ok (.bipush 16, 2) := by decide +kernel
theorem dX3_send_8 : decode cX3_send 8 = .ok (.if_icmp .le 13, 3) := by decide +kernel
theorem dX3_send_11 : decode cX3_send 11 = .ok (.new 47, 3) := by decide +kernel
theorem dX3_send_14 : decode cX3_send 14 = .ok (.dup, 1) := by decide +kernel
theorem dX3_send_15 : decode cX3_send 15 = .ok (.ldc 92, 2) := by decide +kernel
theorem dX3_send_17 : decode cX3_send 17 = .ok (.invokespecial 51, 3) := by decide +kernel
theorem dX3_send_20 : decode cX3_send 20 = .ok (.athrow, 1) := by decide +kernel
theorem dX3_send_21 : decode cX3_send 21 = .ok (.aload_n 0, 1) := by decide +kernel
theorem dX3_send_22 : decode cX3_send 22 = .ok (.getfield 56, 3) := by decide +kernel
theorem dX3_send_25 : decode cX3_send 25 = .ok (.iload_n 1, 1) := by decide +kernel
theorem dX3_send_26 : decode cX3_send 26 = .ok (.iadd, 1) := by decide +kernel
theorem dX3_send_27 : decode cX3_send 27 = .ok (.sipush 10000, 3) := by decide +kernel
theorem dX3_send_30 : decode cX3_send 30 = .ok (.if_icmp .le 13, 3) := by decide +kernel
theorem dX3_send_33 : decode cX3_send 33 = .ok (.new 70, 3) := by decide +kernel
theorem dX3_send_36 : decode cX3_send 36 = .ok (.dup, 1) := by decide +kernel
theorem dX3_send_37 : decode cX3_send 37 = .ok (.ldc 94, 2) := by decide +kernel
theorem dX3_send_39 : decode cX3_send 39 = .ok (.invokespecial 74, 3) := by decide +kernel
theorem dX3_send_42 : decode cX3_send 42 = .ok (.athrow, 1) := by decide +kernel
theorem dX3_send_43 : decode cX3_send 43 = .ok (.aload_n 0, 1) := by decide +kernel
theorem dX3_send_44 : decode cX3_send 44 = .ok (.iload_n 1, 1) := by decide +kernel
theorem dX3_send_45 : decode cX3_send 45 = .ok (.invokevirtual 96, 3) := by decide +kernel
theorem dX3_send_48 : decode cX3_send 48 = .ok (.aload_n 0, 1) := by decide +kernel
theorem dX3_send_49 : decode cX3_send 49 = .ok (.invokevirtual 99, 3) := by decide +kernel
theorem dX3_send_52 : decode cX3_send 52 = .ok (.ireturn, 1) := by decide +kernel
set_option maxRecDepth 20000 in
theorem ggX3_round_X3_hearReports : GoodIn wsX3_round wsX3_hearReports := goodIn_r _ [8, 9, 10, 11, 7, 12, 13, 14, 15, 16, 17, 18, 19, 20, 21, 22, 23, 24, 25, 26, 27, 28, 29, 30, 31, 32, 33, 34, 35, 36, 37, 38, 54, 55, 56, 57, 58, 59, 60, 61, 62, 63, 64, 65, 66, 67, 68, 69] (by decide +kernel) (by decide +kernel)
set_option maxRecDepth 20000 in
theorem gX3_round_X3_hearReports : GoodIn wsX3_round (wsV RX3 105 RX3 yX3_hearReports wsX3_hearReports) := goodIn_app (goodIn_of _ (by decide +kernel)) ggX3_round_X3_hearReports
set_option maxRecDepth 20000 in
theorem ggX3_round_X3_sendPackets : GoodIn wsX3_round wsX3_sendPackets := goodIn_r _ [42, 43, 44, 45, 7, 46, 3, 13, 25, 47, 31, 54, 55, 56, 57, 58, 59, 60, 61, 62, 63, 64, 65, 66] (by decide +kernel) (by decide +kernel)
set_option maxRecDepth 20000 in
theorem gX3_round_X3_sendPackets : GoodIn wsX3_round (wsV RX3 96 RX3 yX3_sendPackets wsX3_sendPackets) := goodIn_app (goodIn_of _ (by decide +kernel)) ggX3_round_X3_sendPackets
set_option maxRecDepth 20000 in
theorem ggX3_round_X3_countBadRounds : GoodIn wsX3_round wsX3_countBadRounds := goodIn_r _ [51, 13, 52, 25, 53, 21, 22, 23, 7, 24, 26, 27, 28, 29, 30, 31, 16, 17, 18, 19, 32, 33, 34, 35, 36, 37, 38, 54, 55, 56, 57, 58, 59, 60, 61, 62, 63, 64, 65, 66, 67, 68, 69] (by decide +kernel) (by decide +kernel)
set_option maxRecDepth 20000 in
theorem gX3_round_X3_countBadRounds : GoodIn wsX3_round (wsV RX3 108 RX3 yX3_countBadRounds wsX3_countBadRounds) := goodIn_app (goodIn_of _ (by decide +kernel)) ggX3_round_X3_countBadRounds
theorem dX3_round_0 : decode cX3_round 0 = .ok (.aload_n 0, 1) := by decide +kernel
theorem dX3_round_1 : decode cX3_round 1 = .ok (.getfield 56, 3) := by decide +kernel
theorem dX3_round_4 : decode cX3_round 4 = .ok (.sipush 9992, 3) := by decide +kernel
theorem dX3_round_7 : decode cX3_round 7 = .ok (.if_icmp .le 13, 3) := by decide +kernel
theorem dX3_round_10 : decode cX3_round 10 = .ok (.new 70, 3) := by decide +kernel
theorem dX3_round_13 : decode cX3_round 13 = .ok (.dup, 1) := by decide +kernel
theorem dX3_round_14 : decode cX3_round 14 = .ok (.ldc 103, 2) := by decide +kernel
theorem dX3_round_16 : decode cX3_round 16 = .ok (.invokespecial 74, 3) := by decide +kernel
theorem dX3_round_19 : decode cX3_round 19 = .ok (.athrow, 1) := by decide +kernel
theorem dX3_round_20 : decode cX3_round 20 = .ok (.aload_n 0, 1) := by decide +kernel
theorem dX3_round_21 : decode cX3_round 21 = .ok (.invokevirtual 105, 3) := by decide +kernel
theorem dX3_round_24 : decode cX3_round 24 = .ok (.istore_n 1, 1) := by decide +kernel
theorem dX3_round_25 : decode cX3_round 25 = .ok (.aload_n 0, 1) := by decide +kernel
theorem dX3_round_26 : decode cX3_round 26 = .ok (.iload_n 1, 1) := by decide +kernel
theorem dX3_round_27 : decode cX3_round 27 = .ok (.invokevirtual 96, 3) := by decide +kernel
theorem dX3_round_30 : decode cX3_round 30 = .ok (.aload_n 0, 1) := by decide +kernel
theorem dX3_round_31 : decode cX3_round 31 = .ok (.invokevirtual 108, 3) := by decide +kernel
theorem dX3_round_34 : decode cX3_round 34 = .ok (.iload_n 1, 1) := by decide +kernel
theorem dX3_round_35 : decode cX3_round 35 = .ok (.ireturn, 1) := by decide +kernel
theorem dX3_sent_0 : decode cX3_sent 0 = .ok (.aload_n 0, 1) := by decide +kernel
theorem dX3_sent_1 : decode cX3_sent 1 = .ok (.getfield 56, 3) := by decide +kernel
theorem dX3_sent_4 : decode cX3_sent 4 = .ok (.ireturn, 1) := by decide +kernel
theorem dX3_receivers_0 : decode cX3_receivers 0 = .ok (.aload_n 0, 1) := by decide +kernel
theorem dX3_receivers_1 : decode cX3_receivers 1 = .ok (.getfield 84, 3) := by decide +kernel
theorem dX3_receivers_4 : decode cX3_receivers 4 = .ok (.ireturn, 1) := by decide +kernel
theorem dX3_reports_0 : decode cX3_reports 0 = .ok (.aload_n 0, 1) := by decide +kernel
theorem dX3_reports_1 : decode cX3_reports 1 = .ok (.getfield 111, 3) := by decide +kernel
theorem dX3_reports_4 : decode cX3_reports 4 = .ok (.ireturn, 1) := by decide +kernel
theorem dX3_keptBack_0 : decode cX3_keptBack 0 = .ok (.aload_n 0, 1) := by decide +kernel
theorem dX3_keptBack_1 : decode cX3_keptBack 1 = .ok (.getfield 114, 3) := by decide +kernel
theorem dX3_keptBack_4 : decode cX3_keptBack 4 = .ok (.ireturn, 1) := by decide +kernel
set_option maxRecDepth 20000 in
theorem ggX3_has_X3_demandReceiver : GoodIn wsX3_has wsX3_demandReceiver := goodIn_ca (goodIn_r _ [6, 7, 8, 9, 10, 11, 12, 13, 14, 15, 16, 17, 18, 19, 20, 21, 22] (by decide +kernel) (by decide +kernel)) (goodIn_sub (fun _ h => List.mem_cons_of_mem _ (List.mem_append_right _ h)) (by decide +kernel))
set_option maxRecDepth 20000 in
theorem gX3_has_X3_demandReceiver : GoodIn wsX3_has (wsV RX3 89 RX3 yX3_demandReceiver wsX3_demandReceiver) := goodIn_app (goodIn_of _ (by decide +kernel)) ggX3_has_X3_demandReceiver
theorem dX3_has_0 : decode cX3_has 0 = .ok (.aload_n 0, 1) := by decide +kernel
theorem dX3_has_1 : decode cX3_has 1 = .ok (.iload_n 1, 1) := by decide +kernel
theorem dX3_has_2 : decode cX3_has 2 = .ok (.invokevirtual 89, 3) := by decide +kernel
theorem dX3_has_5 : decode cX3_has 5 = .ok (.aload_n 0, 1) := by decide +kernel
theorem dX3_has_6 : decode cX3_has 6 = .ok (.getfield 23, 3) := by decide +kernel
theorem dX3_has_9 : decode cX3_has 9 = .ok (.iload_n 1, 1) := by decide +kernel
theorem dX3_has_10 : decode cX3_has 10 = .ok (.iaload, 1) := by decide +kernel
theorem dX3_has_11 : decode cX3_has 11 = .ok (.ireturn, 1) := by decide +kernel
set_option maxRecDepth 20000 in
theorem ggX3_need_X3_demandReceiver : GoodIn wsX3_need wsX3_demandReceiver := goodIn_ca (goodIn_r _ [5, 6, 7, 8, 26, 27, 28, 29, 30, 31, 32, 33, 34, 35, 36, 37, 38] (by decide +kernel) (by decide +kernel)) (goodIn_sub (fun _ h => List.mem_cons_of_mem _ (List.mem_append_right _ h)) (by decide +kernel))
set_option maxRecDepth 20000 in
theorem gX3_need_X3_demandReceiver : GoodIn wsX3_need (wsV RX3 89 RX3 yX3_demandReceiver wsX3_demandReceiver) := goodIn_app (goodIn_of _ (by decide +kernel)) ggX3_need_X3_demandReceiver
set_option maxRecDepth 20000 in
theorem ggX3_need_X3_needOf : GoodIn wsX3_need wsX3_needOf := goodIn_r _ [12, 13, 14, 15, 16, 17, 18, 19, 20, 21, 22, 23, 24, 25, 26, 27, 28, 29, 30, 31, 32, 33, 34, 35, 36, 37, 38, 39, 40, 41] (by decide +kernel) (by decide +kernel)
set_option maxRecDepth 20000 in
theorem gX3_need_X3_needOf : GoodIn wsX3_need (wsV RX3 117 RX3 yX3_needOf wsX3_needOf) := goodIn_app (goodIn_of _ (by decide +kernel)) ggX3_need_X3_needOf
theorem dX3_need_0 : decode cX3_need 0 = .ok (.aload_n 0, 1) := by decide +kernel
theorem dX3_need_1 : decode cX3_need 1 = .ok (.iload_n 1, 1) := by decide +kernel
theorem dX3_need_2 : decode cX3_need 2 = .ok (.invokevirtual 89, 3) := by decide +kernel
theorem dX3_need_5 : decode cX3_need 5 = .ok (.aload_n 0, 1) := by decide +kernel
theorem dX3_need_6 : decode cX3_need 6 = .ok (.iload_n 1, 1) := by decide +kernel
theorem dX3_need_7 : decode cX3_need 7 = .ok (.invokevirtual 117, 3) := by decide +kernel
theorem dX3_need_10 : decode cX3_need 10 = .ok (.ireturn, 1) := by decide +kernel
set_option maxRecDepth 20000 in
theorem ggX3_isDropped_X3_demandReceiver : GoodIn wsX3_isDropped wsX3_demandReceiver := goodIn_ca (goodIn_r _ [6, 7, 8, 9, 10, 11, 12, 13, 14, 15, 16, 17, 18, 19, 20, 21, 22] (by decide +kernel) (by decide +kernel)) (goodIn_sub (fun _ h => List.mem_cons_of_mem _ (List.mem_append_right _ h)) (by decide +kernel))
set_option maxRecDepth 20000 in
theorem gX3_isDropped_X3_demandReceiver : GoodIn wsX3_isDropped (wsV RX3 89 RX3 yX3_demandReceiver wsX3_demandReceiver) := goodIn_app (goodIn_of _ (by decide +kernel)) ggX3_isDropped_X3_demandReceiver
theorem dX3_isDropped_0 : decode cX3_isDropped 0 = .ok (.aload_n 0, 1) := by decide +kernel
theorem dX3_isDropped_1 : decode cX3_isDropped 1 = .ok (.iload_n 1, 1) := by decide +kernel
theorem dX3_isDropped_2 : decode cX3_isDropped 2 = .ok (.invokevirtual 89, 3) := by decide +kernel
theorem dX3_isDropped_5 : decode cX3_isDropped 5 = .ok (.aload_n 0, 1) := by decide +kernel
theorem dX3_isDropped_6 : decode cX3_isDropped 6 = .ok (.getfield 29, 3) := by decide +kernel
theorem dX3_isDropped_9 : decode cX3_isDropped 9 = .ok (.iload_n 1, 1) := by decide +kernel
theorem dX3_isDropped_10 : decode cX3_isDropped 10 = .ok (.baload, 1) := by decide +kernel
theorem dX3_isDropped_11 : decode cX3_isDropped 11 = .ok (.ireturn, 1) := by decide +kernel
set_option maxRecDepth 20000 in
theorem ggX3_badRounds_X3_demandReceiver : GoodIn wsX3_badRounds wsX3_demandReceiver := goodIn_ca (goodIn_r _ [6, 7, 8, 9, 10, 11, 12, 13, 14, 15, 16, 17, 18, 19, 20, 21, 22] (by decide +kernel) (by decide +kernel)) (goodIn_sub (fun _ h => List.mem_cons_of_mem _ (List.mem_append_right _ h)) (by decide +kernel))
set_option maxRecDepth 20000 in
theorem gX3_badRounds_X3_demandReceiver : GoodIn wsX3_badRounds (wsV RX3 89 RX3 yX3_demandReceiver wsX3_demandReceiver) := goodIn_app (goodIn_of _ (by decide +kernel)) ggX3_badRounds_X3_demandReceiver
theorem dX3_badRounds_0 : decode cX3_badRounds 0 = .ok (.aload_n 0, 1) := by decide +kernel
theorem dX3_badRounds_1 : decode cX3_badRounds 1 = .ok (.iload_n 1, 1) := by decide +kernel
theorem dX3_badRounds_2 : decode cX3_badRounds 2 = .ok (.invokevirtual 89, 3) := by decide +kernel
theorem dX3_badRounds_5 : decode cX3_badRounds 5 = .ok (.aload_n 0, 1) := by decide +kernel
theorem dX3_badRounds_6 : decode cX3_badRounds 6 = .ok (.getfield 26, 3) := by decide +kernel
theorem dX3_badRounds_9 : decode cX3_badRounds 9 = .ok (.iload_n 1, 1) := by decide +kernel
theorem dX3_badRounds_10 : decode cX3_badRounds 10 = .ok (.iaload, 1) := by decide +kernel
theorem dX3_badRounds_11 : decode cX3_badRounds 11 = .ok (.ireturn, 1) := by decide +kernel
set_option maxRecDepth 20000 in
theorem ggX3_times_X3_isFieldNumber : GoodIn wsX3_times wsX3_isFieldNumber := goodIn_r _ [6] (by decide +kernel) (by decide +kernel)
set_option maxRecDepth 20000 in
theorem gX3_times_X3_isFieldNumber : GoodIn wsX3_times (va_wsS RX3 64 yX3_isFieldNumber wsX3_isFieldNumber) := goodIn_app (goodIn_of _ (by decide +kernel)) ggX3_times_X3_isFieldNumber
set_option maxRecDepth 20000 in
theorem ggX3_times_X1_product : GoodIn wsX3_times wsX1_product := goodIn_r _ [9] (by decide +kernel) (by decide +kernel)
set_option maxRecDepth 20000 in
theorem gX3_times_X1_product_n123 : GoodIn wsX3_times (wsX1_product) := ggX3_times_X1_product
theorem dX3_times_0 : decode cX3_times 0 = .ok (.iload_n 1, 1) := by decide +kernel
theorem dX3_times_1 : decode cX3_times 1 = .ok (.invokestatic 64, 3) := by decide +kernel
theorem dX3_times_4 : decode cX3_times 4 = .ok (.ifCond .eq 10, 3) := by decide +kernel
theorem dX3_times_7 : decode cX3_times 7 = .ok (.iload_n 2, 1) := by decide +kernel
theorem dX3_times_8 : decode cX3_times 8 = .ok (.invokestatic 64, 3) := by decide +kernel
theorem dX3_times_11 : decode cX3_times 11 = .ok (.ifCond .ne 13, 3) := by decide +kernel
theorem dX3_times_14 : decode cX3_times 14 = .ok (.new 47, 3) := by decide +kernel
theorem dX3_times_17 : decode cX3_times 17 = .ok (.dup, 1) := by decide +kernel
theorem dX3_times_18 : decode cX3_times 18 = .ok (.ldc 121, 2) := by decide +kernel
theorem dX3_times_20 : decode cX3_times 20 = .ok (.invokespecial 51, 3) := by decide +kernel
theorem dX3_times_23 : decode cX3_times 23 = .ok (.athrow, 1) := by decide +kernel
theorem dX3_times_24 : decode cX3_times 24 = .ok (.iload_n 1, 1) := by decide +kernel
theorem dX3_times_25 : decode cX3_times 25 = .ok (.iload_n 2, 1) := by decide +kernel
theorem dX3_times_26 : decode cX3_times 26 = .ok (.invokestatic 123, 3) := by decide +kernel
theorem dX3_times_29 : decode cX3_times 29 = .ok (.ireturn, 1) := by decide +kernel
set_option maxRecDepth 20000 in
theorem ggX3_packet_X2_polynomialAt : GoodIn wsX3_packet wsX2_polynomialAt := goodIn_r _ [7, 8, 9, 10, 11, 12, 5, 13, 14, 15, 16, 17, 18, 19, 20, 34, 35, 36] (by decide +kernel) (by decide +kernel)
set_option maxRecDepth 20000 in
theorem gX3_packet_X2_polynomialAt_n134 : GoodIn wsX3_packet (wsX2_polynomialAt) := ggX3_packet_X2_polynomialAt
theorem dX3_packet_0 : decode cX3_packet 0 = .ok (.iload_n 1, 1) := by decide +kernel
theorem dX3_packet_1 : decode cX3_packet 1 = .ok (.ifCond .lt 9, 3) := by decide +kernel
theorem dX3_packet_4 : decode cX3_packet 4 = .ok (.iload_n 1, 1) := by decide +kernel
theorem dX3_packet_5 : decode cX3_packet 5 = .ok (.bipush 16, 2) := by decide +kernel
theorem dX3_packet_7 : decode cX3_packet 7 = .ok (.if_icmp .lt 13, 3) := by decide +kernel
theorem dX3_packet_10 : decode cX3_packet 10 = .ok (.new 129, 3) := by decide +kernel
theorem dX3_packet_13 : decode cX3_packet 13 = .ok (.dup, 1) := by decide +kernel
theorem dX3_packet_14 : decode cX3_packet 14 = .ok (.ldc 131, 2) := by decide +kernel
theorem dX3_packet_16 : decode cX3_packet 16 = .ok (.invokespecial 133, 3) := by decide +kernel
theorem dX3_packet_19 : decode cX3_packet 19 = .ok (.athrow, 1) := by decide +kernel
theorem dX3_packet_20 : decode cX3_packet 20 = .ok (.aload_n 0, 1) := by decide +kernel
theorem dX3_packet_21 : decode cX3_packet 21 = .ok (.getfield 10, 3) := by decide +kernel
theorem dX3_packet_24 : decode cX3_packet 24 = .ok (.iload_n 1, 1) := by decide +kernel
theorem dX3_packet_25 : decode cX3_packet 25 = .ok (.invokevirtual 134, 3) := by decide +kernel
theorem dX3_packet_28 : decode cX3_packet 28 = .ok (.ireturn, 1) := by decide +kernel
set_option maxRecDepth 20000 in
theorem ggX3_rebuilt_X3_demandRebuilding : GoodIn wsX3_rebuilt wsX3_demandRebuilding := goodIn_ca (goodIn_ca (goodIn_r _ [7, 8, 9, 10, 11, 12, 6, 13, 14, 15, 16, 17, 18, 19, 20, 21, 22, 23, 24, 25, 1, 26, 27, 28, 29, 30, 31, 32, 33, 34, 35, 36, 68, 69, 70, 71, 72, 73, 74, 75, 76, 77, 78, 79, 80, 81, 82, 83] (by decide +kernel) (by decide +kernel)) (goodIn_sub (fun _ h => List.mem_cons_of_mem _ (List.mem_append_left _ (List.mem_append_right _ h))) (by decide +kernel))) (goodIn_sub (fun _ h => List.mem_cons_of_mem _ (List.mem_append_right _ h)) (by decide +kernel))
set_option maxRecDepth 20000 in
theorem gX3_rebuilt_X3_demandRebuilding : GoodIn wsX3_rebuilt (wsV RX3 137 RX3 yX3_demandRebuilding wsX3_demandRebuilding) := goodIn_app (goodIn_of _ (by decide +kernel)) ggX3_rebuilt_X3_demandRebuilding
set_option maxRecDepth 20000 in
theorem ggX3_rebuilt_X3_chooseLowest : GoodIn wsX3_rebuilt wsX3_chooseLowest := goodIn_r _ [40, 2, 41, 42, 43, 44, 45, 46, 47, 48, 6, 49, 21, 50, 51, 52, 53, 54, 55, 56, 57, 58, 59, 60, 61, 62, 63, 64, 65, 66, 67, 68, 69, 70, 71, 72, 73, 74, 75, 76, 77, 78, 79, 80, 81, 82, 83] (by decide +kernel) (by decide +kernel)
set_option maxRecDepth 20000 in
theorem gX3_rebuilt_X3_chooseLowest : GoodIn wsX3_rebuilt (wsV RX3 140 RX3 yX3_chooseLowest wsX3_chooseLowest) := goodIn_app (goodIn_of _ (by decide +kernel)) ggX3_rebuilt_X3_chooseLowest
set_option maxRecDepth 20000 in
theorem ggX3_rebuilt_X2_polynomialAt : GoodIn wsX3_rebuilt wsX2_polynomialAt := goodIn_r _ [52, 45, 53, 54, 55, 56, 42, 57, 58, 59, 60, 61, 62, 63, 64, 81, 82, 83] (by decide +kernel) (by decide +kernel)
set_option maxRecDepth 20000 in
theorem gX3_rebuilt_X2_polynomialAt_n134 : GoodIn wsX3_rebuilt (wsX2_polynomialAt) := ggX3_rebuilt_X2_polynomialAt
theorem dX3_rebuilt_0 : decode cX3_rebuilt 0 = .ok (.aload_n 0, 1) := by decide +kernel
theorem dX3_rebuilt_1 : decode cX3_rebuilt 1 = .ok (.iload_n 1, 1) := by decide +kernel
theorem dX3_rebuilt_2 : decode cX3_rebuilt 2 = .ok (.iload_n 2, 1) := by decide +kernel
theorem dX3_rebuilt_3 : decode cX3_rebuilt 3 = .ok (.invokevirtual 137, 3) := by decide +kernel
theorem dX3_rebuilt_6 : decode cX3_rebuilt 6 = .ok (.aload_n 0, 1) := by decide +kernel
theorem dX3_rebuilt_7 : decode cX3_rebuilt 7 = .ok (.aload_n 0, 1) := by decide +kernel
theorem dX3_rebuilt_8 : decode cX3_rebuilt 8 = .ok (.getfield 23, 3) := by decide +kernel
theorem dX3_rebuilt_11 : decode cX3_rebuilt 11 = .ok (.iload_n 1, 1) := by decide +kernel
theorem dX3_rebuilt_12 : decode cX3_rebuilt 12 = .ok (.iaload, 1) := by decide +kernel
theorem dX3_rebuilt_13 : decode cX3_rebuilt 13 = .ok (.invokevirtual 140, 3) := by decide +kernel
theorem dX3_rebuilt_16 : decode cX3_rebuilt 16 = .ok (.aload_n 0, 1) := by decide +kernel
theorem dX3_rebuilt_17 : decode cX3_rebuilt 17 = .ok (.getfield 33, 3) := by decide +kernel
theorem dX3_rebuilt_20 : decode cX3_rebuilt 20 = .ok (.iload_n 2, 1) := by decide +kernel
theorem dX3_rebuilt_21 : decode cX3_rebuilt 21 = .ok (.invokevirtual 134, 3) := by decide +kernel
theorem dX3_rebuilt_24 : decode cX3_rebuilt 24 = .ok (.ireturn, 1) := by decide +kernel
set_option maxRecDepth 20000 in
theorem ggX3_rebuiltByElimination_X3_demandRebuilding : GoodIn wsX3_rebuiltByElimination wsX3_demandRebuilding := goodIn_ca (goodIn_ca (goodIn_r _ [8, 9, 10, 11, 12, 13, 7, 14, 15, 16, 17, 18, 19, 20, 21, 22, 23, 24, 25, 26, 1, 27, 28, 29, 30, 31, 32, 33, 34, 35, 36, 37, 89, 90, 91, 92, 93, 94, 95, 96, 97, 98, 99, 100, 101, 102, 103, 104] (by decide +kernel) (by decide +kernel)) (goodIn_sub (fun _ h => List.mem_cons_of_mem _ (List.mem_append_left _ (List.mem_append_right _ h))) (by decide +kernel))) (goodIn_sub (fun _ h => List.mem_cons_of_mem _ (List.mem_append_right _ h)) (by decide +kernel))
set_option maxRecDepth 20000 in
theorem gX3_rebuiltByElimination_X3_demandRebuilding : GoodIn wsX3_rebuiltByElimination (wsV RX3 137 RX3 yX3_demandRebuilding wsX3_demandRebuilding) := goodIn_app (goodIn_of _ (by decide +kernel)) ggX3_rebuiltByElimination_X3_demandRebuilding
set_option maxRecDepth 20000 in
theorem ggX3_rebuiltByElimination_X3_chooseHighest : GoodIn wsX3_rebuiltByElimination wsX3_chooseHighest := goodIn_r _ [41, 3, 42, 43, 44, 45, 46, 47, 48, 49, 7, 50, 22, 51, 52, 53, 54, 55, 56, 57, 58, 59, 60, 61, 62, 63, 64, 65, 66, 67, 68, 89, 90, 91, 92, 93, 94, 95, 96, 97, 98, 99, 100, 101, 102, 103, 104] (by decide +kernel) (by decide +kernel)
set_option maxRecDepth 20000 in
theorem gX3_rebuiltByElimination_X3_chooseHighest : GoodIn wsX3_rebuiltByElimination (wsV RX3 143 RX3 yX3_chooseHighest wsX3_chooseHighest) := goodIn_app (goodIn_of _ (by decide +kernel)) ggX3_rebuiltByElimination_X3_chooseHighest
set_option maxRecDepth 20000 in
theorem ggX3_rebuiltByElimination_X0_write : GoodIn wsX3_rebuiltByElimination wsX0_write := goodIn_r _ [72, 73, 74, 60, 61, 62, 102, 103, 104, 105, 106] (by decide +kernel) (by decide +kernel)
set_option maxRecDepth 20000 in
theorem gX3_rebuiltByElimination_X0_write_n146 : GoodIn wsX3_rebuiltByElimination (wsX0_write) := ggX3_rebuiltByElimination_X0_write
set_option maxRecDepth 20000 in
theorem ggX3_rebuiltByElimination_X0_solve : GoodIn wsX3_rebuiltByElimination wsX0_solve := goodIn_r _ [77, 73, 74, 63, 61, 64, 65, 60, 62, 78, 79, 80, 70, 81, 82, 83, 84, 85, 105, 106] (by decide +kernel) (by decide +kernel)
set_option maxRecDepth 20000 in
theorem gX3_rebuiltByElimination_X0_solve_n150 : GoodIn wsX3_rebuiltByElimination (wsX0_solve) := ggX3_rebuiltByElimination_X0_solve
set_option maxRecDepth 20000 in
theorem ggX3_rebuiltByElimination_X0_polynomialAt : GoodIn wsX3_rebuiltByElimination wsX0_polynomialAt := goodIn_r _ [88, 73, 74, 60, 61, 62, 105, 106] (by decide +kernel) (by decide +kernel)
set_option maxRecDepth 20000 in
theorem gX3_rebuiltByElimination_X0_polynomialAt_n153 : GoodIn wsX3_rebuiltByElimination (wsX0_polynomialAt) := ggX3_rebuiltByElimination_X0_polynomialAt
theorem dX3_rebuiltByElimination_0 : decode cX3_rebuiltByElimination 0 = .ok (.aload_n 0, 1) := by decide +kernel
theorem dX3_rebuiltByElimination_1 : decode cX3_rebuiltByElimination 1 = .ok (.iload_n 1, 1) := by decide +kernel
theorem dX3_rebuiltByElimination_2 : decode cX3_rebuiltByElimination 2 = .ok (.iload_n 2, 1) := by decide +kernel
theorem dX3_rebuiltByElimination_3 : decode cX3_rebuiltByElimination 3 = .ok (.invokevirtual 137, 3) := by decide +kernel
theorem dX3_rebuiltByElimination_6 : decode cX3_rebuiltByElimination 6 = .ok (.aload_n 0, 1) := by decide +kernel
theorem dX3_rebuiltByElimination_7 : decode cX3_rebuiltByElimination 7 = .ok (.aload_n 0, 1) := by decide +kernel
theorem dX3_rebuiltByElimination_8 : decode cX3_rebuiltByElimination 8 = .ok (.getfield 23, 3) := by decide +kernel
theorem dX3_rebuiltByElimination_11 : decode cX3_rebuiltByElimination 11 = .ok (.iload_n 1, 1) := by decide +kernel
theorem dX3_rebuiltByElimination_12 : decode cX3_rebuiltByElimination 12 = .ok (.iaload, 1) := by decide +kernel
theorem dX3_rebuiltByElimination_13 : decode cX3_rebuiltByElimination 13 = .ok (.invokevirtual 143, 3) := by decide +kernel
theorem dX3_rebuiltByElimination_16 : decode cX3_rebuiltByElimination 16 = .ok (.aload_n 0, 1) := by decide +kernel
theorem dX3_rebuiltByElimination_17 : decode cX3_rebuiltByElimination 17 = .ok (.getfield 39, 3) := by decide +kernel
theorem dX3_rebuiltByElimination_20 : decode cX3_rebuiltByElimination 20 = .ok (.aload_n 0, 1) := by decide +kernel
theorem dX3_rebuiltByElimination_21 : decode cX3_rebuiltByElimination 21 = .ok (.getfield 33, 3) := by decide +kernel
theorem dX3_rebuiltByElimination_24 : decode cX3_rebuiltByElimination 24 = .ok (.invokevirtual 146, 3) := by decide +kernel
theorem dX3_rebuiltByElimination_27 : decode cX3_rebuiltByElimination 27 = .ok (.aload_n 0, 1) := by decide +kernel
theorem dX3_rebuiltByElimination_28 : decode cX3_rebuiltByElimination 28 = .ok (.getfield 39, 3) := by decide +kernel
theorem dX3_rebuiltByElimination_31 : decode cX3_rebuiltByElimination 31 = .ok (.invokevirtual 150, 3) := by decide +kernel
theorem dX3_rebuiltByElimination_34 : decode cX3_rebuiltByElimination 34 = .ok (.aload_n 0, 1) := by decide +kernel
theorem dX3_rebuiltByElimination_35 : decode cX3_rebuiltByElimination 35 = .ok (.getfield 39, 3) := by decide +kernel
theorem dX3_rebuiltByElimination_38 : decode cX3_rebuiltByElimination 38 = .ok (.iload_n 2, 1) := by decide +kernel
theorem dX3_rebuiltByElimination_39 : decode cX3_rebuiltByElimination 39 = .ok (.invokevirtual 153, 3) := by decide +kernel
theorem dX3_rebuiltByElimination_42 : decode cX3_rebuiltByElimination 42 = .ok (.ireturn, 1) := by decide +kernel
theorem dX3_isFieldNumber_0 : decode cX3_isFieldNumber 0 = .ok (.iload_n 0, 1) := by decide +kernel
theorem dX3_isFieldNumber_1 : decode cX3_isFieldNumber 1 = .ok (.ifCond .lt 14, 3) := by decide +kernel
theorem dX3_isFieldNumber_4 : decode cX3_isFieldNumber 4 = .ok (.iload_n 0, 1) := by decide +kernel
theorem dX3_isFieldNumber_5 : decode cX3_isFieldNumber 5 = .ok (.sipush 255, 3) := by decide +kernel
theorem dX3_isFieldNumber_8 : decode cX3_isFieldNumber 8 = .ok (.if_icmp .gt 7, 3) := by decide +kernel
theorem dX3_isFieldNumber_11 : decode cX3_isFieldNumber 11 = .ok (.iconst 1, 1) := by decide +kernel
theorem dX3_isFieldNumber_12 : decode cX3_isFieldNumber 12 = .ok (.goto 4, 3) := by decide +kernel
theorem dX3_isFieldNumber_15 : decode cX3_isFieldNumber 15 = .ok (.iconst 0, 1) := by decide +kernel
theorem dX3_isFieldNumber_16 : decode cX3_isFieldNumber 16 = .ok (.ireturn, 1) := by decide +kernel
theorem dX3_demandLosses_0 : decode cX3_demandLosses 0 = .ok (.iload_n 0, 1) := by decide +kernel
theorem dX3_demandLosses_1 : decode cX3_demandLosses 1 = .ok (.ifCond .lt 10, 3) := by decide +kernel
theorem dX3_demandLosses_4 : decode cX3_demandLosses 4 = .ok (.iload_n 0, 1) := by decide +kernel
theorem dX3_demandLosses_5 : decode cX3_demandLosses 5 = .ok (.sipush 2047, 3) := by decide +kernel
theorem dX3_demandLosses_8 : decode cX3_demandLosses 8 = .ok (.if_icmp .le 13, 3) := by decide +kernel
theorem dX3_demandLosses_11 : decode cX3_demandLosses 11 = .ok (.new 47, 3) := by decide +kernel
theorem dX3_demandLosses_14 : decode cX3_demandLosses 14 = .ok (.dup, 1) := by decide +kernel
theorem dX3_demandLosses_15 : decode cX3_demandLosses 15 = .ok (.ldc 154, 2) := by decide +kernel
theorem dX3_demandLosses_17 : decode cX3_demandLosses 17 = .ok (.invokespecial 51, 3) := by decide +kernel
theorem dX3_demandLosses_20 : decode cX3_demandLosses 20 = .ok (.athrow, 1) := by decide +kernel
theorem dX3_demandLosses_21 : decode cX3_demandLosses 21 = .ok (.return_, 1) := by decide +kernel
theorem dX3_demandWait_0 : decode cX3_demandWait 0 = .ok (.iload_n 0, 1) := by decide +kernel
theorem dX3_demandWait_1 : decode cX3_demandWait 1 = .ok (.ifCond .lt 9, 3) := by decide +kernel
theorem dX3_demandWait_4 : decode cX3_demandWait 4 = .ok (.iload_n 0, 1) := by decide +kernel
theorem dX3_demandWait_5 : decode cX3_demandWait 5 = .ok (.bipush 20, 2) := by decide +kernel
theorem dX3_demandWait_7 : decode cX3_demandWait 7 = .ok (.if_icmp .le 13, 3) := by decide +kernel
theorem dX3_demandWait_10 : decode cX3_demandWait 10 = .ok (.new 47, 3) := by decide +kernel
theorem dX3_demandWait_13 : decode cX3_demandWait 13 = .ok (.dup, 1) := by decide +kernel
theorem dX3_demandWait_14 : decode cX3_demandWait 14 = .ok (.ldc 156, 2) := by decide +kernel
theorem dX3_demandWait_16 : decode cX3_demandWait 16 = .ok (.invokespecial 51, 3) := by decide +kernel
theorem dX3_demandWait_19 : decode cX3_demandWait 19 = .ok (.athrow, 1) := by decide +kernel
theorem dX3_demandWait_20 : decode cX3_demandWait 20 = .ok (.return_, 1) := by decide +kernel
theorem dX3_demandReceiver_0 : decode cX3_demandReceiver 0 = .ok (.iload_n 1, 1) := by decide +kernel
theorem dX3_demandReceiver_1 : decode cX3_demandReceiver 1 = .ok (.ifCond .lt 11, 3) := by decide +kernel
theorem dX3_demandReceiver_4 : decode cX3_demandReceiver 4 = .ok (.iload_n 1, 1) := by decide +kernel
theorem dX3_demandReceiver_5 : decode cX3_demandReceiver 5 = .ok (.aload_n 0, 1) := by decide +kernel
theorem dX3_demandReceiver_6 : decode cX3_demandReceiver 6 = .ok (.getfield 84, 3) := by decide +kernel
theorem dX3_demandReceiver_9 : decode cX3_demandReceiver 9 = .ok (.if_icmp .lt 13, 3) := by decide +kernel
theorem dX3_demandReceiver_12 : decode cX3_demandReceiver 12 = .ok (.new 129, 3) := by decide +kernel
theorem dX3_demandReceiver_15 : decode cX3_demandReceiver 15 = .ok (.dup, 1) := by decide +kernel
theorem dX3_demandReceiver_16 : decode cX3_demandReceiver 16 = .ok (.ldc 158, 2) := by decide +kernel
theorem dX3_demandReceiver_18 : decode cX3_demandReceiver 18 = .ok (.invokespecial 133, 3) := by decide +kernel
theorem dX3_demandReceiver_21 : decode cX3_demandReceiver 21 = .ok (.athrow, 1) := by decide +kernel
theorem dX3_demandReceiver_22 : decode cX3_demandReceiver 22 = .ok (.return_, 1) := by decide +kernel
theorem dX3_demandPlace_0 : decode cX3_demandPlace 0 = .ok (.iload_n 1, 1) := by decide +kernel
theorem dX3_demandPlace_1 : decode cX3_demandPlace 1 = .ok (.ifCond .lt 14, 3) := by decide +kernel
theorem dX3_demandPlace_4 : decode cX3_demandPlace 4 = .ok (.iload_n 1, 1) := by decide +kernel
theorem dX3_demandPlace_5 : decode cX3_demandPlace 5 = .ok (.aload_n 0, 1) := by decide +kernel
theorem dX3_demandPlace_6 : decode cX3_demandPlace 6 = .ok (.getfield 10, 3) := by decide +kernel
theorem dX3_demandPlace_9 : decode cX3_demandPlace 9 = .ok (.getfield 160, 3) := by decide +kernel
theorem dX3_demandPlace_12 : decode cX3_demandPlace 12 = .ok (.if_icmp .lt 13, 3) := by decide +kernel
theorem dX3_demandPlace_15 : decode cX3_demandPlace 15 = .ok (.new 129, 3) := by decide +kernel
theorem dX3_demandPlace_18 : decode cX3_demandPlace 18 = .ok (.dup, 1) := by decide +kernel
theorem dX3_demandPlace_19 : decode cX3_demandPlace 19 = .ok (.ldc 163, 2) := by decide +kernel
theorem dX3_demandPlace_21 : decode cX3_demandPlace 21 = .ok (.invokespecial 133, 3) := by decide +kernel
theorem dX3_demandPlace_24 : decode cX3_demandPlace 24 = .ok (.athrow, 1) := by decide +kernel
theorem dX3_demandPlace_25 : decode cX3_demandPlace 25 = .ok (.return_, 1) := by decide +kernel
set_option maxRecDepth 20000 in
theorem ggX3_demandRebuilding_X3_demandReceiver : GoodIn wsX3_demandRebuilding wsX3_demandReceiver := goodIn_ca (goodIn_r _ [7, 8, 9, 10, 32, 33, 34, 35, 36, 37, 38, 39, 40, 41, 42, 43, 44] (by decide +kernel) (by decide +kernel)) (goodIn_sub (fun _ h => List.mem_cons_of_mem _ (List.mem_append_right _ h)) (by decide +kernel))
set_option maxRecDepth 20000 in
theorem gX3_demandRebuilding_X3_demandReceiver : GoodIn wsX3_demandRebuilding (wsV RX3 89 RX3 yX3_demandReceiver wsX3_demandReceiver) := goodIn_app (goodIn_of _ (by decide +kernel)) ggX3_demandRebuilding_X3_demandReceiver
set_option maxRecDepth 20000 in
theorem ggX3_demandRebuilding_X3_demandPlace : GoodIn wsX3_demandRebuilding wsX3_demandPlace := goodIn_ca (goodIn_r _ [14, 8, 9, 15, 32, 33, 34, 35, 36, 37, 38, 39, 40, 41, 42, 43, 44, 45, 46, 47] (by decide +kernel) (by decide +kernel)) (goodIn_sub (fun _ h => List.mem_cons_of_mem _ (List.mem_append_right _ h)) (by decide +kernel))
set_option maxRecDepth 20000 in
theorem gX3_demandRebuilding_X3_demandPlace : GoodIn wsX3_demandRebuilding (wsV RX3 60 RX3 yX3_demandPlace wsX3_demandPlace) := goodIn_app (goodIn_of _ (by decide +kernel)) ggX3_demandRebuilding_X3_demandPlace
set_option maxRecDepth 20000 in
theorem ggX3_demandRebuilding_X3_needOf : GoodIn wsX3_demandRebuilding wsX3_needOf := goodIn_r _ [19, 15, 20, 21, 22, 23, 24, 25, 26, 27, 28, 29, 30, 31, 32, 33, 34, 35, 36, 37, 38, 39, 40, 41, 42, 43, 44, 45, 46, 47] (by decide +kernel) (by decide +kernel)
set_option maxRecDepth 20000 in
theorem gX3_demandRebuilding_X3_needOf : GoodIn wsX3_demandRebuilding (wsV RX3 117 RX3 yX3_needOf wsX3_needOf) := goodIn_app (goodIn_of _ (by decide +kernel)) ggX3_demandRebuilding_X3_needOf
theorem dX3_demandRebuilding_0 : decode cX3_demandRebuilding 0 = .ok (.aload_n 0, 1) := by decide +kernel
theorem dX3_demandRebuilding_1 : decode cX3_demandRebuilding 1 = .ok (.iload_n 1, 1) := by decide +kernel
theorem dX3_demandRebuilding_2 : decode cX3_demandRebuilding 2 = .ok (.invokevirtual 89, 3) := by decide +kernel
theorem dX3_demandRebuilding_5 : decode cX3_demandRebuilding 5 = .ok (.aload_n 0, 1) := by decide +kernel
theorem dX3_demandRebuilding_6 : decode cX3_demandRebuilding 6 = .ok (.iload_n 2, 1) := by decide +kernel
theorem dX3_demandRebuilding_7 : decode cX3_demandRebuilding 7 = .ok (.invokevirtual 60, 3) := by decide +kernel
theorem dX3_demandRebuilding_10 : decode cX3_demandRebuilding 10 = .ok (.aload_n 0, 1) := by decide +kernel
theorem dX3_demandRebuilding_11 : decode cX3_demandRebuilding 11 = .ok (.iload_n 1, 1) := by decide +kernel
theorem dX3_demandRebuilding_12 : decode cX3_demandRebuilding 12 = .ok (.invokevirtual 117, 3) := by decide +kernel
theorem dX3_demandRebuilding_15 : decode cX3_demandRebuilding 15 = .ok (.ifCond .le 13, 3) := by decide +kernel
theorem dX3_demandRebuilding_18 : decode cX3_demandRebuilding 18 = .ok (.new 70, 3) := by decide +kernel
theorem dX3_demandRebuilding_21 : decode cX3_demandRebuilding 21 = .ok (.dup, 1) := by decide +kernel
theorem dX3_demandRebuilding_22 : decode cX3_demandRebuilding 22 = .ok (.ldc 165, 2) := by decide +kernel
theorem dX3_demandRebuilding_24 : decode cX3_demandRebuilding 24 = .ok (.invokespecial 74, 3) := by decide +kernel
theorem dX3_demandRebuilding_27 : decode cX3_demandRebuilding 27 = .ok (.athrow, 1) := by decide +kernel
theorem dX3_demandRebuilding_28 : decode cX3_demandRebuilding 28 = .ok (.return_, 1) := by decide +kernel
set_option maxRecDepth 20000 in
theorem ggX3_startBlock_X2_clear : GoodIn wsX3_startBlock wsX2_clear := goodIn_r _ [10, 11, 30, 31, 32] (by decide +kernel) (by decide +kernel)
set_option maxRecDepth 20000 in
theorem gX3_startBlock_X2_clear_n167 : GoodIn wsX3_startBlock (wsX2_clear) := ggX3_startBlock_X2_clear
set_option maxRecDepth 20000 in
theorem ggX3_startBlock_X2_add : GoodIn wsX3_startBlock wsX2_add := goodIn_r _ [14, 11, 15, 16, 30, 31, 32] (by decide +kernel) (by decide +kernel)
set_option maxRecDepth 20000 in
theorem gX3_startBlock_X2_add_n170 : GoodIn wsX3_startBlock (wsX2_add) := ggX3_startBlock_X2_add
theorem dX3_startBlock_0 : decode cX3_startBlock 0 = .ok (.aload_n 0, 1) := by decide +kernel
theorem dX3_startBlock_1 : decode cX3_startBlock 1 = .ok (.getfield 10, 3) := by decide +kernel
theorem dX3_startBlock_4 : decode cX3_startBlock 4 = .ok (.invokevirtual 167, 3) := by decide +kernel
theorem dX3_startBlock_7 : decode cX3_startBlock 7 = .ok (.iconst 0, 1) := by decide +kernel
theorem dX3_startBlock_8 : decode cX3_startBlock 8 = .ok (.istore_n 3, 1) := by decide +kernel
theorem dX3_startBlock_9 : decode cX3_startBlock 9 = .ok (.iload_n 3, 1) := by decide +kernel
theorem dX3_startBlock_10 : decode cX3_startBlock 10 = .ok (.iload_n 1, 1) := by decide +kernel
theorem dX3_startBlock_11 : decode cX3_startBlock 11 = .ok (.if_icmp .ge 18, 3) := by decide +kernel
theorem dX3_startBlock_14 : decode cX3_startBlock 14 = .ok (.aload_n 0, 1) := by decide +kernel
theorem dX3_startBlock_15 : decode cX3_startBlock 15 = .ok (.getfield 10, 3) := by decide +kernel
theorem dX3_startBlock_18 : decode cX3_startBlock 18 = .ok (.iload_n 3, 1) := by decide +kernel
theorem dX3_startBlock_19 : decode cX3_startBlock 19 = .ok (.iconst 0, 1) := by decide +kernel
theorem dX3_startBlock_20 : decode cX3_startBlock 20 = .ok (.invokevirtual 170, 3) := by decide +kernel
theorem dX3_startBlock_23 : decode cX3_startBlock 23 = .ok (.iinc 3 1, 3) := by decide +kernel
theorem dX3_startBlock_26 : decode cX3_startBlock 26 = .ok (.goto (-17), 3) := by decide +kernel
theorem dX3_startBlock_29 : decode cX3_startBlock 29 = .ok (.aload_n 0, 1) := by decide +kernel
theorem dX3_startBlock_30 : decode cX3_startBlock 30 = .ok (.iload_n 2, 1) := by decide +kernel
theorem dX3_startBlock_31 : decode cX3_startBlock 31 = .ok (.putfield 173, 3) := by decide +kernel
theorem dX3_startBlock_34 : decode cX3_startBlock 34 = .ok (.aload_n 0, 1) := by decide +kernel
theorem dX3_startBlock_35 : decode cX3_startBlock 35 = .ok (.iconst 0, 1) := by decide +kernel
theorem dX3_startBlock_36 : decode cX3_startBlock 36 = .ok (.putfield 84, 3) := by decide +kernel
theorem dX3_startBlock_39 : decode cX3_startBlock 39 = .ok (.aload_n 0, 1) := by decide +kernel
theorem dX3_startBlock_40 : decode cX3_startBlock 40 = .ok (.iconst 0, 1) := by decide +kernel
theorem dX3_startBlock_41 : decode cX3_startBlock 41 = .ok (.putfield 56, 3) := by decide +kernel
theorem dX3_startBlock_44 : decode cX3_startBlock 44 = .ok (.aload_n 0, 1) := by decide +kernel
theorem dX3_startBlock_45 : decode cX3_startBlock 45 = .ok (.iconst 0, 1) := by decide +kernel
theorem dX3_startBlock_46 : decode cX3_startBlock 46 = .ok (.putfield 111, 3) := by decide +kernel
theorem dX3_startBlock_49 : decode cX3_startBlock 49 = .ok (.aload_n 0, 1) := by decide +kernel
theorem dX3_startBlock_50 : decode cX3_startBlock 50 = .ok (.iconst 0, 1) := by decide +kernel
theorem dX3_startBlock_51 : decode cX3_startBlock 51 = .ok (.putfield 114, 3) := by decide +kernel
theorem dX3_startBlock_54 : decode cX3_startBlock 54 = .ok (.return_, 1) := by decide +kernel
set_option maxRecDepth 20000 in
theorem ggX3_needOf_J6_bitCount_0f7a4 : GoodIn wsX3_needOf wsJ6_bitCount_0f7a4 := goodIn_r _ [10, 11, 12, 13] (by decide +kernel) (by decide +kernel)
set_option maxRecDepth 20000 in
theorem gX3_needOf_J6_bitCount_0f7a4 : GoodIn wsX3_needOf (va_wsS RX3 176 yJ6_bitCount_0f7a4 wsJ6_bitCount_0f7a4) := goodIn_app (goodIn_of _ (by decide +kernel)) ggX3_needOf_J6_bitCount_0f7a4
theorem dX3_needOf_0 : decode cX3_needOf 0 = .ok (.iconst 0, 1) := by decide +kernel
theorem dX3_needOf_1 : decode cX3_needOf 1 = .ok (.aload_n 0, 1) := by decide +kernel
theorem dX3_needOf_2 : decode cX3_needOf 2 = .ok (.getfield 10, 3) := by decide +kernel
theorem dX3_needOf_5 : decode cX3_needOf 5 = .ok (.getfield 160, 3) := by decide +kernel
theorem dX3_needOf_8 : decode cX3_needOf 8 = .ok (.aload_n 0, 1) := by decide +kernel
theorem dX3_needOf_9 : decode cX3_needOf 9 = .ok (.getfield 23, 3) := by decide +kernel
theorem dX3_needOf_12 : decode cX3_needOf 12 = .ok (.iload_n 1, 1) := by decide +kernel
theorem dX3_needOf_13 : decode cX3_needOf 13 = .ok (.iaload, 1) := by decide +kernel
theorem dX3_needOf_14 : decode cX3_needOf 14 = .ok (.invokestatic 176, 3) := by decide +kernel
theorem dX3_needOf_17 : decode cX3_needOf 17 = .ok (.isub, 1) := by decide +kernel
theorem dX3_needOf_18 : decode cX3_needOf 18 = .ok (.invokestatic 181, 3) := by decide +kernel
theorem dX3_needOf_21 : decode cX3_needOf 21 = .ok (.ireturn, 1) := by decide +kernel
set_option maxRecDepth 20000 in
theorem ggX3_isLiveAndLacks_X3_needOf : GoodIn wsX3_isLiveAndLacks wsX3_needOf := goodIn_r _ [6, 7, 8, 9, 10, 11, 12, 13, 14, 15, 16, 17, 18, 19, 20, 21, 22, 23, 24, 25, 26, 27, 28, 29, 30, 31, 32, 33, 34, 35] (by decide +kernel) (by decide +kernel)
set_option maxRecDepth 20000 in
theorem gX3_isLiveAndLacks_X3_needOf : GoodIn wsX3_isLiveAndLacks (wsV RX3 117 RX3 yX3_needOf wsX3_needOf) := goodIn_app (goodIn_of _ (by decide +kernel)) ggX3_isLiveAndLacks_X3_needOf
theorem dX3_isLiveAndLacks_0 : decode cX3_isLiveAndLacks 0 = .ok (.aload_n 0, 1) := by decide +kernel
theorem dX3_isLiveAndLacks_1 : decode cX3_isLiveAndLacks 1 = .ok (.getfield 29, 3) := by decide +kernel
theorem dX3_isLiveAndLacks_4 : decode cX3_isLiveAndLacks 4 = .ok (.iload_n 1, 1) := by decide +kernel
theorem dX3_isLiveAndLacks_5 : decode cX3_isLiveAndLacks 5 = .ok (.baload, 1) := by decide +kernel
theorem dX3_isLiveAndLacks_6 : decode cX3_isLiveAndLacks 6 = .ok (.ifCond .ne 15, 3) := by decide +kernel
theorem dX3_isLiveAndLacks_9 : decode cX3_isLiveAndLacks 9 = .ok (.aload_n 0, 1) := by decide +kernel
theorem dX3_isLiveAndLacks_10 : decode cX3_isLiveAndLacks 10 = .ok (.iload_n 1, 1) := by decide +kernel
theorem dX3_isLiveAndLacks_11 : decode cX3_isLiveAndLacks 11 = .ok (.invokevirtual 117, 3) := by decide +kernel
theorem dX3_isLiveAndLacks_14 : decode cX3_isLiveAndLacks 14 = .ok (.ifCond .le 7, 3) := by decide +kernel
theorem dX3_isLiveAndLacks_17 : decode cX3_isLiveAndLacks 17 = .ok (.iconst 1, 1) := by decide +kernel
theorem dX3_isLiveAndLacks_18 : decode cX3_isLiveAndLacks 18 = .ok (.goto 4, 3) := by decide +kernel
theorem dX3_isLiveAndLacks_21 : decode cX3_isLiveAndLacks 21 = .ok (.iconst 0, 1) := by decide +kernel
theorem dX3_isLiveAndLacks_22 : decode cX3_isLiveAndLacks 22 = .ok (.ireturn, 1) := by decide +kernel
set_option maxRecDepth 20000 in
theorem ggX3_completeCount_X3_needOf : GoodIn wsX3_completeCount wsX3_needOf := goodIn_r _ [7, 8, 9, 10, 11, 12, 13, 14, 15, 16, 17, 18, 19, 20, 21, 22, 23, 24, 25, 26, 27, 28, 29, 30, 31, 32, 33, 34, 35, 36] (by decide +kernel) (by decide +kernel)
set_option maxRecDepth 20000 in
theorem gX3_completeCount_X3_needOf : GoodIn wsX3_completeCount (wsV RX3 117 RX3 yX3_needOf wsX3_needOf) := goodIn_app (goodIn_of _ (by decide +kernel)) ggX3_completeCount_X3_needOf
theorem dX3_completeCount_0 : decode cX3_completeCount 0 = .ok (.iconst 0, 1) := by decide +kernel
theorem dX3_completeCount_1 : decode cX3_completeCount 1 = .ok (.istore_n 1, 1) := by decide +kernel
theorem dX3_completeCount_2 : decode cX3_completeCount 2 = .ok (.iconst 0, 1) := by decide +kernel
theorem dX3_completeCount_3 : decode cX3_completeCount 3 = .ok (.istore_n 2, 1) := by decide +kernel
theorem dX3_completeCount_4 : decode cX3_completeCount 4 = .ok (.iload_n 2, 1) := by decide +kernel
theorem dX3_completeCount_5 : decode cX3_completeCount 5 = .ok (.aload_n 0, 1) := by decide +kernel
theorem dX3_completeCount_6 : decode cX3_completeCount 6 = .ok (.getfield 84, 3) := by decide +kernel
theorem dX3_completeCount_9 : decode cX3_completeCount 9 = .ok (.if_icmp .ge 29, 3) := by decide +kernel
theorem dX3_completeCount_12 : decode cX3_completeCount 12 = .ok (.aload_n 0, 1) := by decide +kernel
theorem dX3_completeCount_13 : decode cX3_completeCount 13 = .ok (.getfield 29, 3) := by decide +kernel
theorem dX3_completeCount_16 : decode cX3_completeCount 16 = .ok (.iload_n 2, 1) := by decide +kernel
theorem dX3_completeCount_17 : decode cX3_completeCount 17 = .ok (.baload, 1) := by decide +kernel
theorem dX3_completeCount_18 : decode cX3_completeCount 18 = .ok (.ifCond .ne 14, 3) := by decide +kernel
theorem dX3_completeCount_21 : decode cX3_completeCount 21 = .ok (.aload_n 0, 1) := by decide +kernel
theorem dX3_completeCount_22 : decode cX3_completeCount 22 = .ok (.iload_n 2, 1) := by decide +kernel
theorem dX3_completeCount_23 : decode cX3_completeCount 23 = .ok (.invokevirtual 117, 3) := by decide +kernel
theorem dX3_completeCount_26 : decode cX3_completeCount 26 = .ok (.ifCond .ne 6, 3) := by decide +kernel
theorem dX3_completeCount_29 : decode cX3_completeCount 29 = .ok (.iinc 1 1, 3) := by decide +kernel
theorem dX3_completeCount_32 : decode cX3_completeCount 32 = .ok (.iinc 2 1, 3) := by decide +kernel
theorem dX3_completeCount_35 : decode cX3_completeCount 35 = .ok (.goto (-31), 3) := by decide +kernel
theorem dX3_completeCount_38 : decode cX3_completeCount 38 = .ok (.iload_n 1, 1) := by decide +kernel
theorem dX3_completeCount_39 : decode cX3_completeCount 39 = .ok (.ireturn, 1) := by decide +kernel
set_option maxRecDepth 20000 in
theorem ggX3_sendPackets_X3_sendNextPacket : GoodIn wsX3_sendPackets wsX3_sendNextPacket := goodIn_r _ [5, 6, 7, 8, 9, 10, 11, 12, 13, 14, 15, 16, 17, 18, 19, 20, 21, 22, 23] (by decide +kernel) (by decide +kernel)
set_option maxRecDepth 20000 in
theorem gX3_sendPackets_X3_sendNextPacket : GoodIn wsX3_sendPackets (wsV RX3 186 RX3 yX3_sendNextPacket wsX3_sendNextPacket) := goodIn_app (goodIn_of _ (by decide +kernel)) ggX3_sendPackets_X3_sendNextPacket
theorem dX3_sendPackets_0 : decode cX3_sendPackets 0 = .ok (.iconst 0, 1) := by decide +kernel
theorem dX3_sendPackets_1 : decode cX3_sendPackets 1 = .ok (.istore_n 2, 1) := by decide +kernel
theorem dX3_sendPackets_2 : decode cX3_sendPackets 2 = .ok (.iload_n 2, 1) := by decide +kernel
theorem dX3_sendPackets_3 : decode cX3_sendPackets 3 = .ok (.iload_n 1, 1) := by decide +kernel
theorem dX3_sendPackets_4 : decode cX3_sendPackets 4 = .ok (.if_icmp .ge 13, 3) := by decide +kernel
theorem dX3_sendPackets_7 : decode cX3_sendPackets 7 = .ok (.aload_n 0, 1) := by decide +kernel
theorem dX3_sendPackets_8 : decode cX3_sendPackets 8 = .ok (.invokevirtual 186, 3) := by decide +kernel
theorem dX3_sendPackets_11 : decode cX3_sendPackets 11 = .ok (.iinc 2 1, 3) := by decide +kernel
theorem dX3_sendPackets_14 : decode cX3_sendPackets 14 = .ok (.goto (-12), 3) := by decide +kernel
theorem dX3_sendPackets_17 : decode cX3_sendPackets 17 = .ok (.return_, 1) := by decide +kernel
theorem dX3_sendNextPacket_0 : decode cX3_sendNextPacket 0 = .ok (.iconst 1, 1) := by decide +kernel
theorem dX3_sendNextPacket_1 : decode cX3_sendNextPacket 1 = .ok (.aload_n 0, 1) := by decide +kernel
theorem dX3_sendNextPacket_2 : decode cX3_sendNextPacket 2 = .ok (.getfield 56, 3) := by decide +kernel
theorem dX3_sendNextPacket_5 : decode cX3_sendNextPacket 5 = .ok (.bipush 16, 2) := by decide +kernel
theorem dX3_sendNextPacket_7 : decode cX3_sendNextPacket 7 = .ok (.irem, 1) := by decide +kernel
theorem dX3_sendNextPacket_8 : decode cX3_sendNextPacket 8 = .ok (.ishl, 1) := by decide +kernel
theorem dX3_sendNextPacket_9 : decode cX3_sendNextPacket 9 = .ok (.istore_n 1, 1) := by decide +kernel
theorem dX3_sendNextPacket_10 : decode cX3_sendNextPacket 10 = .ok (.iconst 1, 1) := by decide +kernel
theorem dX3_sendNextPacket_11 : decode cX3_sendNextPacket 11 = .ok (.aload_n 0, 1) := by decide +kernel
theorem dX3_sendNextPacket_12 : decode cX3_sendNextPacket 12 = .ok (.getfield 56, 3) := by decide +kernel
theorem dX3_sendNextPacket_15 : decode cX3_sendNextPacket 15 = .ok (.bipush 11, 2) := by decide +kernel
theorem dX3_sendNextPacket_17 : decode cX3_sendNextPacket 17 = .ok (.irem, 1) := by decide +kernel
theorem dX3_sendNextPacket_18 : decode cX3_sendNextPacket 18 = .ok (.ishl, 1) := by decide +kernel
theorem dX3_sendNextPacket_19 : decode cX3_sendNextPacket 19 = .ok (.istore_n 2, 1) := by decide +kernel
theorem dX3_sendNextPacket_20 : decode cX3_sendNextPacket 20 = .ok (.iconst 0, 1) := by decide +kernel
theorem dX3_sendNextPacket_21 : decode cX3_sendNextPacket 21 = .ok (.istore_n 3, 1) := by decide +kernel
theorem dX3_sendNextPacket_22 : decode cX3_sendNextPacket 22 = .ok (.iload_n 3, 1) := by decide +kernel
theorem dX3_sendNextPacket_23 : decode cX3_sendNextPacket 23 = .ok (.aload_n 0, 1) := by decide +kernel
theorem dX3_sendNextPacket_24 : decode cX3_sendNextPacket 24 = .ok (.getfield 84, 3) := by decide +kernel
theorem dX3_sendNextPacket_27 : decode cX3_sendNextPacket 27 = .ok (.if_icmp .ge 39, 3) := by decide +kernel
theorem dX3_sendNextPacket_30 : decode cX3_sendNextPacket 30 = .ok (.aload_n 0, 1) := by decide +kernel
theorem dX3_sendNextPacket_31 : decode cX3_sendNextPacket 31 = .ok (.getfield 29, 3) := by decide +kernel
theorem dX3_sendNextPacket_34 : decode cX3_sendNextPacket 34 = .ok (.iload_n 3, 1) := by decide +kernel
theorem dX3_sendNextPacket_35 : decode cX3_sendNextPacket 35 = .ok (.baload, 1) := by decide +kernel
theorem dX3_sendNextPacket_36 : decode cX3_sendNextPacket 36 = .ok (.ifCond .ne 24, 3) := by decide +kernel
theorem dX3_sendNextPacket_39 : decode cX3_sendNextPacket 39 = .ok (.aload_n 0, 1) := by decide +kernel
theorem dX3_sendNextPacket_40 : decode cX3_sendNextPacket 40 = .ok (.getfield 16, 3) := by decide +kernel
theorem dX3_sendNextPacket_43 : decode cX3_sendNextPacket 43 = .ok (.iload_n 3, 1) := by decide +kernel
theorem dX3_sendNextPacket_44 : decode cX3_sendNextPacket 44 = .ok (.iaload, 1) := by decide +kernel
theorem dX3_sendNextPacket_45 : decode cX3_sendNextPacket 45 = .ok (.iload_n 2, 1) := by decide +kernel
theorem dX3_sendNextPacket_46 : decode cX3_sendNextPacket 46 = .ok (.iand, 1) := by decide +kernel
theorem dX3_sendNextPacket_47 : decode cX3_sendNextPacket 47 = .ok (.ifCond .ne 13, 3) := by decide +kernel
theorem dX3_sendNextPacket_50 : decode cX3_sendNextPacket 50 = .ok (.aload_n 0, 1) := by decide +kernel
theorem dX3_sendNextPacket_51 : decode cX3_sendNextPacket 51 = .ok (.getfield 23, 3) := by decide +kernel
theorem dX3_sendNextPacket_54 : decode cX3_sendNextPacket 54 = .ok (.iload_n 3, 1) := by decide +kernel
theorem dX3_sendNextPacket_55 : decode cX3_sendNextPacket 55 = .ok (.dup2, 1) := by decide +kernel
theorem dX3_sendNextPacket_56 : decode cX3_sendNextPacket 56 = .ok (.iaload, 1) := by decide +kernel
theorem dX3_sendNextPacket_57 : decode cX3_sendNextPacket 57 = .ok (.iload_n 1, 1) := by decide +kernel
theorem dX3_sendNextPacket_58 : decode cX3_sendNextPacket 58 = .ok (.ior, 1) := by decide +kernel
theorem dX3_sendNextPacket_59 : decode cX3_sendNextPacket 59 = .ok (.iastore, 1) := by decide +kernel
theorem dX3_sendNextPacket_60 : decode cX3_sendNextPacket 60 = .ok (.iinc 3 1, 3) := by decide +kernel
theorem dX3_sendNextPacket_63 : decode cX3_sendNextPacket 63 = .ok (.goto (-41), 3) := by decide +kernel
theorem dX3_sendNextPacket_66 : decode cX3_sendNextPacket 66 = .ok (.aload_n 0, 1) := by decide +kernel
theorem dX3_sendNextPacket_67 : decode cX3_sendNextPacket 67 = .ok (.dup, 1) := by decide +kernel
theorem dX3_sendNextPacket_68 : decode cX3_sendNextPacket 68 = .ok (.getfield 56, 3) := by decide +kernel
theorem dX3_sendNextPacket_71 : decode cX3_sendNextPacket 71 = .ok (.iconst 1, 1) := by decide +kernel
theorem dX3_sendNextPacket_72 : decode cX3_sendNextPacket 72 = .ok (.iadd, 1) := by decide +kernel
theorem dX3_sendNextPacket_73 : decode cX3_sendNextPacket 73 = .ok (.putfield 56, 3) := by decide +kernel
theorem dX3_sendNextPacket_76 : decode cX3_sendNextPacket 76 = .ok (.return_, 1) := by decide +kernel
set_option maxRecDepth 20000 in
theorem ggX3_hearReports_X3_hearReportsAt : GoodIn wsX3_hearReports wsX3_hearReportsAt := goodIn_r _ [5, 6, 7, 8, 9, 10, 11, 12, 13, 14, 15, 16, 4, 17, 18, 19, 20, 21, 22, 23, 24, 25, 26, 27, 28, 29, 30, 31, 32, 33, 34, 35, 36, 37, 38, 39, 40, 41, 42, 43, 44, 45, 46, 47] (by decide +kernel) (by decide +kernel)
set_option maxRecDepth 20000 in
theorem gX3_hearReports_X3_hearReportsAt : GoodIn wsX3_hearReports (wsV RX3 189 RX3 yX3_hearReportsAt wsX3_hearReportsAt) := goodIn_app (goodIn_of _ (by decide +kernel)) ggX3_hearReports_X3_hearReportsAt
theorem dX3_hearReports_0 : decode cX3_hearReports 0 = .ok (.iconst 0, 1) := by decide +kernel
theorem dX3_hearReports_1 : decode cX3_hearReports 1 = .ok (.istore_n 1, 1) := by decide +kernel
theorem dX3_hearReports_2 : decode cX3_hearReports 2 = .ok (.iconst 0, 1) := by decide +kernel
theorem dX3_hearReports_3 : decode cX3_hearReports 3 = .ok (.istore_n 2, 1) := by decide +kernel
theorem dX3_hearReports_4 : decode cX3_hearReports 4 = .ok (.iload_n 2, 1) := by decide +kernel
theorem dX3_hearReports_5 : decode cX3_hearReports 5 = .ok (.bipush 20, 2) := by decide +kernel
theorem dX3_hearReports_7 : decode cX3_hearReports 7 = .ok (.if_icmp .gt 16, 3) := by decide +kernel
theorem dX3_hearReports_10 : decode cX3_hearReports 10 = .ok (.aload_n 0, 1) := by decide +kernel
theorem dX3_hearReports_11 : decode cX3_hearReports 11 = .ok (.iload_n 2, 1) := by decide +kernel
theorem dX3_hearReports_12 : decode cX3_hearReports 12 = .ok (.iload_n 1, 1) := by decide +kernel
theorem dX3_hearReports_13 : decode cX3_hearReports 13 = .ok (.invokevirtual 189, 3) := by decide +kernel
theorem dX3_hearReports_16 : decode cX3_hearReports 16 = .ok (.istore_n 1, 1) := by decide +kernel
theorem dX3_hearReports_17 : decode cX3_hearReports 17 = .ok (.iinc 2 1, 3) := by decide +kernel
theorem dX3_hearReports_20 : decode cX3_hearReports 20 = .ok (.goto (-16), 3) := by decide +kernel
theorem dX3_hearReports_23 : decode cX3_hearReports 23 = .ok (.iload_n 1, 1) := by decide +kernel
theorem dX3_hearReports_24 : decode cX3_hearReports 24 = .ok (.ireturn, 1) := by decide +kernel
set_option maxRecDepth 20000 in
theorem ggX3_hearReportsAt_X3_isLiveAndLacks : GoodIn wsX3_hearReportsAt wsX3_isLiveAndLacks := goodIn_r _ [13, 14, 15, 16, 17, 12, 18, 19, 20, 4, 5, 6, 7, 21, 22, 23, 24, 25, 26, 27, 28, 29, 30, 31, 32, 33, 34, 35, 36, 37, 38, 39, 40, 41, 42, 43] (by decide +kernel) (by decide +kernel)
set_option maxRecDepth 20000 in
theorem gX3_hearReportsAt_X3_isLiveAndLacks : GoodIn wsX3_hearReportsAt (wsV RX3 192 RX3 yX3_isLiveAndLacks wsX3_isLiveAndLacks) := goodIn_app (goodIn_of _ (by decide +kernel)) ggX3_hearReportsAt_X3_isLiveAndLacks
set_option maxRecDepth 20000 in
theorem ggX3_hearReportsAt_X3_needOf : GoodIn wsX3_hearReportsAt wsX3_needOf := goodIn_r _ [18, 19, 20, 4, 5, 6, 7, 21, 22, 23, 24, 25, 26, 27, 28, 29, 30, 31, 32, 33, 34, 35, 36, 37, 38, 39, 40, 41, 42, 43] (by decide +kernel) (by decide +kernel)
set_option maxRecDepth 20000 in
theorem gX3_hearReportsAt_X3_needOf : GoodIn wsX3_hearReportsAt (wsV RX3 117 RX3 yX3_needOf wsX3_needOf) := goodIn_app (goodIn_of _ (by decide +kernel)) ggX3_hearReportsAt_X3_needOf
theorem dX3_hearReportsAt_0 : decode cX3_hearReportsAt 0 = .ok (.iload_n 2, 1) := by decide +kernel
theorem dX3_hearReportsAt_1 : decode cX3_hearReportsAt 1 = .ok (.istore_n 3, 1) := by decide +kernel
theorem dX3_hearReportsAt_2 : decode cX3_hearReportsAt 2 = .ok (.iconst 0, 1) := by decide +kernel
theorem dX3_hearReportsAt_3 : decode cX3_hearReportsAt 3 = .ok (.istore 4, 2) := by decide +kernel
theorem dX3_hearReportsAt_5 : decode cX3_hearReportsAt 5 = .ok (.iload 4, 2) := by decide +kernel
theorem dX3_hearReportsAt_7 : decode cX3_hearReportsAt 7 = .ok (.aload_n 0, 1) := by decide +kernel
theorem dX3_hearReportsAt_8 : decode cX3_hearReportsAt 8 = .ok (.getfield 84, 3) := by decide +kernel
theorem dX3_hearReportsAt_11 : decode cX3_hearReportsAt 11 = .ok (.if_icmp .ge 73, 3) := by decide +kernel
theorem dX3_hearReportsAt_14 : decode cX3_hearReportsAt 14 = .ok (.aload_n 0, 1) := by decide +kernel
theorem dX3_hearReportsAt_15 : decode cX3_hearReportsAt 15 = .ok (.getfield 20, 3) := by decide +kernel
theorem dX3_hearReportsAt_18 : decode cX3_hearReportsAt 18 = .ok (.iload 4, 2) := by decide +kernel
theorem dX3_hearReportsAt_20 : decode cX3_hearReportsAt 20 = .ok (.iaload, 1) := by decide +kernel
theorem dX3_hearReportsAt_21 : decode cX3_hearReportsAt 21 = .ok (.iload_n 1, 1) := by decide +kernel
theorem dX3_hearReportsAt_22 : decode cX3_hearReportsAt 22 = .ok (.if_icmp .ne 56, 3) := by decide +kernel
theorem dX3_hearReportsAt_25 : decode cX3_hearReportsAt 25 = .ok (.aload_n 0, 1) := by decide +kernel
theorem dX3_hearReportsAt_26 : decode cX3_hearReportsAt 26 = .ok (.iload 4, 2) := by decide +kernel
theorem dX3_hearReportsAt_28 : decode cX3_hearReportsAt 28 = .ok (.invokevirtual 192, 3) := by decide +kernel
theorem dX3_hearReportsAt_31 : decode cX3_hearReportsAt 31 = .ok (.ifCond .eq 47, 3) := by decide +kernel
theorem dX3_hearReportsAt_34 : decode cX3_hearReportsAt 34 = .ok (.aload_n 0, 1) := by decide +kernel
theorem dX3_hearReportsAt_35 : decode cX3_hearReportsAt 35 = .ok (.iload 4, 2) := by decide +kernel
theorem dX3_hearReportsAt_37 : decode cX3_hearReportsAt 37 = .ok (.invokevirtual 117, 3) := by decide +kernel
theorem dX3_hearReportsAt_40 : decode cX3_hearReportsAt 40 = .ok (.istore 5, 2) := by decide +kernel
theorem dX3_hearReportsAt_42 : decode cX3_hearReportsAt 42 = .ok (.iload 5, 2) := by decide +kernel
theorem dX3_hearReportsAt_44 : decode cX3_hearReportsAt 44 = .ok (.iload_n 2, 1) := by decide +kernel
theorem dX3_hearReportsAt_45 : decode cX3_hearReportsAt 45 = .ok (.if_icmp .le 23, 3) := by decide +kernel
theorem dX3_hearReportsAt_48 : decode cX3_hearReportsAt 48 = .ok (.aload_n 0, 1) := by decide +kernel
theorem dX3_hearReportsAt_49 : decode cX3_hearReportsAt 49 = .ok (.dup, 1) := by decide +kernel
theorem dX3_hearReportsAt_50 : decode cX3_hearReportsAt 50 = .ok (.getfield 111, 3) := by decide +kernel
theorem dX3_hearReportsAt_53 : decode cX3_hearReportsAt 53 = .ok (.iconst 1, 1) := by decide +kernel
theorem dX3_hearReportsAt_54 : decode cX3_hearReportsAt 54 = .ok (.iadd, 1) := by decide +kernel
theorem dX3_hearReportsAt_55 : decode cX3_hearReportsAt 55 = .ok (.putfield 111, 3) := by decide +kernel
theorem dX3_hearReportsAt_58 : decode cX3_hearReportsAt 58 = .ok (.iload_n 3, 1) := by decide +kernel
theorem dX3_hearReportsAt_59 : decode cX3_hearReportsAt 59 = .ok (.iload 5, 2) := by decide +kernel
theorem dX3_hearReportsAt_61 : decode cX3_hearReportsAt 61 = .ok (.invokestatic 181, 3) := by decide +kernel
theorem dX3_hearReportsAt_64 : decode cX3_hearReportsAt 64 = .ok (.istore_n 3, 1) := by decide +kernel
theorem dX3_hearReportsAt_65 : decode cX3_hearReportsAt 65 = .ok (.goto 13, 3) := by decide +kernel
theorem dX3_hearReportsAt_68 : decode cX3_hearReportsAt 68 = .ok (.aload_n 0, 1) := by decide +kernel
theorem dX3_hearReportsAt_69 : decode cX3_hearReportsAt 69 = .ok (.dup, 1) := by decide +kernel
theorem dX3_hearReportsAt_70 : decode cX3_hearReportsAt 70 = .ok (.getfield 114, 3) := by decide +kernel
theorem dX3_hearReportsAt_73 : decode cX3_hearReportsAt 73 = .ok (.iconst 1, 1) := by decide +kernel
theorem dX3_hearReportsAt_74 : decode cX3_hearReportsAt 74 = .ok (.iadd, 1) := by decide +kernel
theorem dX3_hearReportsAt_75 : decode cX3_hearReportsAt 75 = .ok (.putfield 114, 3) := by decide +kernel
theorem dX3_hearReportsAt_78 : decode cX3_hearReportsAt 78 = .ok (.iinc 4 1, 3) := by decide +kernel
theorem dX3_hearReportsAt_81 : decode cX3_hearReportsAt 81 = .ok (.goto (-76), 3) := by decide +kernel
theorem dX3_hearReportsAt_84 : decode cX3_hearReportsAt 84 = .ok (.iload_n 3, 1) := by decide +kernel
theorem dX3_hearReportsAt_85 : decode cX3_hearReportsAt 85 = .ok (.ireturn, 1) := by decide +kernel
set_option maxRecDepth 20000 in
theorem ggX3_countBadRounds_X3_isLiveAndLacks : GoodIn wsX3_countBadRounds wsX3_isLiveAndLacks := goodIn_r _ [9, 3, 10, 11, 12, 8, 13, 14, 15, 16, 17, 18, 19, 20, 21, 22, 23, 24, 25, 26, 27, 28, 29, 30, 31, 32, 33, 34, 35, 36, 37, 38, 39, 40, 41, 42] (by decide +kernel) (by decide +kernel)
set_option maxRecDepth 20000 in
theorem gX3_countBadRounds_X3_isLiveAndLacks : GoodIn wsX3_countBadRounds (wsV RX3 192 RX3 yX3_isLiveAndLacks wsX3_isLiveAndLacks) := goodIn_app (goodIn_of _ (by decide +kernel)) ggX3_countBadRounds_X3_isLiveAndLacks
theorem dX3_countBadRounds_0 : decode cX3_countBadRounds 0 = .ok (.iconst 0, 1) := by decide +kernel
theorem dX3_countBadRounds_1 : decode cX3_countBadRounds 1 = .ok (.istore_n 1, 1) := by decide +kernel
theorem dX3_countBadRounds_2 : decode cX3_countBadRounds 2 = .ok (.iload_n 1, 1) := by decide +kernel
theorem dX3_countBadRounds_3 : decode cX3_countBadRounds 3 = .ok (.aload_n 0, 1) := by decide +kernel
theorem dX3_countBadRounds_4 : decode cX3_countBadRounds 4 = .ok (.getfield 84, 3) := by decide +kernel
theorem dX3_countBadRounds_7 : decode cX3_countBadRounds 7 = .ok (.if_icmp .ge 51, 3) := by decide +kernel
theorem dX3_countBadRounds_10 : decode cX3_countBadRounds 10 = .ok (.aload_n 0, 1) := by decide +kernel
theorem dX3_countBadRounds_11 : decode cX3_countBadRounds 11 = .ok (.iload_n 1, 1) := by decide +kernel
theorem dX3_countBadRounds_12 : decode cX3_countBadRounds 12 = .ok (.invokevirtual 192, 3) := by decide +kernel
theorem dX3_countBadRounds_15 : decode cX3_countBadRounds 15 = .ok (.ifCond .eq 37, 3) := by decide +kernel
theorem dX3_countBadRounds_18 : decode cX3_countBadRounds 18 = .ok (.aload_n 0, 1) := by decide +kernel
theorem dX3_countBadRounds_19 : decode cX3_countBadRounds 19 = .ok (.getfield 26, 3) := by decide +kernel
theorem dX3_countBadRounds_22 : decode cX3_countBadRounds 22 = .ok (.iload_n 1, 1) := by decide +kernel
theorem dX3_countBadRounds_23 : decode cX3_countBadRounds 23 = .ok (.dup2, 1) := by decide +kernel
theorem dX3_countBadRounds_24 : decode cX3_countBadRounds 24 = .ok (.iaload, 1) := by decide +kernel
theorem dX3_countBadRounds_25 : decode cX3_countBadRounds 25 = .ok (.iconst 1, 1) := by decide +kernel
theorem dX3_countBadRounds_26 : decode cX3_countBadRounds 26 = .ok (.iadd, 1) := by decide +kernel
theorem dX3_countBadRounds_27 : decode cX3_countBadRounds 27 = .ok (.iastore, 1) := by decide +kernel
theorem dX3_countBadRounds_28 : decode cX3_countBadRounds 28 = .ok (.aload_n 0, 1) := by decide +kernel
theorem dX3_countBadRounds_29 : decode cX3_countBadRounds 29 = .ok (.getfield 29, 3) := by decide +kernel
theorem dX3_countBadRounds_32 : decode cX3_countBadRounds 32 = .ok (.iload_n 1, 1) := by decide +kernel
theorem dX3_countBadRounds_33 : decode cX3_countBadRounds 33 = .ok (.aload_n 0, 1) := by decide +kernel
theorem dX3_countBadRounds_34 : decode cX3_countBadRounds 34 = .ok (.getfield 26, 3) := by decide +kernel
theorem dX3_countBadRounds_37 : decode cX3_countBadRounds 37 = .ok (.iload_n 1, 1) := by decide +kernel
theorem dX3_countBadRounds_38 : decode cX3_countBadRounds 38 = .ok (.iaload, 1) := by decide +kernel
theorem dX3_countBadRounds_39 : decode cX3_countBadRounds 39 = .ok (.aload_n 0, 1) := by decide +kernel
theorem dX3_countBadRounds_40 : decode cX3_countBadRounds 40 = .ok (.getfield 173, 3) := by decide +kernel
theorem dX3_countBadRounds_43 : decode cX3_countBadRounds 43 = .ok (.if_icmp .lt 7, 3) := by decide +kernel
theorem dX3_countBadRounds_46 : decode cX3_countBadRounds 46 = .ok (.iconst 1, 1) := by decide +kernel
theorem dX3_countBadRounds_47 : decode cX3_countBadRounds 47 = .ok (.goto 4, 3) := by decide +kernel
theorem dX3_countBadRounds_50 : decode cX3_countBadRounds 50 = .ok (.iconst 0, 1) := by decide +kernel
theorem dX3_countBadRounds_51 : decode cX3_countBadRounds 51 = .ok (.bastore, 1) := by decide +kernel
theorem dX3_countBadRounds_52 : decode cX3_countBadRounds 52 = .ok (.iinc 1 1, 3) := by decide +kernel
theorem dX3_countBadRounds_55 : decode cX3_countBadRounds 55 = .ok (.goto (-53), 3) := by decide +kernel
theorem dX3_countBadRounds_58 : decode cX3_countBadRounds 58 = .ok (.return_, 1) := by decide +kernel
set_option maxRecDepth 20000 in
theorem ggX3_chooseLowest_X2_clear : GoodIn wsX3_chooseLowest wsX2_clear := goodIn_r _ [5, 6, 44, 45, 46] (by decide +kernel) (by decide +kernel)
set_option maxRecDepth 20000 in
theorem gX3_chooseLowest_X2_clear_n167 : GoodIn wsX3_chooseLowest (wsX2_clear) := ggX3_chooseLowest_X2_clear
set_option maxRecDepth 20000 in
theorem ggX3_chooseLowest_X3_chooseIfWanted : GoodIn wsX3_chooseLowest wsX3_chooseIfWanted := goodIn_r _ [11, 1, 12, 13, 3, 14, 15, 6, 16, 17, 18, 19, 20, 21, 22, 23, 24, 25, 26, 27, 28, 29, 30, 31, 32, 33, 34, 35, 36, 37, 38, 39, 40, 41, 42, 43, 44, 45, 46] (by decide +kernel) (by decide +kernel)
set_option maxRecDepth 20000 in
theorem gX3_chooseLowest_X3_chooseIfWanted : GoodIn wsX3_chooseLowest (wsV RX3 195 RX3 yX3_chooseIfWanted wsX3_chooseIfWanted) := goodIn_app (goodIn_of _ (by decide +kernel)) ggX3_chooseLowest_X3_chooseIfWanted
theorem dX3_chooseLowest_0 : decode cX3_chooseLowest 0 = .ok (.aload_n 0, 1) := by decide +kernel
theorem dX3_chooseLowest_1 : decode cX3_chooseLowest 1 = .ok (.getfield 33, 3) := by decide +kernel
theorem dX3_chooseLowest_4 : decode cX3_chooseLowest 4 = .ok (.invokevirtual 167, 3) := by decide +kernel
theorem dX3_chooseLowest_7 : decode cX3_chooseLowest 7 = .ok (.iconst 0, 1) := by decide +kernel
theorem dX3_chooseLowest_8 : decode cX3_chooseLowest 8 = .ok (.istore_n 2, 1) := by decide +kernel
theorem dX3_chooseLowest_9 : decode cX3_chooseLowest 9 = .ok (.iload_n 2, 1) := by decide +kernel
theorem dX3_chooseLowest_10 : decode cX3_chooseLowest 10 = .ok (.bipush 16, 2) := by decide +kernel
theorem dX3_chooseLowest_12 : decode cX3_chooseLowest 12 = .ok (.if_icmp .ge 15, 3) := by decide +kernel
theorem dX3_chooseLowest_15 : decode cX3_chooseLowest 15 = .ok (.aload_n 0, 1) := by decide +kernel
theorem dX3_chooseLowest_16 : decode cX3_chooseLowest 16 = .ok (.iload_n 1, 1) := by decide +kernel
theorem dX3_chooseLowest_17 : decode cX3_chooseLowest 17 = .ok (.iload_n 2, 1) := by decide +kernel
theorem dX3_chooseLowest_18 : decode cX3_chooseLowest 18 = .ok (.invokevirtual 195, 3) := by decide +kernel
theorem dX3_chooseLowest_21 : decode cX3_chooseLowest 21 = .ok (.iinc 2 1, 3) := by decide +kernel
theorem dX3_chooseLowest_24 : decode cX3_chooseLowest 24 = .ok (.goto (-15), 3) := by decide +kernel
theorem dX3_chooseLowest_27 : decode cX3_chooseLowest 27 = .ok (.return_, 1) := by decide +kernel
set_option maxRecDepth 20000 in
theorem ggX3_chooseHighest_X2_clear : GoodIn wsX3_chooseHighest wsX2_clear := goodIn_r _ [5, 6, 44, 45, 46] (by decide +kernel) (by decide +kernel)
set_option maxRecDepth 20000 in
theorem gX3_chooseHighest_X2_clear_n167 : GoodIn wsX3_chooseHighest (wsX2_clear) := ggX3_chooseHighest_X2_clear
set_option maxRecDepth 20000 in
theorem ggX3_chooseHighest_X3_chooseIfWanted : GoodIn wsX3_chooseHighest wsX3_chooseIfWanted := goodIn_r _ [11, 1, 12, 13, 3, 14, 15, 6, 16, 17, 18, 19, 20, 21, 22, 23, 24, 25, 26, 27, 28, 29, 30, 31, 32, 33, 34, 35, 36, 37, 38, 39, 40, 41, 42, 43, 44, 45, 46] (by decide +kernel) (by decide +kernel)
set_option maxRecDepth 20000 in
theorem gX3_chooseHighest_X3_chooseIfWanted : GoodIn wsX3_chooseHighest (wsV RX3 195 RX3 yX3_chooseIfWanted wsX3_chooseIfWanted) := goodIn_app (goodIn_of _ (by decide +kernel)) ggX3_chooseHighest_X3_chooseIfWanted
theorem dX3_chooseHighest_0 : decode cX3_chooseHighest 0 = .ok (.aload_n 0, 1) := by decide +kernel
theorem dX3_chooseHighest_1 : decode cX3_chooseHighest 1 = .ok (.getfield 33, 3) := by decide +kernel
theorem dX3_chooseHighest_4 : decode cX3_chooseHighest 4 = .ok (.invokevirtual 167, 3) := by decide +kernel
theorem dX3_chooseHighest_7 : decode cX3_chooseHighest 7 = .ok (.bipush 15, 2) := by decide +kernel
theorem dX3_chooseHighest_9 : decode cX3_chooseHighest 9 = .ok (.istore_n 2, 1) := by decide +kernel
theorem dX3_chooseHighest_10 : decode cX3_chooseHighest 10 = .ok (.iload_n 2, 1) := by decide +kernel
theorem dX3_chooseHighest_11 : decode cX3_chooseHighest 11 = .ok (.ifCond .lt 15, 3) := by decide +kernel
theorem dX3_chooseHighest_14 : decode cX3_chooseHighest 14 = .ok (.aload_n 0, 1) := by decide +kernel
theorem dX3_chooseHighest_15 : decode cX3_chooseHighest 15 = .ok (.iload_n 1, 1) := by decide +kernel
theorem dX3_chooseHighest_16 : decode cX3_chooseHighest 16 = .ok (.iload_n 2, 1) := by decide +kernel
theorem dX3_chooseHighest_17 : decode cX3_chooseHighest 17 = .ok (.invokevirtual 195, 3) := by decide +kernel
theorem dX3_chooseHighest_20 : decode cX3_chooseHighest 20 = .ok (.iinc 2 (-1), 3) := by decide +kernel
theorem dX3_chooseHighest_23 : decode cX3_chooseHighest 23 = .ok (.goto (-13), 3) := by decide +kernel
theorem dX3_chooseHighest_26 : decode cX3_chooseHighest 26 = .ok (.return_, 1) := by decide +kernel
set_option maxRecDepth 20000 in
theorem ggX3_chooseIfWanted_X2_polynomialAt : GoodIn wsX3_chooseIfWanted wsX2_polynomialAt := goodIn_r _ [6, 7, 8, 9, 10, 11, 4, 12, 13, 14, 15, 16, 17, 18, 19, 36, 37, 38] (by decide +kernel) (by decide +kernel)
set_option maxRecDepth 20000 in
theorem gX3_chooseIfWanted_X2_polynomialAt_n134 : GoodIn wsX3_chooseIfWanted (wsX2_polynomialAt) := ggX3_chooseIfWanted_X2_polynomialAt
set_option maxRecDepth 20000 in
theorem ggX3_chooseIfWanted_X2_add : GoodIn wsX3_chooseIfWanted wsX2_add := goodIn_r _ [22, 7, 13, 8, 36, 37, 38] (by decide +kernel) (by decide +kernel)
set_option maxRecDepth 20000 in
theorem gX3_chooseIfWanted_X2_add_n170 : GoodIn wsX3_chooseIfWanted (wsX2_add) := ggX3_chooseIfWanted_X2_add
theorem dX3_chooseIfWanted_0 : decode cX3_chooseIfWanted 0 = .ok (.iload_n 1, 1) := by decide +kernel
theorem dX3_chooseIfWanted_1 : decode cX3_chooseIfWanted 1 = .ok (.iload_n 2, 1) := by decide +kernel
theorem dX3_chooseIfWanted_2 : decode cX3_chooseIfWanted 2 = .ok (.ishr, 1) := by decide +kernel
theorem dX3_chooseIfWanted_3 : decode cX3_chooseIfWanted 3 = .ok (.iconst 1, 1) := by decide +kernel
theorem dX3_chooseIfWanted_4 : decode cX3_chooseIfWanted 4 = .ok (.iand, 1) := by decide +kernel
theorem dX3_chooseIfWanted_5 : decode cX3_chooseIfWanted 5 = .ok (.ifCond .eq 7, 3) := by decide +kernel
theorem dX3_chooseIfWanted_8 : decode cX3_chooseIfWanted 8 = .ok (.iconst 1, 1) := by decide +kernel
theorem dX3_chooseIfWanted_9 : decode cX3_chooseIfWanted 9 = .ok (.goto 4, 3) := by decide +kernel
theorem dX3_chooseIfWanted_12 : decode cX3_chooseIfWanted 12 = .ok (.iconst 0, 1) := by decide +kernel
theorem dX3_chooseIfWanted_13 : decode cX3_chooseIfWanted 13 = .ok (.istore_n 3, 1) := by decide +kernel
theorem dX3_chooseIfWanted_14 : decode cX3_chooseIfWanted 14 = .ok (.iload_n 3, 1) := by decide +kernel
theorem dX3_chooseIfWanted_15 : decode cX3_chooseIfWanted 15 = .ok (.ifCond .eq 36, 3) := by decide +kernel
theorem dX3_chooseIfWanted_18 : decode cX3_chooseIfWanted 18 = .ok (.aload_n 0, 1) := by decide +kernel
theorem dX3_chooseIfWanted_19 : decode cX3_chooseIfWanted 19 = .ok (.getfield 33, 3) := by decide +kernel
theorem dX3_chooseIfWanted_22 : decode cX3_chooseIfWanted 22 = .ok (.getfield 160, 3) := by decide +kernel
theorem dX3_chooseIfWanted_25 : decode cX3_chooseIfWanted 25 = .ok (.aload_n 0, 1) := by decide +kernel
theorem dX3_chooseIfWanted_26 : decode cX3_chooseIfWanted 26 = .ok (.getfield 10, 3) := by decide +kernel
theorem dX3_chooseIfWanted_29 : decode cX3_chooseIfWanted 29 = .ok (.getfield 160, 3) := by decide +kernel
theorem dX3_chooseIfWanted_32 : decode cX3_chooseIfWanted 32 = .ok (.if_icmp .ge 19, 3) := by decide +kernel
theorem dX3_chooseIfWanted_35 : decode cX3_chooseIfWanted 35 = .ok (.aload_n 0, 1) := by decide +kernel
theorem dX3_chooseIfWanted_36 : decode cX3_chooseIfWanted 36 = .ok (.getfield 33, 3) := by decide +kernel
theorem dX3_chooseIfWanted_39 : decode cX3_chooseIfWanted 39 = .ok (.iload_n 2, 1) := by decide +kernel
theorem dX3_chooseIfWanted_40 : decode cX3_chooseIfWanted 40 = .ok (.aload_n 0, 1) := by decide +kernel
theorem dX3_chooseIfWanted_41 : decode cX3_chooseIfWanted 41 = .ok (.getfield 10, 3) := by decide +kernel
theorem dX3_chooseIfWanted_44 : decode cX3_chooseIfWanted 44 = .ok (.iload_n 2, 1) := by decide +kernel
theorem dX3_chooseIfWanted_45 : decode cX3_chooseIfWanted 45 = .ok (.invokevirtual 134, 3) := by decide +kernel
theorem dX3_chooseIfWanted_48 : decode cX3_chooseIfWanted 48 = .ok (.invokevirtual 170, 3) := by decide +kernel
theorem dX3_chooseIfWanted_51 : decode cX3_chooseIfWanted 51 = .ok (.return_, 1) := by decide +kernel
end
section
theorem dX4_init_0 : decode cX4_init 0 = .ok (.aload_n 0, 1) := by decide +kernel
theorem dX4_init_1 : decode cX4_init 1 = .ok (.invokespecial 1, 3) := by decide +kernel
theorem dX4_init_4 : decode cX4_init 4 = .ok (.aload_n 0, 1) := by decide +kernel
theorem dX4_init_5 : decode cX4_init 5 = .ok (.bipush 8, 2) := by decide +kernel
theorem dX4_init_7 : decode cX4_init 7 = .ok (.newarray .int, 2) := by decide +kernel
theorem dX4_init_9 : decode cX4_init 9 = .ok (.putfield 7, 3) := by decide +kernel
theorem dX4_init_12 : decode cX4_init 12 = .ok (.aload_n 0, 1) := by decide +kernel
theorem dX4_init_13 : decode cX4_init 13 = .ok (.bipush 6, 2) := by decide +kernel
theorem dX4_init_15 : decode cX4_init 15 = .ok (.newarray .int, 2) := by decide +kernel
theorem dX4_init_17 : decode cX4_init 17 = .ok (.putfield 13, 3) := by decide +kernel
theorem dX4_init_20 : decode cX4_init 20 = .ok (.aload_n 0, 1) := by decide +kernel
theorem dX4_init_21 : decode cX4_init 21 = .ok (.bipush 6, 2) := by decide +kernel
theorem dX4_init_23 : decode cX4_init 23 = .ok (.newarray .int, 2) := by decide +kernel
theorem dX4_init_25 : decode cX4_init 25 = .ok (.putfield 16, 3) := by decide +kernel
theorem dX4_init_28 : decode cX4_init 28 = .ok (.aload_n 0, 1) := by decide +kernel
theorem dX4_init_29 : decode cX4_init 29 = .ok (.bipush 6, 2) := by decide +kernel
theorem dX4_init_31 : decode cX4_init 31 = .ok (.newarray .int, 2) := by decide +kernel
theorem dX4_init_33 : decode cX4_init 33 = .ok (.putfield 19, 3) := by decide +kernel
theorem dX4_init_36 : decode cX4_init 36 = .ok (.aload_n 0, 1) := by decide +kernel
theorem dX4_init_37 : decode cX4_init 37 = .ok (.bipush 6, 2) := by decide +kernel
theorem dX4_init_39 : decode cX4_init 39 = .ok (.newarray .int, 2) := by decide +kernel
theorem dX4_init_41 : decode cX4_init 41 = .ok (.putfield 22, 3) := by decide +kernel
theorem dX4_init_44 : decode cX4_init 44 = .ok (.aload_n 0, 1) := by decide +kernel
theorem dX4_init_45 : decode cX4_init 45 = .ok (.bipush 6, 2) := by decide +kernel
theorem dX4_init_47 : decode cX4_init 47 = .ok (.newarray .boolean, 2) := by decide +kernel
theorem dX4_init_49 : decode cX4_init 49 = .ok (.putfield 25, 3) := by decide +kernel
theorem dX4_init_52 : decode cX4_init 52 = .ok (.aload_n 0, 1) := by decide +kernel
theorem dX4_init_53 : decode cX4_init 53 = .ok (.bipush 6, 2) := by decide +kernel
theorem dX4_init_55 : decode cX4_init 55 = .ok (.newarray .int, 2) := by decide +kernel
theorem dX4_init_57 : decode cX4_init 57 = .ok (.putfield 29, 3) := by decide +kernel
theorem dX4_init_60 : decode cX4_init 60 = .ok (.aload_n 0, 1) := by decide +kernel
theorem dX4_init_61 : decode cX4_init 61 = .ok (.iconst 4, 1) := by decide +kernel
theorem dX4_init_62 : decode cX4_init 62 = .ok (.putfield 32, 3) := by decide +kernel
theorem dX4_init_65 : decode cX4_init 65 = .ok (.aload_n 0, 1) := by decide +kernel
theorem dX4_init_66 : decode cX4_init 66 = .ok (.iconst 3, 1) := by decide +kernel
theorem dX4_init_67 : decode cX4_init 67 = .ok (.putfield 36, 3) := by decide +kernel
theorem dX4_init_70 : decode cX4_init 70 = .ok (.return_, 1) := by decide +kernel
theorem dX4_thrown_0 : decode cX4_thrown 0 = .ok (.aload_n 0, 1) := by decide +kernel
theorem dX4_thrown_1 : decode cX4_thrown 1 = .ok (.getfield 39, 3) := by decide +kernel
theorem dX4_thrown_4 : decode cX4_thrown 4 = .ok (.ireturn, 1) := by decide +kernel
theorem dX4_in_0 : decode cX4_in 0 = .ok (.iload_n 0, 1) := by decide +kernel
theorem dX4_in_1 : decode cX4_in 1 = .ok (.iload_n 1, 1) := by decide +kernel
theorem dX4_in_2 : decode cX4_in 2 = .ok (.if_icmp .lt 12, 3) := by decide +kernel
theorem dX4_in_5 : decode cX4_in 5 = .ok (.iload_n 0, 1) := by decide +kernel
theorem dX4_in_6 : decode cX4_in 6 = .ok (.iload_n 2, 1) := by decide +kernel
theorem dX4_in_7 : decode cX4_in 7 = .ok (.if_icmp .gt 7, 3) := by decide +kernel
theorem dX4_in_10 : decode cX4_in 10 = .ok (.iconst 1, 1) := by decide +kernel
theorem dX4_in_11 : decode cX4_in 11 = .ok (.goto 4, 3) := by decide +kernel
theorem dX4_in_14 : decode cX4_in 14 = .ok (.iconst 0, 1) := by decide +kernel
theorem dX4_in_15 : decode cX4_in 15 = .ok (.ireturn, 1) := by decide +kernel
set_option maxRecDepth 20000 in
theorem ggX4_isReceiver_X4_in : GoodIn wsX4_isReceiver wsX4_in := goodIn_r _ [5] (by decide +kernel) (by decide +kernel)
set_option maxRecDepth 20000 in
theorem gX4_isReceiver_X4_in : GoodIn wsX4_isReceiver (va_wsS RX4 45 yX4_in wsX4_in) := goodIn_app (goodIn_of _ (by decide +kernel)) ggX4_isReceiver_X4_in
theorem dX4_isReceiver_0 : decode cX4_isReceiver 0 = .ok (.iload_n 1, 1) := by decide +kernel
theorem dX4_isReceiver_1 : decode cX4_isReceiver 1 = .ok (.iconst 0, 1) := by decide +kernel
theorem dX4_isReceiver_2 : decode cX4_isReceiver 2 = .ok (.aload_n 0, 1) := by decide +kernel
theorem dX4_isReceiver_3 : decode cX4_isReceiver 3 = .ok (.getfield 42, 3) := by decide +kernel
theorem dX4_isReceiver_6 : decode cX4_isReceiver 6 = .ok (.iconst 1, 1) := by decide +kernel
theorem dX4_isReceiver_7 : decode cX4_isReceiver 7 = .ok (.isub, 1) := by decide +kernel
theorem dX4_isReceiver_8 : decode cX4_isReceiver 8 = .ok (.invokestatic 45, 3) := by decide +kernel
theorem dX4_isReceiver_11 : decode cX4_isReceiver 11 = .ok (.ireturn, 1) := by decide +kernel
set_option maxRecDepth 20000 in
theorem ggX4_begin_X4_in : GoodIn wsX4_begin wsX4_in := goodIn_r _ [12] (by decide +kernel) (by decide +kernel)
set_option maxRecDepth 20000 in
theorem gX4_begin_X4_in : GoodIn wsX4_begin (va_wsS RX4 45 yX4_in wsX4_in) := goodIn_app (goodIn_of _ (by decide +kernel)) ggX4_begin_X4_in
theorem dX4_begin_0 : decode cX4_begin 0 = .ok (.aload_n 0, 1) := by decide +kernel
theorem dX4_begin_1 : decode cX4_begin 1 = .ok (.iload_n 1, 1) := by decide +kernel
theorem dX4_begin_2 : decode cX4_begin 2 = .ok (.iconst 1, 1) := by decide +kernel
theorem dX4_begin_3 : decode cX4_begin 3 = .ok (.bipush 8, 2) := by decide +kernel
theorem dX4_begin_5 : decode cX4_begin 5 = .ok (.invokestatic 45, 3) := by decide +kernel
theorem dX4_begin_8 : decode cX4_begin 8 = .ok (.ifCond .eq 13, 3) := by decide +kernel
theorem dX4_begin_11 : decode cX4_begin 11 = .ok (.iload_n 2, 1) := by decide +kernel
theorem dX4_begin_12 : decode cX4_begin 12 = .ok (.iconst 1, 1) := by decide +kernel
theorem dX4_begin_13 : decode cX4_begin 13 = .ok (.bipush 20, 2) := by decide +kernel
theorem dX4_begin_15 : decode cX4_begin 15 = .ok (.invokestatic 45, 3) := by decide +kernel
theorem dX4_begin_18 : decode cX4_begin 18 = .ok (.ifCond .ne 7, 3) := by decide +kernel
theorem dX4_begin_21 : decode cX4_begin 21 = .ok (.iconst 1, 1) := by decide +kernel
theorem dX4_begin_22 : decode cX4_begin 22 = .ok (.goto 4, 3) := by decide +kernel
theorem dX4_begin_25 : decode cX4_begin 25 = .ok (.iconst 0, 1) := by decide +kernel
theorem dX4_begin_26 : decode cX4_begin 26 = .ok (.putfield 39, 3) := by decide +kernel
theorem dX4_begin_29 : decode cX4_begin 29 = .ok (.aload_n 0, 1) := by decide +kernel
theorem dX4_begin_30 : decode cX4_begin 30 = .ok (.getfield 39, 3) := by decide +kernel
theorem dX4_begin_33 : decode cX4_begin 33 = .ok (.ifCond .le 5, 3) := by decide +kernel
theorem dX4_begin_36 : decode cX4_begin 36 = .ok (.iconst 0, 1) := by decide +kernel
theorem dX4_begin_37 : decode cX4_begin 37 = .ok (.ireturn, 1) := by decide +kernel
theorem dX4_begin_38 : decode cX4_begin 38 = .ok (.aload_n 0, 1) := by decide +kernel
theorem dX4_begin_39 : decode cX4_begin 39 = .ok (.getfield 49, 3) := by decide +kernel
theorem dX4_begin_42 : decode cX4_begin 42 = .ok (.istore_n 3, 1) := by decide +kernel
theorem dX4_begin_43 : decode cX4_begin 43 = .ok (.aload_n 0, 1) := by decide +kernel
theorem dX4_begin_44 : decode cX4_begin 44 = .ok (.iload_n 1, 1) := by decide +kernel
theorem dX4_begin_45 : decode cX4_begin 45 = .ok (.putfield 32, 3) := by decide +kernel
theorem dX4_begin_48 : decode cX4_begin 48 = .ok (.aload_n 0, 1) := by decide +kernel
theorem dX4_begin_49 : decode cX4_begin 49 = .ok (.iload_n 2, 1) := by decide +kernel
theorem dX4_begin_50 : decode cX4_begin 50 = .ok (.putfield 36, 3) := by decide +kernel
theorem dX4_begin_53 : decode cX4_begin 53 = .ok (.iconst 0, 1) := by decide +kernel
theorem dX4_begin_54 : decode cX4_begin 54 = .ok (.istore 4, 2) := by decide +kernel
theorem dX4_begin_56 : decode cX4_begin 56 = .ok (.iload 4, 2) := by decide +kernel
theorem dX4_begin_58 : decode cX4_begin 58 = .ok (.bipush 8, 2) := by decide +kernel
theorem dX4_begin_60 : decode cX4_begin 60 = .ok (.if_icmp .ge 17, 3) := by decide +kernel
theorem dX4_begin_63 : decode cX4_begin 63 = .ok (.aload_n 0, 1) := by decide +kernel
theorem dX4_begin_64 : decode cX4_begin 64 = .ok (.getfield 7, 3) := by decide +kernel
theorem dX4_begin_67 : decode cX4_begin 67 = .ok (.iload 4, 2) := by decide +kernel
theorem dX4_begin_69 : decode cX4_begin 69 = .ok (.iconst 0, 1) := by decide +kernel
theorem dX4_begin_70 : decode cX4_begin 70 = .ok (.iastore, 1) := by decide +kernel
theorem dX4_begin_71 : decode cX4_begin 71 = .ok (.iinc 4 1, 3) := by decide +kernel
theorem dX4_begin_74 : decode cX4_begin 74 = .ok (.goto (-18), 3) := by decide +kernel
theorem dX4_begin_77 : decode cX4_begin 77 = .ok (.aload_n 0, 1) := by decide +kernel
theorem dX4_begin_78 : decode cX4_begin 78 = .ok (.iconst 0, 1) := by decide +kernel
theorem dX4_begin_79 : decode cX4_begin 79 = .ok (.putfield 49, 3) := by decide +kernel
theorem dX4_begin_82 : decode cX4_begin 82 = .ok (.aload_n 0, 1) := by decide +kernel
theorem dX4_begin_83 : decode cX4_begin 83 = .ok (.iconst 0, 1) := by decide +kernel
theorem dX4_begin_84 : decode cX4_begin 84 = .ok (.putfield 42, 3) := by decide +kernel
theorem dX4_begin_87 : decode cX4_begin 87 = .ok (.aload_n 0, 1) := by decide +kernel
theorem dX4_begin_88 : decode cX4_begin 88 = .ok (.iconst 0, 1) := by decide +kernel
theorem dX4_begin_89 : decode cX4_begin 89 = .ok (.putfield 52, 3) := by decide +kernel
theorem dX4_begin_92 : decode cX4_begin 92 = .ok (.aload_n 0, 1) := by decide +kernel
theorem dX4_begin_93 : decode cX4_begin 93 = .ok (.iconst 0, 1) := by decide +kernel
theorem dX4_begin_94 : decode cX4_begin 94 = .ok (.putfield 55, 3) := by decide +kernel
theorem dX4_begin_97 : decode cX4_begin 97 = .ok (.iload_n 3, 1) := by decide +kernel
theorem dX4_begin_98 : decode cX4_begin 98 = .ok (.ireturn, 1) := by decide +kernel
set_option maxRecDepth 20000 in
theorem ggX4_setDatum_X4_in : GoodIn wsX4_setDatum wsX4_in := goodIn_r _ [8] (by decide +kernel) (by decide +kernel)
set_option maxRecDepth 20000 in
theorem gX4_setDatum_X4_in : GoodIn wsX4_setDatum (va_wsS RX4 45 yX4_in wsX4_in) := goodIn_app (goodIn_of _ (by decide +kernel)) ggX4_setDatum_X4_in
theorem dX4_setDatum_0 : decode cX4_setDatum 0 = .ok (.aload_n 0, 1) := by decide +kernel
theorem dX4_setDatum_1 : decode cX4_setDatum 1 = .ok (.iload_n 1, 1) := by decide +kernel
theorem dX4_setDatum_2 : decode cX4_setDatum 2 = .ok (.iconst 0, 1) := by decide +kernel
theorem dX4_setDatum_3 : decode cX4_setDatum 3 = .ok (.aload_n 0, 1) := by decide +kernel
theorem dX4_setDatum_4 : decode cX4_setDatum 4 = .ok (.getfield 32, 3) := by decide +kernel
theorem dX4_setDatum_7 : decode cX4_setDatum 7 = .ok (.iconst 1, 1) := by decide +kernel
theorem dX4_setDatum_8 : decode cX4_setDatum 8 = .ok (.isub, 1) := by decide +kernel
theorem dX4_setDatum_9 : decode cX4_setDatum 9 = .ok (.invokestatic 45, 3) := by decide +kernel
theorem dX4_setDatum_12 : decode cX4_setDatum 12 = .ok (.ifCond .ne 7, 3) := by decide +kernel
theorem dX4_setDatum_15 : decode cX4_setDatum 15 = .ok (.iconst 1, 1) := by decide +kernel
theorem dX4_setDatum_16 : decode cX4_setDatum 16 = .ok (.goto 30, 3) := by decide +kernel
theorem dX4_setDatum_19 : decode cX4_setDatum 19 = .ok (.iload_n 2, 1) := by decide +kernel
theorem dX4_setDatum_20 : decode cX4_setDatum 20 = .ok (.iconst 0, 1) := by decide +kernel
theorem dX4_setDatum_21 : decode cX4_setDatum 21 = .ok (.sipush 255, 3) := by decide +kernel
theorem dX4_setDatum_24 : decode cX4_setDatum 24 = .ok (.invokestatic 45, 3) := by decide +kernel
theorem dX4_setDatum_27 : decode cX4_setDatum 27 = .ok (.ifCond .ne 7, 3) := by decide +kernel
theorem dX4_setDatum_30 : decode cX4_setDatum 30 = .ok (.iconst 2, 1) := by decide +kernel
theorem dX4_setDatum_31 : decode cX4_setDatum 31 = .ok (.goto 15, 3) := by decide +kernel
theorem dX4_setDatum_34 : decode cX4_setDatum 34 = .ok (.aload_n 0, 1) := by decide +kernel
theorem dX4_setDatum_35 : decode cX4_setDatum 35 = .ok (.getfield 49, 3) := by decide +kernel
theorem dX4_setDatum_38 : decode cX4_setDatum 38 = .ok (.ifCond .le 7, 3) := by decide +kernel
theorem dX4_setDatum_41 : decode cX4_setDatum 41 = .ok (.iconst 3, 1) := by decide +kernel
theorem dX4_setDatum_42 : decode cX4_setDatum 42 = .ok (.goto 4, 3) := by decide +kernel
theorem dX4_setDatum_45 : decode cX4_setDatum 45 = .ok (.iconst 0, 1) := by decide +kernel
theorem dX4_setDatum_46 : decode cX4_setDatum 46 = .ok (.putfield 39, 3) := by decide +kernel
theorem dX4_setDatum_49 : decode cX4_setDatum 49 = .ok (.aload_n 0, 1) := by decide +kernel
theorem dX4_setDatum_50 : decode cX4_setDatum 50 = .ok (.getfield 39, 3) := by decide +kernel
theorem dX4_setDatum_53 : decode cX4_setDatum 53 = .ok (.ifCond .le 5, 3) := by decide +kernel
theorem dX4_setDatum_56 : decode cX4_setDatum 56 = .ok (.iconst 0, 1) := by decide +kernel
theorem dX4_setDatum_57 : decode cX4_setDatum 57 = .ok (.ireturn, 1) := by decide +kernel
theorem dX4_setDatum_58 : decode cX4_setDatum 58 = .ok (.aload_n 0, 1) := by decide +kernel
theorem dX4_setDatum_59 : decode cX4_setDatum 59 = .ok (.getfield 7, 3) := by decide +kernel
theorem dX4_setDatum_62 : decode cX4_setDatum 62 = .ok (.iload_n 1, 1) := by decide +kernel
theorem dX4_setDatum_63 : decode cX4_setDatum 63 = .ok (.iaload, 1) := by decide +kernel
theorem dX4_setDatum_64 : decode cX4_setDatum 64 = .ok (.istore_n 3, 1) := by decide +kernel
theorem dX4_setDatum_65 : decode cX4_setDatum 65 = .ok (.aload_n 0, 1) := by decide +kernel
theorem dX4_setDatum_66 : decode cX4_setDatum 66 = .ok (.getfield 7, 3) := by decide +kernel
theorem dX4_setDatum_69 : decode cX4_setDatum 69 = .ok (.iload_n 1, 1) := by decide +kernel
theorem dX4_setDatum_70 : decode cX4_setDatum 70 = .ok (.iload_n 2, 1) := by decide +kernel
theorem dX4_setDatum_71 : decode cX4_setDatum 71 = .ok (.iastore, 1) := by decide +kernel
theorem dX4_setDatum_72 : decode cX4_setDatum 72 = .ok (.iload_n 3, 1) := by decide +kernel
theorem dX4_setDatum_73 : decode cX4_setDatum 73 = .ok (.ireturn, 1) := by decide +kernel
set_option maxRecDepth 20000 in
theorem ggX4_join_X4_in : GoodIn wsX4_join wsX4_in := goodIn_r _ [11] (by decide +kernel) (by decide +kernel)
set_option maxRecDepth 20000 in
theorem gX4_join_X4_in : GoodIn wsX4_join (va_wsS RX4 45 yX4_in wsX4_in) := goodIn_app (goodIn_of _ (by decide +kernel)) ggX4_join_X4_in
theorem dX4_join_0 : decode cX4_join 0 = .ok (.aload_n 0, 1) := by decide +kernel
theorem dX4_join_1 : decode cX4_join 1 = .ok (.iload_n 1, 1) := by decide +kernel
theorem dX4_join_2 : decode cX4_join 2 = .ok (.iconst 0, 1) := by decide +kernel
theorem dX4_join_3 : decode cX4_join 3 = .ok (.sipush 2047, 3) := by decide +kernel
theorem dX4_join_6 : decode cX4_join 6 = .ok (.invokestatic 45, 3) := by decide +kernel
theorem dX4_join_9 : decode cX4_join 9 = .ok (.ifCond .eq 13, 3) := by decide +kernel
theorem dX4_join_12 : decode cX4_join 12 = .ok (.iload_n 2, 1) := by decide +kernel
theorem dX4_join_13 : decode cX4_join 13 = .ok (.iconst 0, 1) := by decide +kernel
theorem dX4_join_14 : decode cX4_join 14 = .ok (.bipush 20, 2) := by decide +kernel
theorem dX4_join_16 : decode cX4_join 16 = .ok (.invokestatic 45, 3) := by decide +kernel
theorem dX4_join_19 : decode cX4_join 19 = .ok (.ifCond .ne 7, 3) := by decide +kernel
theorem dX4_join_22 : decode cX4_join 22 = .ok (.iconst 1, 1) := by decide +kernel
theorem dX4_join_23 : decode cX4_join 23 = .ok (.goto 17, 3) := by decide +kernel
theorem dX4_join_26 : decode cX4_join 26 = .ok (.aload_n 0, 1) := by decide +kernel
theorem dX4_join_27 : decode cX4_join 27 = .ok (.getfield 42, 3) := by decide +kernel
theorem dX4_join_30 : decode cX4_join 30 = .ok (.bipush 6, 2) := by decide +kernel
theorem dX4_join_32 : decode cX4_join 32 = .ok (.if_icmp .ne 7, 3) := by decide +kernel
theorem dX4_join_35 : decode cX4_join 35 = .ok (.iconst 2, 1) := by decide +kernel
theorem dX4_join_36 : decode cX4_join 36 = .ok (.goto 4, 3) := by decide +kernel
theorem dX4_join_39 : decode cX4_join 39 = .ok (.iconst 0, 1) := by decide +kernel
theorem dX4_join_40 : decode cX4_join 40 = .ok (.putfield 39, 3) := by decide +kernel
theorem dX4_join_43 : decode cX4_join 43 = .ok (.aload_n 0, 1) := by decide +kernel
theorem dX4_join_44 : decode cX4_join 44 = .ok (.getfield 39, 3) := by decide +kernel
theorem dX4_join_47 : decode cX4_join 47 = .ok (.ifCond .le 5, 3) := by decide +kernel
theorem dX4_join_50 : decode cX4_join 50 = .ok (.iconst 0, 1) := by decide +kernel
theorem dX4_join_51 : decode cX4_join 51 = .ok (.ireturn, 1) := by decide +kernel
theorem dX4_join_52 : decode cX4_join 52 = .ok (.aload_n 0, 1) := by decide +kernel
theorem dX4_join_53 : decode cX4_join 53 = .ok (.getfield 13, 3) := by decide +kernel
theorem dX4_join_56 : decode cX4_join 56 = .ok (.aload_n 0, 1) := by decide +kernel
theorem dX4_join_57 : decode cX4_join 57 = .ok (.getfield 42, 3) := by decide +kernel
theorem dX4_join_60 : decode cX4_join 60 = .ok (.iload_n 1, 1) := by decide +kernel
theorem dX4_join_61 : decode cX4_join 61 = .ok (.iastore, 1) := by decide +kernel
theorem dX4_join_62 : decode cX4_join 62 = .ok (.aload_n 0, 1) := by decide +kernel
theorem dX4_join_63 : decode cX4_join 63 = .ok (.getfield 16, 3) := by decide +kernel
theorem dX4_join_66 : decode cX4_join 66 = .ok (.aload_n 0, 1) := by decide +kernel
theorem dX4_join_67 : decode cX4_join 67 = .ok (.getfield 42, 3) := by decide +kernel
theorem dX4_join_70 : decode cX4_join 70 = .ok (.iload_n 2, 1) := by decide +kernel
theorem dX4_join_71 : decode cX4_join 71 = .ok (.iastore, 1) := by decide +kernel
theorem dX4_join_72 : decode cX4_join 72 = .ok (.aload_n 0, 1) := by decide +kernel
theorem dX4_join_73 : decode cX4_join 73 = .ok (.getfield 19, 3) := by decide +kernel
theorem dX4_join_76 : decode cX4_join 76 = .ok (.aload_n 0, 1) := by decide +kernel
theorem dX4_join_77 : decode cX4_join 77 = .ok (.getfield 42, 3) := by decide +kernel
theorem dX4_join_80 : decode cX4_join 80 = .ok (.iconst 0, 1) := by decide +kernel
theorem dX4_join_81 : decode cX4_join 81 = .ok (.iastore, 1) := by decide +kernel
theorem dX4_join_82 : decode cX4_join 82 = .ok (.aload_n 0, 1) := by decide +kernel
theorem dX4_join_83 : decode cX4_join 83 = .ok (.getfield 22, 3) := by decide +kernel
theorem dX4_join_86 : decode cX4_join 86 = .ok (.aload_n 0, 1) := by decide +kernel
theorem dX4_join_87 : decode cX4_join 87 = .ok (.getfield 42, 3) := by decide +kernel
theorem dX4_join_90 : decode cX4_join 90 = .ok (.iconst 0, 1) := by decide +kernel
theorem dX4_join_91 : decode cX4_join 91 = .ok (.iastore, 1) := by decide +kernel
theorem dX4_join_92 : decode cX4_join 92 = .ok (.aload_n 0, 1) := by decide +kernel
theorem dX4_join_93 : decode cX4_join 93 = .ok (.getfield 25, 3) := by decide +kernel
theorem dX4_join_96 : decode cX4_join 96 = .ok (.aload_n 0, 1) := by decide +kernel
theorem dX4_join_97 : decode cX4_join 97 = .ok (.getfield 42, 3) := by decide +kernel
theorem dX4_join_100 : decode cX4_join 100 = .ok (.iconst 0, 1) := by decide +kernel
theorem dX4_join_101 : decode cX4_join 101 = .ok (.bastore, 1) := by decide +kernel
theorem dX4_join_102 : decode cX4_join 102 = .ok (.aload_n 0, 1) := by decide +kernel
theorem dX4_join_103 : decode cX4_join 103 = .ok (.dup, 1) := by decide +kernel
theorem dX4_join_104 : decode cX4_join 104 = .ok (.getfield 42, 3) := by decide +kernel
theorem dX4_join_107 : decode cX4_join 107 = .ok (.iconst 1, 1) := by decide +kernel
theorem dX4_join_108 : decode cX4_join 108 = .ok (.iadd, 1) := by decide +kernel
theorem dX4_join_109 : decode cX4_join 109 = .ok (.putfield 42, 3) := by decide +kernel
theorem dX4_join_112 : decode cX4_join 112 = .ok (.aload_n 0, 1) := by decide +kernel
theorem dX4_join_113 : decode cX4_join 113 = .ok (.getfield 42, 3) := by decide +kernel
theorem dX4_join_116 : decode cX4_join 116 = .ok (.iconst 1, 1) := by decide +kernel
theorem dX4_join_117 : decode cX4_join 117 = .ok (.isub, 1) := by decide +kernel
theorem dX4_join_118 : decode cX4_join 118 = .ok (.ireturn, 1) := by decide +kernel
set_option maxRecDepth 20000 in
theorem ggX4_setLosses_X4_isReceiver : GoodIn wsX4_setLosses wsX4_isReceiver := goodIn_r _ [7, 8, 9, 10, 6, 11, 12, 13, 14, 15, 16, 17, 18, 19, 20, 21, 22, 23, 24, 25] (by decide +kernel) (by decide +kernel)
set_option maxRecDepth 20000 in
theorem gX4_setLosses_X4_isReceiver : GoodIn wsX4_setLosses (wsV RX4 58 RX4 yX4_isReceiver wsX4_isReceiver) := goodIn_app (goodIn_of _ (by decide +kernel)) ggX4_setLosses_X4_isReceiver
set_option maxRecDepth 20000 in
theorem ggX4_setLosses_X4_in : GoodIn wsX4_setLosses wsX4_in := goodIn_r _ [11] (by decide +kernel) (by decide +kernel)
set_option maxRecDepth 20000 in
theorem gX4_setLosses_X4_in : GoodIn wsX4_setLosses (va_wsS RX4 45 yX4_in wsX4_in) := goodIn_app (goodIn_of _ (by decide +kernel)) ggX4_setLosses_X4_in
theorem dX4_setLosses_0 : decode cX4_setLosses 0 = .ok (.aload_n 0, 1) := by decide +kernel
theorem dX4_setLosses_1 : decode cX4_setLosses 1 = .ok (.aload_n 0, 1) := by decide +kernel
theorem dX4_setLosses_2 : decode cX4_setLosses 2 = .ok (.iload_n 1, 1) := by decide +kernel
theorem dX4_setLosses_3 : decode cX4_setLosses 3 = .ok (.invokevirtual 58, 3) := by decide +kernel
theorem dX4_setLosses_6 : decode cX4_setLosses 6 = .ok (.ifCond .ne 7, 3) := by decide +kernel
theorem dX4_setLosses_9 : decode cX4_setLosses 9 = .ok (.iconst 1, 1) := by decide +kernel
theorem dX4_setLosses_10 : decode cX4_setLosses 10 = .ok (.goto 19, 3) := by decide +kernel
theorem dX4_setLosses_13 : decode cX4_setLosses 13 = .ok (.iload_n 2, 1) := by decide +kernel
theorem dX4_setLosses_14 : decode cX4_setLosses 14 = .ok (.iconst 0, 1) := by decide +kernel
theorem dX4_setLosses_15 : decode cX4_setLosses 15 = .ok (.sipush 2047, 3) := by decide +kernel
theorem dX4_setLosses_18 : decode cX4_setLosses 18 = .ok (.invokestatic 45, 3) := by decide +kernel
theorem dX4_setLosses_21 : decode cX4_setLosses 21 = .ok (.ifCond .ne 7, 3) := by decide +kernel
theorem dX4_setLosses_24 : decode cX4_setLosses 24 = .ok (.iconst 2, 1) := by decide +kernel
theorem dX4_setLosses_25 : decode cX4_setLosses 25 = .ok (.goto 4, 3) := by decide +kernel
theorem dX4_setLosses_28 : decode cX4_setLosses 28 = .ok (.iconst 0, 1) := by decide +kernel
theorem dX4_setLosses_29 : decode cX4_setLosses 29 = .ok (.putfield 39, 3) := by decide +kernel
theorem dX4_setLosses_32 : decode cX4_setLosses 32 = .ok (.aload_n 0, 1) := by decide +kernel
theorem dX4_setLosses_33 : decode cX4_setLosses 33 = .ok (.getfield 39, 3) := by decide +kernel
theorem dX4_setLosses_36 : decode cX4_setLosses 36 = .ok (.ifCond .le 5, 3) := by decide +kernel
theorem dX4_setLosses_39 : decode cX4_setLosses 39 = .ok (.iconst 0, 1) := by decide +kernel
theorem dX4_setLosses_40 : decode cX4_setLosses 40 = .ok (.ireturn, 1) := by decide +kernel
theorem dX4_setLosses_41 : decode cX4_setLosses 41 = .ok (.aload_n 0, 1) := by decide +kernel
theorem dX4_setLosses_42 : decode cX4_setLosses 42 = .ok (.getfield 13, 3) := by decide +kernel
theorem dX4_setLosses_45 : decode cX4_setLosses 45 = .ok (.iload_n 1, 1) := by decide +kernel
theorem dX4_setLosses_46 : decode cX4_setLosses 46 = .ok (.iaload, 1) := by decide +kernel
theorem dX4_setLosses_47 : decode cX4_setLosses 47 = .ok (.istore_n 3, 1) := by decide +kernel
theorem dX4_setLosses_48 : decode cX4_setLosses 48 = .ok (.aload_n 0, 1) := by decide +kernel
theorem dX4_setLosses_49 : decode cX4_setLosses 49 = .ok (.getfield 13, 3) := by decide +kernel
theorem dX4_setLosses_52 : decode cX4_setLosses 52 = .ok (.iload_n 1, 1) := by decide +kernel
theorem dX4_setLosses_53 : decode cX4_setLosses 53 = .ok (.iload_n 2, 1) := by decide +kernel
theorem dX4_setLosses_54 : decode cX4_setLosses 54 = .ok (.iastore, 1) := by decide +kernel
theorem dX4_setLosses_55 : decode cX4_setLosses 55 = .ok (.iload_n 3, 1) := by decide +kernel
theorem dX4_setLosses_56 : decode cX4_setLosses 56 = .ok (.ireturn, 1) := by decide +kernel
set_option maxRecDepth 20000 in
theorem ggX4_setWait_X4_isReceiver : GoodIn wsX4_setWait wsX4_isReceiver := goodIn_r _ [7, 8, 9, 10, 6, 11, 12, 13, 14, 15, 16, 17, 18, 19, 20, 21, 22, 23, 24, 25] (by decide +kernel) (by decide +kernel)
set_option maxRecDepth 20000 in
theorem gX4_setWait_X4_isReceiver : GoodIn wsX4_setWait (wsV RX4 58 RX4 yX4_isReceiver wsX4_isReceiver) := goodIn_app (goodIn_of _ (by decide +kernel)) ggX4_setWait_X4_isReceiver
set_option maxRecDepth 20000 in
theorem ggX4_setWait_X4_in : GoodIn wsX4_setWait wsX4_in := goodIn_r _ [11] (by decide +kernel) (by decide +kernel)
set_option maxRecDepth 20000 in
theorem gX4_setWait_X4_in : GoodIn wsX4_setWait (va_wsS RX4 45 yX4_in wsX4_in) := goodIn_app (goodIn_of _ (by decide +kernel)) ggX4_setWait_X4_in
theorem dX4_setWait_0 : decode cX4_setWait 0 = .ok (.aload_n 0, 1) := by decide +kernel
theorem dX4_setWait_1 : decode cX4_setWait 1 = .ok (.aload_n 0, 1) := by decide +kernel
theorem dX4_setWait_2 : decode cX4_setWait 2 = .ok (.iload_n 1, 1) := by decide +kernel
theorem dX4_setWait_3 : decode cX4_setWait 3 = .ok (.invokevirtual 58, 3) := by decide +kernel
theorem dX4_setWait_6 : decode cX4_setWait 6 = .ok (.ifCond .ne 7, 3) := by decide +kernel
theorem dX4_setWait_9 : decode cX4_setWait 9 = .ok (.iconst 1, 1) := by decide +kernel
theorem dX4_setWait_10 : decode cX4_setWait 10 = .ok (.goto 18, 3) := by decide +kernel
theorem dX4_setWait_13 : decode cX4_setWait 13 = .ok (.iload_n 2, 1) := by decide +kernel
theorem dX4_setWait_14 : decode cX4_setWait 14 = .ok (.iconst 0, 1) := by decide +kernel
theorem dX4_setWait_15 : decode cX4_setWait 15 = .ok (.bipush 20, 2) := by decide +kernel
theorem dX4_setWait_17 : decode cX4_setWait 17 = .ok (.invokestatic 45, 3) := by decide +kernel
theorem dX4_setWait_20 : decode cX4_setWait 20 = .ok (.ifCond .ne 7, 3) := by decide +kernel
theorem dX4_setWait_23 : decode cX4_setWait 23 = .ok (.iconst 2, 1) := by decide +kernel
theorem dX4_setWait_24 : decode cX4_setWait 24 = .ok (.goto 4, 3) := by decide +kernel
theorem dX4_setWait_27 : decode cX4_setWait 27 = .ok (.iconst 0, 1) := by decide +kernel
theorem dX4_setWait_28 : decode cX4_setWait 28 = .ok (.putfield 39, 3) := by decide +kernel
theorem dX4_setWait_31 : decode cX4_setWait 31 = .ok (.aload_n 0, 1) := by decide +kernel
theorem dX4_setWait_32 : decode cX4_setWait 32 = .ok (.getfield 39, 3) := by decide +kernel
theorem dX4_setWait_35 : decode cX4_setWait 35 = .ok (.ifCond .le 5, 3) := by decide +kernel
theorem dX4_setWait_38 : decode cX4_setWait 38 = .ok (.iconst 0, 1) := by decide +kernel
theorem dX4_setWait_39 : decode cX4_setWait 39 = .ok (.ireturn, 1) := by decide +kernel
theorem dX4_setWait_40 : decode cX4_setWait 40 = .ok (.aload_n 0, 1) := by decide +kernel
theorem dX4_setWait_41 : decode cX4_setWait 41 = .ok (.getfield 16, 3) := by decide +kernel
theorem dX4_setWait_44 : decode cX4_setWait 44 = .ok (.iload_n 1, 1) := by decide +kernel
theorem dX4_setWait_45 : decode cX4_setWait 45 = .ok (.iaload, 1) := by decide +kernel
theorem dX4_setWait_46 : decode cX4_setWait 46 = .ok (.istore_n 3, 1) := by decide +kernel
theorem dX4_setWait_47 : decode cX4_setWait 47 = .ok (.aload_n 0, 1) := by decide +kernel
theorem dX4_setWait_48 : decode cX4_setWait 48 = .ok (.getfield 16, 3) := by decide +kernel
theorem dX4_setWait_51 : decode cX4_setWait 51 = .ok (.iload_n 1, 1) := by decide +kernel
theorem dX4_setWait_52 : decode cX4_setWait 52 = .ok (.iload_n 2, 1) := by decide +kernel
theorem dX4_setWait_53 : decode cX4_setWait 53 = .ok (.iastore, 1) := by decide +kernel
theorem dX4_setWait_54 : decode cX4_setWait 54 = .ok (.iload_n 3, 1) := by decide +kernel
theorem dX4_setWait_55 : decode cX4_setWait 55 = .ok (.ireturn, 1) := by decide +kernel
theorem dX4_needOf_0 : decode cX4_needOf 0 = .ok (.aload_n 0, 1) := by decide +kernel
theorem dX4_needOf_1 : decode cX4_needOf 1 = .ok (.getfield 32, 3) := by decide +kernel
theorem dX4_needOf_4 : decode cX4_needOf 4 = .ok (.istore_n 2, 1) := by decide +kernel
theorem dX4_needOf_5 : decode cX4_needOf 5 = .ok (.iconst 0, 1) := by decide +kernel
theorem dX4_needOf_6 : decode cX4_needOf 6 = .ok (.istore_n 3, 1) := by decide +kernel
theorem dX4_needOf_7 : decode cX4_needOf 7 = .ok (.iload_n 3, 1) := by decide +kernel
theorem dX4_needOf_8 : decode cX4_needOf 8 = .ok (.bipush 16, 2) := by decide +kernel
theorem dX4_needOf_10 : decode cX4_needOf 10 = .ok (.if_icmp .ge 22, 3) := by decide +kernel
theorem dX4_needOf_13 : decode cX4_needOf 13 = .ok (.iload_n 2, 1) := by decide +kernel
theorem dX4_needOf_14 : decode cX4_needOf 14 = .ok (.aload_n 0, 1) := by decide +kernel
theorem dX4_needOf_15 : decode cX4_needOf 15 = .ok (.getfield 19, 3) := by decide +kernel
theorem dX4_needOf_18 : decode cX4_needOf 18 = .ok (.iload_n 1, 1) := by decide +kernel
theorem dX4_needOf_19 : decode cX4_needOf 19 = .ok (.iaload, 1) := by decide +kernel
theorem dX4_needOf_20 : decode cX4_needOf 20 = .ok (.iload_n 3, 1) := by decide +kernel
theorem dX4_needOf_21 : decode cX4_needOf 21 = .ok (.ishr, 1) := by decide +kernel
theorem dX4_needOf_22 : decode cX4_needOf 22 = .ok (.iconst 1, 1) := by decide +kernel
theorem dX4_needOf_23 : decode cX4_needOf 23 = .ok (.iand, 1) := by decide +kernel
theorem dX4_needOf_24 : decode cX4_needOf 24 = .ok (.isub, 1) := by decide +kernel
theorem dX4_needOf_25 : decode cX4_needOf 25 = .ok (.istore_n 2, 1) := by decide +kernel
theorem dX4_needOf_26 : decode cX4_needOf 26 = .ok (.iinc 3 1, 3) := by decide +kernel
theorem dX4_needOf_29 : decode cX4_needOf 29 = .ok (.goto (-22), 3) := by decide +kernel
theorem dX4_needOf_32 : decode cX4_needOf 32 = .ok (.iload_n 2, 1) := by decide +kernel
theorem dX4_needOf_33 : decode cX4_needOf 33 = .ok (.ifCond .ge 7, 3) := by decide +kernel
theorem dX4_needOf_36 : decode cX4_needOf 36 = .ok (.iconst 0, 1) := by decide +kernel
theorem dX4_needOf_37 : decode cX4_needOf 37 = .ok (.goto 4, 3) := by decide +kernel
theorem dX4_needOf_40 : decode cX4_needOf 40 = .ok (.iload_n 2, 1) := by decide +kernel
theorem dX4_needOf_41 : decode cX4_needOf 41 = .ok (.ireturn, 1) := by decide +kernel
theorem dX4_sendOne_0 : decode cX4_sendOne 0 = .ok (.aload_n 0, 1) := by decide +kernel
theorem dX4_sendOne_1 : decode cX4_sendOne 1 = .ok (.getfield 49, 3) := by decide +kernel
theorem dX4_sendOne_4 : decode cX4_sendOne 4 = .ok (.bipush 16, 2) := by decide +kernel
theorem dX4_sendOne_6 : decode cX4_sendOne 6 = .ok (.irem, 1) := by decide +kernel
theorem dX4_sendOne_7 : decode cX4_sendOne 7 = .ok (.istore_n 1, 1) := by decide +kernel
theorem dX4_sendOne_8 : decode cX4_sendOne 8 = .ok (.iconst 0, 1) := by decide +kernel
theorem dX4_sendOne_9 : decode cX4_sendOne 9 = .ok (.istore_n 2, 1) := by decide +kernel
theorem dX4_sendOne_10 : decode cX4_sendOne 10 = .ok (.iload_n 2, 1) := by decide +kernel
theorem dX4_sendOne_11 : decode cX4_sendOne 11 = .ok (.aload_n 0, 1) := by decide +kernel
theorem dX4_sendOne_12 : decode cX4_sendOne 12 = .ok (.getfield 42, 3) := by decide +kernel
theorem dX4_sendOne_15 : decode cX4_sendOne 15 = .ok (.if_icmp .ge 64, 3) := by decide +kernel
theorem dX4_sendOne_18 : decode cX4_sendOne 18 = .ok (.aload_n 0, 1) := by decide +kernel
theorem dX4_sendOne_19 : decode cX4_sendOne 19 = .ok (.getfield 13, 3) := by decide +kernel
theorem dX4_sendOne_22 : decode cX4_sendOne 22 = .ok (.iload_n 2, 1) := by decide +kernel
theorem dX4_sendOne_23 : decode cX4_sendOne 23 = .ok (.iaload, 1) := by decide +kernel
theorem dX4_sendOne_24 : decode cX4_sendOne 24 = .ok (.aload_n 0, 1) := by decide +kernel
theorem dX4_sendOne_25 : decode cX4_sendOne 25 = .ok (.getfield 49, 3) := by decide +kernel
theorem dX4_sendOne_28 : decode cX4_sendOne 28 = .ok (.bipush 11, 2) := by decide +kernel
theorem dX4_sendOne_30 : decode cX4_sendOne 30 = .ok (.irem, 1) := by decide +kernel
theorem dX4_sendOne_31 : decode cX4_sendOne 31 = .ok (.ishr, 1) := by decide +kernel
theorem dX4_sendOne_32 : decode cX4_sendOne 32 = .ok (.iconst 1, 1) := by decide +kernel
theorem dX4_sendOne_33 : decode cX4_sendOne 33 = .ok (.iand, 1) := by decide +kernel
theorem dX4_sendOne_34 : decode cX4_sendOne 34 = .ok (.iconst 1, 1) := by decide +kernel
theorem dX4_sendOne_35 : decode cX4_sendOne 35 = .ok (.if_icmp .ne 7, 3) := by decide +kernel
theorem dX4_sendOne_38 : decode cX4_sendOne 38 = .ok (.iconst 1, 1) := by decide +kernel
theorem dX4_sendOne_39 : decode cX4_sendOne 39 = .ok (.goto 4, 3) := by decide +kernel
theorem dX4_sendOne_42 : decode cX4_sendOne 42 = .ok (.iconst 0, 1) := by decide +kernel
theorem dX4_sendOne_43 : decode cX4_sendOne 43 = .ok (.istore_n 3, 1) := by decide +kernel
theorem dX4_sendOne_44 : decode cX4_sendOne 44 = .ok (.aload_n 0, 1) := by decide +kernel
theorem dX4_sendOne_45 : decode cX4_sendOne 45 = .ok (.getfield 19, 3) := by decide +kernel
theorem dX4_sendOne_48 : decode cX4_sendOne 48 = .ok (.iload_n 2, 1) := by decide +kernel
theorem dX4_sendOne_49 : decode cX4_sendOne 49 = .ok (.dup2, 1) := by decide +kernel
theorem dX4_sendOne_50 : decode cX4_sendOne 50 = .ok (.iaload, 1) := by decide +kernel
theorem dX4_sendOne_51 : decode cX4_sendOne 51 = .ok (.aload_n 0, 1) := by decide +kernel
theorem dX4_sendOne_52 : decode cX4_sendOne 52 = .ok (.getfield 25, 3) := by decide +kernel
theorem dX4_sendOne_55 : decode cX4_sendOne 55 = .ok (.iload_n 2, 1) := by decide +kernel
theorem dX4_sendOne_56 : decode cX4_sendOne 56 = .ok (.baload, 1) := by decide +kernel
theorem dX4_sendOne_57 : decode cX4_sendOne 57 = .ok (.ifCond .ne 7, 3) := by decide +kernel
theorem dX4_sendOne_60 : decode cX4_sendOne 60 = .ok (.iload_n 3, 1) := by decide +kernel
theorem dX4_sendOne_61 : decode cX4_sendOne 61 = .ok (.ifCond .eq 7, 3) := by decide +kernel
theorem dX4_sendOne_64 : decode cX4_sendOne 64 = .ok (.iconst 0, 1) := by decide +kernel
theorem dX4_sendOne_65 : decode cX4_sendOne 65 = .ok (.goto 6, 3) := by decide +kernel
theorem dX4_sendOne_68 : decode cX4_sendOne 68 = .ok (.iconst 1, 1) := by decide +kernel
theorem dX4_sendOne_69 : decode cX4_sendOne 69 = .ok (.iload_n 1, 1) := by decide +kernel
theorem dX4_sendOne_70 : decode cX4_sendOne 70 = .ok (.ishl, 1) := by decide +kernel
theorem dX4_sendOne_71 : decode cX4_sendOne 71 = .ok (.ior, 1) := by decide +kernel
theorem dX4_sendOne_72 : decode cX4_sendOne 72 = .ok (.iastore, 1) := by decide +kernel
theorem dX4_sendOne_73 : decode cX4_sendOne 73 = .ok (.iinc 2 1, 3) := by decide +kernel
theorem dX4_sendOne_76 : decode cX4_sendOne 76 = .ok (.goto (-66), 3) := by decide +kernel
theorem dX4_sendOne_79 : decode cX4_sendOne 79 = .ok (.aload_n 0, 1) := by decide +kernel
theorem dX4_sendOne_80 : decode cX4_sendOne 80 = .ok (.dup, 1) := by decide +kernel
theorem dX4_sendOne_81 : decode cX4_sendOne 81 = .ok (.getfield 49, 3) := by decide +kernel
theorem dX4_sendOne_84 : decode cX4_sendOne 84 = .ok (.iconst 1, 1) := by decide +kernel
theorem dX4_sendOne_85 : decode cX4_sendOne 85 = .ok (.iadd, 1) := by decide +kernel
theorem dX4_sendOne_86 : decode cX4_sendOne 86 = .ok (.putfield 49, 3) := by decide +kernel
theorem dX4_sendOne_89 : decode cX4_sendOne 89 = .ok (.return_, 1) := by decide +kernel
set_option maxRecDepth 20000 in
theorem ggX4_send_X4_in : GoodIn wsX4_send wsX4_in := goodIn_r _ [8] (by decide +kernel) (by decide +kernel)
set_option maxRecDepth 20000 in
theorem gX4_send_X4_in : GoodIn wsX4_send (va_wsS RX4 45 yX4_in wsX4_in) := goodIn_app (goodIn_of _ (by decide +kernel)) ggX4_send_X4_in
set_option maxRecDepth 20000 in
theorem ggX4_send_X4_sendOne : GoodIn wsX4_send wsX4_sendOne := goodIn_r _ [12, 1, 3, 13, 14, 4, 20, 21, 22, 23, 24, 25, 26, 27, 28, 29, 30, 31, 32, 33] (by decide +kernel) (by decide +kernel)
set_option maxRecDepth 20000 in
theorem gX4_send_X4_sendOne : GoodIn wsX4_send (wsV RX4 62 RX4 yX4_sendOne wsX4_sendOne) := goodIn_app (goodIn_of _ (by decide +kernel)) ggX4_send_X4_sendOne
set_option maxRecDepth 20000 in
theorem ggX4_send_X4_needOf : GoodIn wsX4_send wsX4_needOf := goodIn_r _ [18, 19, 14, 20, 21, 22, 23, 24, 25, 26, 27, 28, 29, 30, 31, 32, 33] (by decide +kernel) (by decide +kernel)
set_option maxRecDepth 20000 in
theorem gX4_send_X4_needOf : GoodIn wsX4_send (wsV RX4 65 RX4 yX4_needOf wsX4_needOf) := goodIn_app (goodIn_of _ (by decide +kernel)) ggX4_send_X4_needOf
theorem dX4_send_0 : decode cX4_send 0 = .ok (.aload_n 0, 1) := by decide +kernel
theorem dX4_send_1 : decode cX4_send 1 = .ok (.iload_n 1, 1) := by decide +kernel
theorem dX4_send_2 : decode cX4_send 2 = .ok (.iconst 1, 1) := by decide +kernel
theorem dX4_send_3 : decode cX4_send 3 = .ok (.bipush 16, 2) := by decide +kernel
theorem dX4_send_5 : decode cX4_send 5 = .ok (.invokestatic 45, 3) := by decide +kernel
theorem dX4_send_8 : decode cX4_send 8 = .ok (.ifCond .ne 7, 3) := by decide +kernel
theorem dX4_send_11 : decode cX4_send 11 = .ok (.iconst 1, 1) := by decide +kernel
theorem dX4_send_12 : decode cX4_send 12 = .ok (.goto 20, 3) := by decide +kernel
theorem dX4_send_15 : decode cX4_send 15 = .ok (.aload_n 0, 1) := by decide +kernel
theorem dX4_send_16 : decode cX4_send 16 = .ok (.getfield 49, 3) := by decide +kernel
theorem dX4_send_19 : decode cX4_send 19 = .ok (.iload_n 1, 1) := by decide +kernel
theorem dX4_send_20 : decode cX4_send 20 = .ok (.iadd, 1) := by decide +kernel
theorem dX4_send_21 : decode cX4_send 21 = .ok (.sipush 10000, 3) := by decide +kernel
theorem dX4_send_24 : decode cX4_send 24 = .ok (.if_icmp .le 7, 3) := by decide +kernel
theorem dX4_send_27 : decode cX4_send 27 = .ok (.iconst 2, 1) := by decide +kernel
theorem dX4_send_28 : decode cX4_send 28 = .ok (.goto 4, 3) := by decide +kernel
theorem dX4_send_31 : decode cX4_send 31 = .ok (.iconst 0, 1) := by decide +kernel
theorem dX4_send_32 : decode cX4_send 32 = .ok (.putfield 39, 3) := by decide +kernel
theorem dX4_send_35 : decode cX4_send 35 = .ok (.iconst 0, 1) := by decide +kernel
theorem dX4_send_36 : decode cX4_send 36 = .ok (.istore_n 2, 1) := by decide +kernel
theorem dX4_send_37 : decode cX4_send 37 = .ok (.iconst 0, 1) := by decide +kernel
theorem dX4_send_38 : decode cX4_send 38 = .ok (.istore_n 3, 1) := by decide +kernel
theorem dX4_send_39 : decode cX4_send 39 = .ok (.iload_n 3, 1) := by decide +kernel
theorem dX4_send_40 : decode cX4_send 40 = .ok (.iload_n 1, 1) := by decide +kernel
theorem dX4_send_41 : decode cX4_send 41 = .ok (.if_icmp .ge 20, 3) := by decide +kernel
theorem dX4_send_44 : decode cX4_send 44 = .ok (.aload_n 0, 1) := by decide +kernel
theorem dX4_send_45 : decode cX4_send 45 = .ok (.getfield 39, 3) := by decide +kernel
theorem dX4_send_48 : decode cX4_send 48 = .ok (.ifCond .ne 13, 3) := by decide +kernel
theorem dX4_send_51 : decode cX4_send 51 = .ok (.aload_n 0, 1) := by decide +kernel
theorem dX4_send_52 : decode cX4_send 52 = .ok (.invokevirtual 62, 3) := by decide +kernel
theorem dX4_send_55 : decode cX4_send 55 = .ok (.iinc 3 1, 3) := by decide +kernel
theorem dX4_send_58 : decode cX4_send 58 = .ok (.goto (-19), 3) := by decide +kernel
theorem dX4_send_61 : decode cX4_send 61 = .ok (.iconst 0, 1) := by decide +kernel
theorem dX4_send_62 : decode cX4_send 62 = .ok (.istore_n 3, 1) := by decide +kernel
theorem dX4_send_63 : decode cX4_send 63 = .ok (.iload_n 3, 1) := by decide +kernel
theorem dX4_send_64 : decode cX4_send 64 = .ok (.aload_n 0, 1) := by decide +kernel
theorem dX4_send_65 : decode cX4_send 65 = .ok (.getfield 42, 3) := by decide +kernel
theorem dX4_send_68 : decode cX4_send 68 = .ok (.if_icmp .ge 41, 3) := by decide +kernel
theorem dX4_send_71 : decode cX4_send 71 = .ok (.aload_n 0, 1) := by decide +kernel
theorem dX4_send_72 : decode cX4_send 72 = .ok (.getfield 39, 3) := by decide +kernel
theorem dX4_send_75 : decode cX4_send 75 = .ok (.ifCond .ne 34, 3) := by decide +kernel
theorem dX4_send_78 : decode cX4_send 78 = .ok (.iload_n 2, 1) := by decide +kernel
theorem dX4_send_79 : decode cX4_send 79 = .ok (.aload_n 0, 1) := by decide +kernel
theorem dX4_send_80 : decode cX4_send 80 = .ok (.getfield 25, 3) := by decide +kernel
theorem dX4_send_83 : decode cX4_send 83 = .ok (.iload_n 3, 1) := by decide +kernel
theorem dX4_send_84 : decode cX4_send 84 = .ok (.baload, 1) := by decide +kernel
theorem dX4_send_85 : decode cX4_send 85 = .ok (.ifCond .ne 15, 3) := by decide +kernel
theorem dX4_send_88 : decode cX4_send 88 = .ok (.aload_n 0, 1) := by decide +kernel
theorem dX4_send_89 : decode cX4_send 89 = .ok (.iload_n 3, 1) := by decide +kernel
theorem dX4_send_90 : decode cX4_send 90 = .ok (.invokevirtual 65, 3) := by decide +kernel
theorem dX4_send_93 : decode cX4_send 93 = .ok (.ifCond .ne 7, 3) := by decide +kernel
theorem dX4_send_96 : decode cX4_send 96 = .ok (.iconst 1, 1) := by decide +kernel
theorem dX4_send_97 : decode cX4_send 97 = .ok (.goto 4, 3) := by decide +kernel
theorem dX4_send_100 : decode cX4_send 100 = .ok (.iconst 0, 1) := by decide +kernel
theorem dX4_send_101 : decode cX4_send 101 = .ok (.iadd, 1) := by decide +kernel
theorem dX4_send_102 : decode cX4_send 102 = .ok (.istore_n 2, 1) := by decide +kernel
theorem dX4_send_103 : decode cX4_send 103 = .ok (.iinc 3 1, 3) := by decide +kernel
theorem dX4_send_106 : decode cX4_send 106 = .ok (.goto (-43), 3) := by decide +kernel
theorem dX4_send_109 : decode cX4_send 109 = .ok (.iload_n 2, 1) := by decide +kernel
theorem dX4_send_110 : decode cX4_send 110 = .ok (.ireturn, 1) := by decide +kernel
set_option maxRecDepth 20000 in
theorem ggX4_layNeeds_X4_needOf : GoodIn wsX4_layNeeds wsX4_needOf := goodIn_r _ [8, 9, 10, 11, 12, 13, 14, 15, 16, 17, 18, 19, 20, 21, 22, 23, 24] (by decide +kernel) (by decide +kernel)
set_option maxRecDepth 20000 in
theorem gX4_layNeeds_X4_needOf : GoodIn wsX4_layNeeds (wsV RX4 65 RX4 yX4_needOf wsX4_needOf) := goodIn_app (goodIn_of _ (by decide +kernel)) ggX4_layNeeds_X4_needOf
theorem dX4_layNeeds_0 : decode cX4_layNeeds 0 = .ok (.iconst 0, 1) := by decide +kernel
theorem dX4_layNeeds_1 : decode cX4_layNeeds 1 = .ok (.istore_n 1, 1) := by decide +kernel
theorem dX4_layNeeds_2 : decode cX4_layNeeds 2 = .ok (.iload_n 1, 1) := by decide +kernel
theorem dX4_layNeeds_3 : decode cX4_layNeeds 3 = .ok (.aload_n 0, 1) := by decide +kernel
theorem dX4_layNeeds_4 : decode cX4_layNeeds 4 = .ok (.getfield 42, 3) := by decide +kernel
theorem dX4_layNeeds_7 : decode cX4_layNeeds 7 = .ok (.if_icmp .ge 33, 3) := by decide +kernel
theorem dX4_layNeeds_10 : decode cX4_layNeeds 10 = .ok (.aload_n 0, 1) := by decide +kernel
theorem dX4_layNeeds_11 : decode cX4_layNeeds 11 = .ok (.getfield 29, 3) := by decide +kernel
theorem dX4_layNeeds_14 : decode cX4_layNeeds 14 = .ok (.iload_n 1, 1) := by decide +kernel
theorem dX4_layNeeds_15 : decode cX4_layNeeds 15 = .ok (.aload_n 0, 1) := by decide +kernel
theorem dX4_layNeeds_16 : decode cX4_layNeeds 16 = .ok (.getfield 25, 3) := by decide +kernel
theorem dX4_layNeeds_19 : decode cX4_layNeeds 19 = .ok (.iload_n 1, 1) := by decide +kernel
theorem dX4_layNeeds_20 : decode cX4_layNeeds 20 = .ok (.baload, 1) := by decide +kernel
theorem dX4_layNeeds_21 : decode cX4_layNeeds 21 = .ok (.ifCond .eq 7, 3) := by decide +kernel
theorem dX4_layNeeds_24 : decode cX4_layNeeds 24 = .ok (.iconst 0, 1) := by decide +kernel
theorem dX4_layNeeds_25 : decode cX4_layNeeds 25 = .ok (.goto 8, 3) := by decide +kernel
theorem dX4_layNeeds_28 : decode cX4_layNeeds 28 = .ok (.aload_n 0, 1) := by decide +kernel
theorem dX4_layNeeds_29 : decode cX4_layNeeds 29 = .ok (.iload_n 1, 1) := by decide +kernel
theorem dX4_layNeeds_30 : decode cX4_layNeeds 30 = .ok (.invokevirtual 65, 3) := by decide +kernel
theorem dX4_layNeeds_33 : decode cX4_layNeeds 33 = .ok (.iastore, 1) := by decide +kernel
theorem dX4_layNeeds_34 : decode cX4_layNeeds 34 = .ok (.iinc 1 1, 3) := by decide +kernel
theorem dX4_layNeeds_37 : decode cX4_layNeeds 37 = .ok (.goto (-35), 3) := by decide +kernel
theorem dX4_layNeeds_40 : decode cX4_layNeeds 40 = .ok (.return_, 1) := by decide +kernel
theorem dX4_report_0 : decode cX4_report 0 = .ok (.iload_n 2, 1) := by decide +kernel
theorem dX4_report_1 : decode cX4_report 1 = .ok (.istore_n 3, 1) := by decide +kernel
theorem dX4_report_2 : decode cX4_report 2 = .ok (.iconst 0, 1) := by decide +kernel
theorem dX4_report_3 : decode cX4_report 3 = .ok (.istore 4, 2) := by decide +kernel
theorem dX4_report_5 : decode cX4_report 5 = .ok (.iload 4, 2) := by decide +kernel
theorem dX4_report_7 : decode cX4_report 7 = .ok (.aload_n 0, 1) := by decide +kernel
theorem dX4_report_8 : decode cX4_report 8 = .ok (.getfield 42, 3) := by decide +kernel
theorem dX4_report_11 : decode cX4_report 11 = .ok (.if_icmp .ge 109, 3) := by decide +kernel
theorem dX4_report_14 : decode cX4_report 14 = .ok (.aload_n 0, 1) := by decide +kernel
theorem dX4_report_15 : decode cX4_report 15 = .ok (.getfield 16, 3) := by decide +kernel
theorem dX4_report_18 : decode cX4_report 18 = .ok (.iload 4, 2) := by decide +kernel
theorem dX4_report_20 : decode cX4_report 20 = .ok (.iaload, 1) := by decide +kernel
theorem dX4_report_21 : decode cX4_report 21 = .ok (.iload_n 1, 1) := by decide +kernel
theorem dX4_report_22 : decode cX4_report 22 = .ok (.if_icmp .ne 92, 3) := by decide +kernel
theorem dX4_report_25 : decode cX4_report 25 = .ok (.aload_n 0, 1) := by decide +kernel
theorem dX4_report_26 : decode cX4_report 26 = .ok (.getfield 29, 3) := by decide +kernel
theorem dX4_report_29 : decode cX4_report 29 = .ok (.iload 4, 2) := by decide +kernel
theorem dX4_report_31 : decode cX4_report 31 = .ok (.iaload, 1) := by decide +kernel
theorem dX4_report_32 : decode cX4_report 32 = .ok (.ifCond .le 82, 3) := by decide +kernel
theorem dX4_report_35 : decode cX4_report 35 = .ok (.iload_n 2, 1) := by decide +kernel
theorem dX4_report_36 : decode cX4_report 36 = .ok (.aload_n 0, 1) := by decide +kernel
theorem dX4_report_37 : decode cX4_report 37 = .ok (.getfield 29, 3) := by decide +kernel
theorem dX4_report_40 : decode cX4_report 40 = .ok (.iload 4, 2) := by decide +kernel
theorem dX4_report_42 : decode cX4_report 42 = .ok (.iaload, 1) := by decide +kernel
theorem dX4_report_43 : decode cX4_report 43 = .ok (.if_icmp .lt 7, 3) := by decide +kernel
theorem dX4_report_46 : decode cX4_report 46 = .ok (.iconst 1, 1) := by decide +kernel
theorem dX4_report_47 : decode cX4_report 47 = .ok (.goto 4, 3) := by decide +kernel
theorem dX4_report_50 : decode cX4_report 50 = .ok (.iconst 0, 1) := by decide +kernel
theorem dX4_report_51 : decode cX4_report 51 = .ok (.istore 5, 2) := by decide +kernel
theorem dX4_report_53 : decode cX4_report 53 = .ok (.aload_n 0, 1) := by decide +kernel
theorem dX4_report_54 : decode cX4_report 54 = .ok (.dup, 1) := by decide +kernel
theorem dX4_report_55 : decode cX4_report 55 = .ok (.getfield 52, 3) := by decide +kernel
theorem dX4_report_58 : decode cX4_report 58 = .ok (.iload 5, 2) := by decide +kernel
theorem dX4_report_60 : decode cX4_report 60 = .ok (.ifCond .eq 7, 3) := by decide +kernel
theorem dX4_report_63 : decode cX4_report 63 = .ok (.iconst 0, 1) := by decide +kernel
theorem dX4_report_64 : decode cX4_report 64 = .ok (.goto 4, 3) := by decide +kernel
theorem dX4_report_67 : decode cX4_report 67 = .ok (.iconst 1, 1) := by decide +kernel
theorem dX4_report_68 : decode cX4_report 68 = .ok (.iadd, 1) := by decide +kernel
theorem dX4_report_69 : decode cX4_report 69 = .ok (.putfield 52, 3) := by decide +kernel
theorem dX4_report_72 : decode cX4_report 72 = .ok (.aload_n 0, 1) := by decide +kernel
theorem dX4_report_73 : decode cX4_report 73 = .ok (.dup, 1) := by decide +kernel
theorem dX4_report_74 : decode cX4_report 74 = .ok (.getfield 55, 3) := by decide +kernel
theorem dX4_report_77 : decode cX4_report 77 = .ok (.iload 5, 2) := by decide +kernel
theorem dX4_report_79 : decode cX4_report 79 = .ok (.ifCond .eq 7, 3) := by decide +kernel
theorem dX4_report_82 : decode cX4_report 82 = .ok (.iconst 1, 1) := by decide +kernel
theorem dX4_report_83 : decode cX4_report 83 = .ok (.goto 4, 3) := by decide +kernel
theorem dX4_report_86 : decode cX4_report 86 = .ok (.iconst 0, 1) := by decide +kernel
theorem dX4_report_87 : decode cX4_report 87 = .ok (.iadd, 1) := by decide +kernel
theorem dX4_report_88 : decode cX4_report 88 = .ok (.putfield 55, 3) := by decide +kernel
theorem dX4_report_91 : decode cX4_report 91 = .ok (.aload_n 0, 1) := by decide +kernel
theorem dX4_report_92 : decode cX4_report 92 = .ok (.getfield 29, 3) := by decide +kernel
theorem dX4_report_95 : decode cX4_report 95 = .ok (.iload 4, 2) := by decide +kernel
theorem dX4_report_97 : decode cX4_report 97 = .ok (.iaload, 1) := by decide +kernel
theorem dX4_report_98 : decode cX4_report 98 = .ok (.iload_n 3, 1) := by decide +kernel
theorem dX4_report_99 : decode cX4_report 99 = .ok (.if_icmp .le 13, 3) := by decide +kernel
theorem dX4_report_102 : decode cX4_report 102 = .ok (.aload_n 0, 1) := by decide +kernel
theorem dX4_report_103 : decode cX4_report 103 = .ok (.getfield 29, 3) := by decide +kernel
theorem dX4_report_106 : decode cX4_report 106 = .ok (.iload 4, 2) := by decide +kernel
theorem dX4_report_108 : decode cX4_report 108 = .ok (.iaload, 1) := by decide +kernel
theorem dX4_report_109 : decode cX4_report 109 = .ok (.goto 4, 3) := by decide +kernel
theorem dX4_report_112 : decode cX4_report 112 = .ok (.iload_n 3, 1) := by decide +kernel
theorem dX4_report_113 : decode cX4_report 113 = .ok (.istore_n 3, 1) := by decide +kernel
theorem dX4_report_114 : decode cX4_report 114 = .ok (.iinc 4 1, 3) := by decide +kernel
theorem dX4_report_117 : decode cX4_report 117 = .ok (.goto (-112), 3) := by decide +kernel
theorem dX4_report_120 : decode cX4_report 120 = .ok (.iload_n 3, 1) := by decide +kernel
theorem dX4_report_121 : decode cX4_report 121 = .ok (.ireturn, 1) := by decide +kernel
set_option maxRecDepth 20000 in
theorem ggX4_round_X4_layNeeds : GoodIn wsX4_round wsX4_layNeeds := goodIn_r _ [12, 3, 4, 6, 13, 14, 15, 11, 16, 17, 18, 31, 32, 33, 34, 35, 36, 37, 38, 39, 40, 41, 42, 43, 44] (by decide +kernel) (by decide +kernel)
set_option maxRecDepth 20000 in
theorem gX4_round_X4_layNeeds : GoodIn wsX4_round (wsV RX4 69 RX4 yX4_layNeeds wsX4_layNeeds) := goodIn_app (goodIn_of _ (by decide +kernel)) ggX4_round_X4_layNeeds
set_option maxRecDepth 20000 in
theorem ggX4_round_X4_report : GoodIn wsX4_round wsX4_report := goodIn_r _ [22, 3, 23, 4, 24, 25, 31, 32, 33, 34, 35, 36, 37, 38, 39, 40, 41, 42, 43, 44] (by decide +kernel) (by decide +kernel)
set_option maxRecDepth 20000 in
theorem gX4_round_X4_report : GoodIn wsX4_round (wsV RX4 72 RX4 yX4_report wsX4_report) := goodIn_app (goodIn_of _ (by decide +kernel)) ggX4_round_X4_report
set_option maxRecDepth 20000 in
theorem ggX4_round_X4_sendOne : GoodIn wsX4_round wsX4_sendOne := goodIn_r _ [29, 1, 3, 30, 18, 6, 31, 32, 33, 34, 35, 36, 37, 38, 39, 40, 41, 42, 43, 44] (by decide +kernel) (by decide +kernel)
set_option maxRecDepth 20000 in
theorem gX4_round_X4_sendOne : GoodIn wsX4_round (wsV RX4 62 RX4 yX4_sendOne wsX4_sendOne) := goodIn_app (goodIn_of _ (by decide +kernel)) ggX4_round_X4_sendOne
set_option maxRecDepth 20000 in
theorem ggX4_round_X4_needOf : GoodIn wsX4_round wsX4_needOf := goodIn_r _ [16, 17, 18, 31, 32, 33, 34, 35, 36, 37, 38, 39, 40, 41, 42, 43, 44] (by decide +kernel) (by decide +kernel)
set_option maxRecDepth 20000 in
theorem gX4_round_X4_needOf : GoodIn wsX4_round (wsV RX4 65 RX4 yX4_needOf wsX4_needOf) := goodIn_app (goodIn_of _ (by decide +kernel)) ggX4_round_X4_needOf
theorem dX4_round_0 : decode cX4_round 0 = .ok (.aload_n 0, 1) := by decide +kernel
theorem dX4_round_1 : decode cX4_round 1 = .ok (.aload_n 0, 1) := by decide +kernel
theorem dX4_round_2 : decode cX4_round 2 = .ok (.getfield 49, 3) := by decide +kernel
theorem dX4_round_5 : decode cX4_round 5 = .ok (.sipush 9992, 3) := by decide +kernel
theorem dX4_round_8 : decode cX4_round 8 = .ok (.if_icmp .le 7, 3) := by decide +kernel
theorem dX4_round_11 : decode cX4_round 11 = .ok (.iconst 1, 1) := by decide +kernel
theorem dX4_round_12 : decode cX4_round 12 = .ok (.goto 4, 3) := by decide +kernel
theorem dX4_round_15 : decode cX4_round 15 = .ok (.iconst 0, 1) := by decide +kernel
theorem dX4_round_16 : decode cX4_round 16 = .ok (.putfield 39, 3) := by decide +kernel
theorem dX4_round_19 : decode cX4_round 19 = .ok (.aload_n 0, 1) := by decide +kernel
theorem dX4_round_20 : decode cX4_round 20 = .ok (.getfield 39, 3) := by decide +kernel
theorem dX4_round_23 : decode cX4_round 23 = .ok (.ifCond .le 5, 3) := by decide +kernel
theorem dX4_round_26 : decode cX4_round 26 = .ok (.iconst 0, 1) := by decide +kernel
theorem dX4_round_27 : decode cX4_round 27 = .ok (.ireturn, 1) := by decide +kernel
theorem dX4_round_28 : decode cX4_round 28 = .ok (.aload_n 0, 1) := by decide +kernel
theorem dX4_round_29 : decode cX4_round 29 = .ok (.invokevirtual 69, 3) := by decide +kernel
theorem dX4_round_32 : decode cX4_round 32 = .ok (.iconst 0, 1) := by decide +kernel
theorem dX4_round_33 : decode cX4_round 33 = .ok (.istore_n 1, 1) := by decide +kernel
theorem dX4_round_34 : decode cX4_round 34 = .ok (.iconst 0, 1) := by decide +kernel
theorem dX4_round_35 : decode cX4_round 35 = .ok (.istore_n 2, 1) := by decide +kernel
theorem dX4_round_36 : decode cX4_round 36 = .ok (.iload_n 2, 1) := by decide +kernel
theorem dX4_round_37 : decode cX4_round 37 = .ok (.bipush 20, 2) := by decide +kernel
theorem dX4_round_39 : decode cX4_round 39 = .ok (.if_icmp .gt 16, 3) := by decide +kernel
theorem dX4_round_42 : decode cX4_round 42 = .ok (.aload_n 0, 1) := by decide +kernel
theorem dX4_round_43 : decode cX4_round 43 = .ok (.iload_n 2, 1) := by decide +kernel
theorem dX4_round_44 : decode cX4_round 44 = .ok (.iload_n 1, 1) := by decide +kernel
theorem dX4_round_45 : decode cX4_round 45 = .ok (.invokevirtual 72, 3) := by decide +kernel
theorem dX4_round_48 : decode cX4_round 48 = .ok (.istore_n 1, 1) := by decide +kernel
theorem dX4_round_49 : decode cX4_round 49 = .ok (.iinc 2 1, 3) := by decide +kernel
theorem dX4_round_52 : decode cX4_round 52 = .ok (.goto (-16), 3) := by decide +kernel
theorem dX4_round_55 : decode cX4_round 55 = .ok (.iconst 0, 1) := by decide +kernel
theorem dX4_round_56 : decode cX4_round 56 = .ok (.istore_n 2, 1) := by decide +kernel
theorem dX4_round_57 : decode cX4_round 57 = .ok (.iload_n 2, 1) := by decide +kernel
theorem dX4_round_58 : decode cX4_round 58 = .ok (.iload_n 1, 1) := by decide +kernel
theorem dX4_round_59 : decode cX4_round 59 = .ok (.if_icmp .ge 13, 3) := by decide +kernel
theorem dX4_round_62 : decode cX4_round 62 = .ok (.aload_n 0, 1) := by decide +kernel
theorem dX4_round_63 : decode cX4_round 63 = .ok (.invokevirtual 62, 3) := by decide +kernel
theorem dX4_round_66 : decode cX4_round 66 = .ok (.iinc 2 1, 3) := by decide +kernel
theorem dX4_round_69 : decode cX4_round 69 = .ok (.goto (-12), 3) := by decide +kernel
theorem dX4_round_72 : decode cX4_round 72 = .ok (.iconst 0, 1) := by decide +kernel
theorem dX4_round_73 : decode cX4_round 73 = .ok (.istore_n 2, 1) := by decide +kernel
theorem dX4_round_74 : decode cX4_round 74 = .ok (.iload_n 2, 1) := by decide +kernel
theorem dX4_round_75 : decode cX4_round 75 = .ok (.aload_n 0, 1) := by decide +kernel
theorem dX4_round_76 : decode cX4_round 76 = .ok (.getfield 42, 3) := by decide +kernel
theorem dX4_round_79 : decode cX4_round 79 = .ok (.if_icmp .ge 60, 3) := by decide +kernel
theorem dX4_round_82 : decode cX4_round 82 = .ok (.aload_n 0, 1) := by decide +kernel
theorem dX4_round_83 : decode cX4_round 83 = .ok (.getfield 29, 3) := by decide +kernel
theorem dX4_round_86 : decode cX4_round 86 = .ok (.iload_n 2, 1) := by decide +kernel
theorem dX4_round_87 : decode cX4_round 87 = .ok (.iaload, 1) := by decide +kernel
theorem dX4_round_88 : decode cX4_round 88 = .ok (.ifCond .le 45, 3) := by decide +kernel
theorem dX4_round_91 : decode cX4_round 91 = .ok (.aload_n 0, 1) := by decide +kernel
theorem dX4_round_92 : decode cX4_round 92 = .ok (.iload_n 2, 1) := by decide +kernel
theorem dX4_round_93 : decode cX4_round 93 = .ok (.invokevirtual 65, 3) := by decide +kernel
theorem dX4_round_96 : decode cX4_round 96 = .ok (.ifCond .le 37, 3) := by decide +kernel
theorem dX4_round_99 : decode cX4_round 99 = .ok (.aload_n 0, 1) := by decide +kernel
theorem dX4_round_100 : decode cX4_round 100 = .ok (.getfield 22, 3) := by decide +kernel
theorem dX4_round_103 : decode cX4_round 103 = .ok (.iload_n 2, 1) := by decide +kernel
theorem dX4_round_104 : decode cX4_round 104 = .ok (.dup2, 1) := by decide +kernel
theorem dX4_round_105 : decode cX4_round 105 = .ok (.iaload, 1) := by decide +kernel
theorem dX4_round_106 : decode cX4_round 106 = .ok (.iconst 1, 1) := by decide +kernel
theorem dX4_round_107 : decode cX4_round 107 = .ok (.iadd, 1) := by decide +kernel
theorem dX4_round_108 : decode cX4_round 108 = .ok (.iastore, 1) := by decide +kernel
theorem dX4_round_109 : decode cX4_round 109 = .ok (.aload_n 0, 1) := by decide +kernel
theorem dX4_round_110 : decode cX4_round 110 = .ok (.getfield 25, 3) := by decide +kernel
theorem dX4_round_113 : decode cX4_round 113 = .ok (.iload_n 2, 1) := by decide +kernel
theorem dX4_round_114 : decode cX4_round 114 = .ok (.aload_n 0, 1) := by decide +kernel
theorem dX4_round_115 : decode cX4_round 115 = .ok (.getfield 22, 3) := by decide +kernel
theorem dX4_round_118 : decode cX4_round 118 = .ok (.iload_n 2, 1) := by decide +kernel
theorem dX4_round_119 : decode cX4_round 119 = .ok (.iaload, 1) := by decide +kernel
theorem dX4_round_120 : decode cX4_round 120 = .ok (.aload_n 0, 1) := by decide +kernel
theorem dX4_round_121 : decode cX4_round 121 = .ok (.getfield 36, 3) := by decide +kernel
theorem dX4_round_124 : decode cX4_round 124 = .ok (.if_icmp .ne 7, 3) := by decide +kernel
theorem dX4_round_127 : decode cX4_round 127 = .ok (.iconst 1, 1) := by decide +kernel
theorem dX4_round_128 : decode cX4_round 128 = .ok (.goto 4, 3) := by decide +kernel
theorem dX4_round_131 : decode cX4_round 131 = .ok (.iconst 0, 1) := by decide +kernel
theorem dX4_round_132 : decode cX4_round 132 = .ok (.bastore, 1) := by decide +kernel
theorem dX4_round_133 : decode cX4_round 133 = .ok (.iinc 2 1, 3) := by decide +kernel
theorem dX4_round_136 : decode cX4_round 136 = .ok (.goto (-62), 3) := by decide +kernel
theorem dX4_round_139 : decode cX4_round 139 = .ok (.iload_n 1, 1) := by decide +kernel
theorem dX4_round_140 : decode cX4_round 140 = .ok (.ireturn, 1) := by decide +kernel
theorem dX4_sent_0 : decode cX4_sent 0 = .ok (.aload_n 0, 1) := by decide +kernel
theorem dX4_sent_1 : decode cX4_sent 1 = .ok (.iconst 0, 1) := by decide +kernel
theorem dX4_sent_2 : decode cX4_sent 2 = .ok (.putfield 39, 3) := by decide +kernel
theorem dX4_sent_5 : decode cX4_sent 5 = .ok (.aload_n 0, 1) := by decide +kernel
theorem dX4_sent_6 : decode cX4_sent 6 = .ok (.getfield 49, 3) := by decide +kernel
theorem dX4_sent_9 : decode cX4_sent 9 = .ok (.ireturn, 1) := by decide +kernel
theorem dX4_receivers_0 : decode cX4_receivers 0 = .ok (.aload_n 0, 1) := by decide +kernel
theorem dX4_receivers_1 : decode cX4_receivers 1 = .ok (.iconst 0, 1) := by decide +kernel
theorem dX4_receivers_2 : decode cX4_receivers 2 = .ok (.putfield 39, 3) := by decide +kernel
theorem dX4_receivers_5 : decode cX4_receivers 5 = .ok (.aload_n 0, 1) := by decide +kernel
theorem dX4_receivers_6 : decode cX4_receivers 6 = .ok (.getfield 42, 3) := by decide +kernel
theorem dX4_receivers_9 : decode cX4_receivers 9 = .ok (.ireturn, 1) := by decide +kernel
theorem dX4_reports_0 : decode cX4_reports 0 = .ok (.aload_n 0, 1) := by decide +kernel
theorem dX4_reports_1 : decode cX4_reports 1 = .ok (.iconst 0, 1) := by decide +kernel
theorem dX4_reports_2 : decode cX4_reports 2 = .ok (.putfield 39, 3) := by decide +kernel
theorem dX4_reports_5 : decode cX4_reports 5 = .ok (.aload_n 0, 1) := by decide +kernel
theorem dX4_reports_6 : decode cX4_reports 6 = .ok (.getfield 52, 3) := by decide +kernel
theorem dX4_reports_9 : decode cX4_reports 9 = .ok (.ireturn, 1) := by decide +kernel
theorem dX4_keptBack_0 : decode cX4_keptBack 0 = .ok (.aload_n 0, 1) := by decide +kernel
theorem dX4_keptBack_1 : decode cX4_keptBack 1 = .ok (.iconst 0, 1) := by decide +kernel
theorem dX4_keptBack_2 : decode cX4_keptBack 2 = .ok (.putfield 39, 3) := by decide +kernel
theorem dX4_keptBack_5 : decode cX4_keptBack 5 = .ok (.aload_n 0, 1) := by decide +kernel
theorem dX4_keptBack_6 : decode cX4_keptBack 6 = .ok (.getfield 55, 3) := by decide +kernel
theorem dX4_keptBack_9 : decode cX4_keptBack 9 = .ok (.ireturn, 1) := by decide +kernel
set_option maxRecDepth 20000 in
theorem ggX4_asksFor_X4_isReceiver : GoodIn wsX4_asksFor wsX4_isReceiver := goodIn_r _ [6, 7, 8, 9, 5, 10, 11, 12, 13, 14, 15, 16, 17, 18, 19, 20, 21, 22, 23, 24] (by decide +kernel) (by decide +kernel)
set_option maxRecDepth 20000 in
theorem gX4_asksFor_X4_isReceiver : GoodIn wsX4_asksFor (wsV RX4 58 RX4 yX4_isReceiver wsX4_isReceiver) := goodIn_app (goodIn_of _ (by decide +kernel)) ggX4_asksFor_X4_isReceiver
theorem dX4_asksFor_0 : decode cX4_asksFor 0 = .ok (.aload_n 0, 1) := by decide +kernel
theorem dX4_asksFor_1 : decode cX4_asksFor 1 = .ok (.aload_n 0, 1) := by decide +kernel
theorem dX4_asksFor_2 : decode cX4_asksFor 2 = .ok (.iload_n 1, 1) := by decide +kernel
theorem dX4_asksFor_3 : decode cX4_asksFor 3 = .ok (.invokevirtual 58, 3) := by decide +kernel
theorem dX4_asksFor_6 : decode cX4_asksFor 6 = .ok (.ifCond .eq 7, 3) := by decide +kernel
theorem dX4_asksFor_9 : decode cX4_asksFor 9 = .ok (.iconst 0, 1) := by decide +kernel
theorem dX4_asksFor_10 : decode cX4_asksFor 10 = .ok (.goto 4, 3) := by decide +kernel
theorem dX4_asksFor_13 : decode cX4_asksFor 13 = .ok (.iconst 1, 1) := by decide +kernel
theorem dX4_asksFor_14 : decode cX4_asksFor 14 = .ok (.putfield 39, 3) := by decide +kernel
theorem dX4_asksFor_17 : decode cX4_asksFor 17 = .ok (.aload_n 0, 1) := by decide +kernel
theorem dX4_asksFor_18 : decode cX4_asksFor 18 = .ok (.getfield 39, 3) := by decide +kernel
theorem dX4_asksFor_21 : decode cX4_asksFor 21 = .ok (.ifCond .ne 7, 3) := by decide +kernel
theorem dX4_asksFor_24 : decode cX4_asksFor 24 = .ok (.iconst 1, 1) := by decide +kernel
theorem dX4_asksFor_25 : decode cX4_asksFor 25 = .ok (.goto 4, 3) := by decide +kernel
theorem dX4_asksFor_28 : decode cX4_asksFor 28 = .ok (.iconst 0, 1) := by decide +kernel
theorem dX4_asksFor_29 : decode cX4_asksFor 29 = .ok (.ireturn, 1) := by decide +kernel
set_option maxRecDepth 20000 in
theorem ggX4_has_X4_asksFor : GoodIn wsX4_has wsX4_asksFor := goodIn_r _ [6, 7, 8, 9, 10, 5, 11, 12, 13, 14, 15, 16, 17, 18, 19, 20, 21, 22, 23, 24, 25, 26, 27, 28, 29] (by decide +kernel) (by decide +kernel)
set_option maxRecDepth 20000 in
theorem gX4_has_X4_asksFor : GoodIn wsX4_has (wsV RX4 76 RX4 yX4_asksFor wsX4_asksFor) := goodIn_app (goodIn_of _ (by decide +kernel)) ggX4_has_X4_asksFor
theorem dX4_has_0 : decode cX4_has 0 = .ok (.aload_n 0, 1) := by decide +kernel
theorem dX4_has_1 : decode cX4_has 1 = .ok (.iload_n 1, 1) := by decide +kernel
theorem dX4_has_2 : decode cX4_has 2 = .ok (.invokevirtual 76, 3) := by decide +kernel
theorem dX4_has_5 : decode cX4_has 5 = .ok (.ifCond .eq 12, 3) := by decide +kernel
theorem dX4_has_8 : decode cX4_has 8 = .ok (.aload_n 0, 1) := by decide +kernel
theorem dX4_has_9 : decode cX4_has 9 = .ok (.getfield 19, 3) := by decide +kernel
theorem dX4_has_12 : decode cX4_has 12 = .ok (.iload_n 1, 1) := by decide +kernel
theorem dX4_has_13 : decode cX4_has 13 = .ok (.iaload, 1) := by decide +kernel
theorem dX4_has_14 : decode cX4_has 14 = .ok (.goto 4, 3) := by decide +kernel
theorem dX4_has_17 : decode cX4_has 17 = .ok (.iconst 0, 1) := by decide +kernel
theorem dX4_has_18 : decode cX4_has 18 = .ok (.ireturn, 1) := by decide +kernel
set_option maxRecDepth 20000 in
theorem ggX4_need_X4_asksFor : GoodIn wsX4_need wsX4_asksFor := goodIn_r _ [5, 6, 7, 8, 9, 4, 10, 11, 12, 13, 14, 21, 22, 23, 24, 25, 26, 27, 28, 29, 30, 31, 32, 33, 34] (by decide +kernel) (by decide +kernel)
set_option maxRecDepth 20000 in
theorem gX4_need_X4_asksFor : GoodIn wsX4_need (wsV RX4 76 RX4 yX4_asksFor wsX4_asksFor) := goodIn_app (goodIn_of _ (by decide +kernel)) ggX4_need_X4_asksFor
set_option maxRecDepth 20000 in
theorem ggX4_need_X4_needOf : GoodIn wsX4_need wsX4_needOf := goodIn_r _ [18, 19, 20, 21, 22, 23, 24, 25, 26, 27, 28, 29, 30, 31, 32, 33, 34] (by decide +kernel) (by decide +kernel)
set_option maxRecDepth 20000 in
theorem gX4_need_X4_needOf : GoodIn wsX4_need (wsV RX4 65 RX4 yX4_needOf wsX4_needOf) := goodIn_app (goodIn_of _ (by decide +kernel)) ggX4_need_X4_needOf
theorem dX4_need_0 : decode cX4_need 0 = .ok (.aload_n 0, 1) := by decide +kernel
theorem dX4_need_1 : decode cX4_need 1 = .ok (.iload_n 1, 1) := by decide +kernel
theorem dX4_need_2 : decode cX4_need 2 = .ok (.invokevirtual 76, 3) := by decide +kernel
theorem dX4_need_5 : decode cX4_need 5 = .ok (.ifCond .eq 11, 3) := by decide +kernel
theorem dX4_need_8 : decode cX4_need 8 = .ok (.aload_n 0, 1) := by decide +kernel
theorem dX4_need_9 : decode cX4_need 9 = .ok (.iload_n 1, 1) := by decide +kernel
theorem dX4_need_10 : decode cX4_need 10 = .ok (.invokevirtual 65, 3) := by decide +kernel
theorem dX4_need_13 : decode cX4_need 13 = .ok (.goto 4, 3) := by decide +kernel
theorem dX4_need_16 : decode cX4_need 16 = .ok (.iconst 0, 1) := by decide +kernel
theorem dX4_need_17 : decode cX4_need 17 = .ok (.ireturn, 1) := by decide +kernel
set_option maxRecDepth 20000 in
theorem ggX4_isDropped_X4_asksFor : GoodIn wsX4_isDropped wsX4_asksFor := goodIn_r _ [6, 7, 8, 9, 10, 5, 11, 12, 13, 14, 15, 16, 17, 18, 19, 20, 21, 22, 23, 24, 25, 26, 27, 28, 29] (by decide +kernel) (by decide +kernel)
set_option maxRecDepth 20000 in
theorem gX4_isDropped_X4_asksFor : GoodIn wsX4_isDropped (wsV RX4 76 RX4 yX4_asksFor wsX4_asksFor) := goodIn_app (goodIn_of _ (by decide +kernel)) ggX4_isDropped_X4_asksFor
theorem dX4_isDropped_0 : decode cX4_isDropped 0 = .ok (.aload_n 0, 1) := by decide +kernel
theorem dX4_isDropped_1 : decode cX4_isDropped 1 = .ok (.iload_n 1, 1) := by decide +kernel
theorem dX4_isDropped_2 : decode cX4_isDropped 2 = .ok (.invokevirtual 76, 3) := by decide +kernel
theorem dX4_isDropped_5 : decode cX4_isDropped 5 = .ok (.ifCond .eq 16, 3) := by decide +kernel
theorem dX4_isDropped_8 : decode cX4_isDropped 8 = .ok (.aload_n 0, 1) := by decide +kernel
theorem dX4_isDropped_9 : decode cX4_isDropped 9 = .ok (.getfield 25, 3) := by decide +kernel
theorem dX4_isDropped_12 : decode cX4_isDropped 12 = .ok (.iload_n 1, 1) := by decide +kernel
theorem dX4_isDropped_13 : decode cX4_isDropped 13 = .ok (.baload, 1) := by decide +kernel
theorem dX4_isDropped_14 : decode cX4_isDropped 14 = .ok (.ifCond .eq 7, 3) := by decide +kernel
theorem dX4_isDropped_17 : decode cX4_isDropped 17 = .ok (.iconst 1, 1) := by decide +kernel
theorem dX4_isDropped_18 : decode cX4_isDropped 18 = .ok (.goto 4, 3) := by decide +kernel
theorem dX4_isDropped_21 : decode cX4_isDropped 21 = .ok (.iconst 0, 1) := by decide +kernel
theorem dX4_isDropped_22 : decode cX4_isDropped 22 = .ok (.ireturn, 1) := by decide +kernel
set_option maxRecDepth 20000 in
theorem ggX4_badRounds_X4_asksFor : GoodIn wsX4_badRounds wsX4_asksFor := goodIn_r _ [6, 7, 8, 9, 10, 5, 11, 12, 13, 14, 15, 16, 17, 18, 19, 20, 21, 22, 23, 24, 25, 26, 27, 28, 29] (by decide +kernel) (by decide +kernel)
set_option maxRecDepth 20000 in
theorem gX4_badRounds_X4_asksFor : GoodIn wsX4_badRounds (wsV RX4 76 RX4 yX4_asksFor wsX4_asksFor) := goodIn_app (goodIn_of _ (by decide +kernel)) ggX4_badRounds_X4_asksFor
theorem dX4_badRounds_0 : decode cX4_badRounds 0 = .ok (.aload_n 0, 1) := by decide +kernel
theorem dX4_badRounds_1 : decode cX4_badRounds 1 = .ok (.iload_n 1, 1) := by decide +kernel
theorem dX4_badRounds_2 : decode cX4_badRounds 2 = .ok (.invokevirtual 76, 3) := by decide +kernel
theorem dX4_badRounds_5 : decode cX4_badRounds 5 = .ok (.ifCond .eq 12, 3) := by decide +kernel
theorem dX4_badRounds_8 : decode cX4_badRounds 8 = .ok (.aload_n 0, 1) := by decide +kernel
theorem dX4_badRounds_9 : decode cX4_badRounds 9 = .ok (.getfield 22, 3) := by decide +kernel
theorem dX4_badRounds_12 : decode cX4_badRounds 12 = .ok (.iload_n 1, 1) := by decide +kernel
theorem dX4_badRounds_13 : decode cX4_badRounds 13 = .ok (.iaload, 1) := by decide +kernel
theorem dX4_badRounds_14 : decode cX4_badRounds 14 = .ok (.goto 4, 3) := by decide +kernel
theorem dX4_badRounds_17 : decode cX4_badRounds 17 = .ok (.iconst 0, 1) := by decide +kernel
theorem dX4_badRounds_18 : decode cX4_badRounds 18 = .ok (.ireturn, 1) := by decide +kernel
theorem dX4_product_0 : decode cX4_product 0 = .ok (.iconst 0, 1) := by decide +kernel
theorem dX4_product_1 : decode cX4_product 1 = .ok (.istore_n 2, 1) := by decide +kernel
theorem dX4_product_2 : decode cX4_product 2 = .ok (.iload_n 0, 1) := by decide +kernel
theorem dX4_product_3 : decode cX4_product 3 = .ok (.istore_n 3, 1) := by decide +kernel
theorem dX4_product_4 : decode cX4_product 4 = .ok (.iconst 0, 1) := by decide +kernel
theorem dX4_product_5 : decode cX4_product 5 = .ok (.istore 4, 2) := by decide +kernel
theorem dX4_product_7 : decode cX4_product 7 = .ok (.iload 4, 2) := by decide +kernel
theorem dX4_product_9 : decode cX4_product 9 = .ok (.bipush 8, 2) := by decide +kernel
theorem dX4_product_11 : decode cX4_product 11 = .ok (.if_icmp .ge 48, 3) := by decide +kernel
theorem dX4_product_14 : decode cX4_product 14 = .ok (.iload_n 2, 1) := by decide +kernel
theorem dX4_product_15 : decode cX4_product 15 = .ok (.iload_n 1, 1) := by decide +kernel
theorem dX4_product_16 : decode cX4_product 16 = .ok (.iload 4, 2) := by decide +kernel
theorem dX4_product_18 : decode cX4_product 18 = .ok (.ishr, 1) := by decide +kernel
theorem dX4_product_19 : decode cX4_product 19 = .ok (.iconst 1, 1) := by decide +kernel
theorem dX4_product_20 : decode cX4_product 20 = .ok (.iand, 1) := by decide +kernel
theorem dX4_product_21 : decode cX4_product 21 = .ok (.iconst 1, 1) := by decide +kernel
theorem dX4_product_22 : decode cX4_product 22 = .ok (.if_icmp .ne 7, 3) := by decide +kernel
theorem dX4_product_25 : decode cX4_product 25 = .ok (.iload_n 3, 1) := by decide +kernel
theorem dX4_product_26 : decode cX4_product 26 = .ok (.goto 4, 3) := by decide +kernel
theorem dX4_product_29 : decode cX4_product 29 = .ok (.iconst 0, 1) := by decide +kernel
theorem dX4_product_30 : decode cX4_product 30 = .ok (.ixor, 1) := by decide +kernel
theorem dX4_product_31 : decode cX4_product 31 = .ok (.istore_n 2, 1) := by decide +kernel
theorem dX4_product_32 : decode cX4_product 32 = .ok (.iload_n 3, 1) := by decide +kernel
theorem dX4_product_33 : decode cX4_product 33 = .ok (.iconst 1, 1) := by decide +kernel
theorem dX4_product_34 : decode cX4_product 34 = .ok (.ishl, 1) := by decide +kernel
theorem dX4_product_35 : decode cX4_product 35 = .ok (.istore_n 3, 1) := by decide +kernel
theorem dX4_product_36 : decode cX4_product 36 = .ok (.iload_n 3, 1) := by decide +kernel
theorem dX4_product_37 : decode cX4_product 37 = .ok (.iload_n 3, 1) := by decide +kernel
theorem dX4_product_38 : decode cX4_product 38 = .ok (.sipush 255, 3) := by decide +kernel
theorem dX4_product_41 : decode cX4_product 41 = .ok (.if_icmp .le 9, 3) := by decide +kernel
theorem dX4_product_44 : decode cX4_product 44 = .ok (.sipush 285, 3) := by decide +kernel
theorem dX4_product_47 : decode cX4_product 47 = .ok (.goto 4, 3) := by decide +kernel
theorem dX4_product_50 : decode cX4_product 50 = .ok (.iconst 0, 1) := by decide +kernel
theorem dX4_product_51 : decode cX4_product 51 = .ok (.ixor, 1) := by decide +kernel
theorem dX4_product_52 : decode cX4_product 52 = .ok (.istore_n 3, 1) := by decide +kernel
theorem dX4_product_53 : decode cX4_product 53 = .ok (.iinc 4 1, 3) := by decide +kernel
theorem dX4_product_56 : decode cX4_product 56 = .ok (.goto (-49), 3) := by decide +kernel
theorem dX4_product_59 : decode cX4_product 59 = .ok (.iload_n 2, 1) := by decide +kernel
theorem dX4_product_60 : decode cX4_product 60 = .ok (.ireturn, 1) := by decide +kernel
set_option maxRecDepth 20000 in
theorem ggX4_inverse_X4_product : GoodIn wsX4_inverse wsX4_product := goodIn_r _ [4] (by decide +kernel) (by decide +kernel)
set_option maxRecDepth 20000 in
theorem gX4_inverse_X4_product : GoodIn wsX4_inverse (va_wsS RX4 79 yX4_product wsX4_product) := goodIn_app (goodIn_of _ (by decide +kernel)) ggX4_inverse_X4_product
theorem dX4_inverse_0 : decode cX4_inverse 0 = .ok (.iconst 1, 1) := by decide +kernel
theorem dX4_inverse_1 : decode cX4_inverse 1 = .ok (.istore_n 1, 1) := by decide +kernel
theorem dX4_inverse_2 : decode cX4_inverse 2 = .ok (.iload_n 0, 1) := by decide +kernel
theorem dX4_inverse_3 : decode cX4_inverse 3 = .ok (.iload_n 1, 1) := by decide +kernel
theorem dX4_inverse_4 : decode cX4_inverse 4 = .ok (.invokestatic 79, 3) := by decide +kernel
theorem dX4_inverse_7 : decode cX4_inverse 7 = .ok (.iconst 1, 1) := by decide +kernel
theorem dX4_inverse_8 : decode cX4_inverse 8 = .ok (.if_icmp .eq 9, 3) := by decide +kernel
theorem dX4_inverse_11 : decode cX4_inverse 11 = .ok (.iinc 1 1, 3) := by decide +kernel
theorem dX4_inverse_14 : decode cX4_inverse 14 = .ok (.goto (-12), 3) := by decide +kernel
theorem dX4_inverse_17 : decode cX4_inverse 17 = .ok (.iload_n 1, 1) := by decide +kernel
theorem dX4_inverse_18 : decode cX4_inverse 18 = .ok (.ireturn, 1) := by decide +kernel
set_option maxRecDepth 20000 in
theorem ggX4_times_X4_in : GoodIn wsX4_times wsX4_in := goodIn_r _ [5] (by decide +kernel) (by decide +kernel)
set_option maxRecDepth 20000 in
theorem gX4_times_X4_in : GoodIn wsX4_times (va_wsS RX4 45 yX4_in wsX4_in) := goodIn_app (goodIn_of _ (by decide +kernel)) ggX4_times_X4_in
set_option maxRecDepth 20000 in
theorem ggX4_times_X4_product : GoodIn wsX4_times wsX4_product := goodIn_r _ [8] (by decide +kernel) (by decide +kernel)
set_option maxRecDepth 20000 in
theorem gX4_times_X4_product : GoodIn wsX4_times (va_wsS RX4 79 yX4_product wsX4_product) := goodIn_app (goodIn_of _ (by decide +kernel)) ggX4_times_X4_product
theorem dX4_times_0 : decode cX4_times 0 = .ok (.aload_n 0, 1) := by decide +kernel
theorem dX4_times_1 : decode cX4_times 1 = .ok (.iload_n 1, 1) := by decide +kernel
theorem dX4_times_2 : decode cX4_times 2 = .ok (.iconst 0, 1) := by decide +kernel
theorem dX4_times_3 : decode cX4_times 3 = .ok (.sipush 255, 3) := by decide +kernel
theorem dX4_times_6 : decode cX4_times 6 = .ok (.invokestatic 45, 3) := by decide +kernel
theorem dX4_times_9 : decode cX4_times 9 = .ok (.ifCond .eq 18, 3) := by decide +kernel
theorem dX4_times_12 : decode cX4_times 12 = .ok (.iload_n 2, 1) := by decide +kernel
theorem dX4_times_13 : decode cX4_times 13 = .ok (.iconst 0, 1) := by decide +kernel
theorem dX4_times_14 : decode cX4_times 14 = .ok (.sipush 255, 3) := by decide +kernel
theorem dX4_times_17 : decode cX4_times 17 = .ok (.invokestatic 45, 3) := by decide +kernel
theorem dX4_times_20 : decode cX4_times 20 = .ok (.ifCond .eq 7, 3) := by decide +kernel
theorem dX4_times_23 : decode cX4_times 23 = .ok (.iconst 0, 1) := by decide +kernel
theorem dX4_times_24 : decode cX4_times 24 = .ok (.goto 4, 3) := by decide +kernel
theorem dX4_times_27 : decode cX4_times 27 = .ok (.iconst 1, 1) := by decide +kernel
theorem dX4_times_28 : decode cX4_times 28 = .ok (.putfield 39, 3) := by decide +kernel
theorem dX4_times_31 : decode cX4_times 31 = .ok (.aload_n 0, 1) := by decide +kernel
theorem dX4_times_32 : decode cX4_times 32 = .ok (.getfield 39, 3) := by decide +kernel
theorem dX4_times_35 : decode cX4_times 35 = .ok (.ifCond .ne 11, 3) := by decide +kernel
theorem dX4_times_38 : decode cX4_times 38 = .ok (.iload_n 1, 1) := by decide +kernel
theorem dX4_times_39 : decode cX4_times 39 = .ok (.iload_n 2, 1) := by decide +kernel
theorem dX4_times_40 : decode cX4_times 40 = .ok (.invokestatic 79, 3) := by decide +kernel
theorem dX4_times_43 : decode cX4_times 43 = .ok (.goto 4, 3) := by decide +kernel
theorem dX4_times_46 : decode cX4_times 46 = .ok (.iconst 0, 1) := by decide +kernel
theorem dX4_times_47 : decode cX4_times 47 = .ok (.ireturn, 1) := by decide +kernel
set_option maxRecDepth 20000 in
theorem ggX4_packet_X4_in : GoodIn wsX4_packet wsX4_in := goodIn_r _ [7] (by decide +kernel) (by decide +kernel)
set_option maxRecDepth 20000 in
theorem gX4_packet_X4_in : GoodIn wsX4_packet (va_wsS RX4 45 yX4_in wsX4_in) := goodIn_app (goodIn_of _ (by decide +kernel)) ggX4_packet_X4_in
set_option maxRecDepth 20000 in
theorem ggX4_packet_X4_product : GoodIn wsX4_packet wsX4_product := goodIn_r _ [10] (by decide +kernel) (by decide +kernel)
set_option maxRecDepth 20000 in
theorem gX4_packet_X4_product : GoodIn wsX4_packet (va_wsS RX4 79 yX4_product wsX4_product) := goodIn_app (goodIn_of _ (by decide +kernel)) ggX4_packet_X4_product
set_option maxRecDepth 20000 in
theorem ggX4_packet_X4_inverse : GoodIn wsX4_packet wsX4_inverse := goodIn_r _ [13, 8, 9, 6, 10] (by decide +kernel) (by decide +kernel)
set_option maxRecDepth 20000 in
theorem gX4_packet_X4_inverse : GoodIn wsX4_packet (va_wsS RX4 82 yX4_inverse wsX4_inverse) := goodIn_app (goodIn_of _ (by decide +kernel)) ggX4_packet_X4_inverse
theorem dX4_packet_0 : decode cX4_packet 0 = .ok (.aload_n 0, 1) := by decide +kernel
theorem dX4_packet_1 : decode cX4_packet 1 = .ok (.iload_n 1, 1) := by decide +kernel
theorem dX4_packet_2 : decode cX4_packet 2 = .ok (.iconst 0, 1) := by decide +kernel
theorem dX4_packet_3 : decode cX4_packet 3 = .ok (.bipush 15, 2) := by decide +kernel
theorem dX4_packet_5 : decode cX4_packet 5 = .ok (.invokestatic 45, 3) := by decide +kernel
theorem dX4_packet_8 : decode cX4_packet 8 = .ok (.ifCond .eq 7, 3) := by decide +kernel
theorem dX4_packet_11 : decode cX4_packet 11 = .ok (.iconst 0, 1) := by decide +kernel
theorem dX4_packet_12 : decode cX4_packet 12 = .ok (.goto 4, 3) := by decide +kernel
theorem dX4_packet_15 : decode cX4_packet 15 = .ok (.iconst 1, 1) := by decide +kernel
theorem dX4_packet_16 : decode cX4_packet 16 = .ok (.putfield 39, 3) := by decide +kernel
theorem dX4_packet_19 : decode cX4_packet 19 = .ok (.aload_n 0, 1) := by decide +kernel
theorem dX4_packet_20 : decode cX4_packet 20 = .ok (.getfield 39, 3) := by decide +kernel
theorem dX4_packet_23 : decode cX4_packet 23 = .ok (.ifCond .le 5, 3) := by decide +kernel
theorem dX4_packet_26 : decode cX4_packet 26 = .ok (.iconst 0, 1) := by decide +kernel
theorem dX4_packet_27 : decode cX4_packet 27 = .ok (.ireturn, 1) := by decide +kernel
theorem dX4_packet_28 : decode cX4_packet 28 = .ok (.iload_n 1, 1) := by decide +kernel
theorem dX4_packet_29 : decode cX4_packet 29 = .ok (.aload_n 0, 1) := by decide +kernel
theorem dX4_packet_30 : decode cX4_packet 30 = .ok (.getfield 32, 3) := by decide +kernel
theorem dX4_packet_33 : decode cX4_packet 33 = .ok (.if_icmp .ge 10, 3) := by decide +kernel
theorem dX4_packet_36 : decode cX4_packet 36 = .ok (.aload_n 0, 1) := by decide +kernel
theorem dX4_packet_37 : decode cX4_packet 37 = .ok (.getfield 7, 3) := by decide +kernel
theorem dX4_packet_40 : decode cX4_packet 40 = .ok (.iload_n 1, 1) := by decide +kernel
theorem dX4_packet_41 : decode cX4_packet 41 = .ok (.iaload, 1) := by decide +kernel
theorem dX4_packet_42 : decode cX4_packet 42 = .ok (.ireturn, 1) := by decide +kernel
theorem dX4_packet_43 : decode cX4_packet 43 = .ok (.iconst 0, 1) := by decide +kernel
theorem dX4_packet_44 : decode cX4_packet 44 = .ok (.istore_n 2, 1) := by decide +kernel
theorem dX4_packet_45 : decode cX4_packet 45 = .ok (.iconst 0, 1) := by decide +kernel
theorem dX4_packet_46 : decode cX4_packet 46 = .ok (.istore_n 3, 1) := by decide +kernel
theorem dX4_packet_47 : decode cX4_packet 47 = .ok (.iload_n 3, 1) := by decide +kernel
theorem dX4_packet_48 : decode cX4_packet 48 = .ok (.aload_n 0, 1) := by decide +kernel
theorem dX4_packet_49 : decode cX4_packet 49 = .ok (.getfield 32, 3) := by decide +kernel
theorem dX4_packet_52 : decode cX4_packet 52 = .ok (.if_icmp .ge 95, 3) := by decide +kernel
theorem dX4_packet_55 : decode cX4_packet 55 = .ok (.aload_n 0, 1) := by decide +kernel
theorem dX4_packet_56 : decode cX4_packet 56 = .ok (.getfield 7, 3) := by decide +kernel
theorem dX4_packet_59 : decode cX4_packet 59 = .ok (.iload_n 3, 1) := by decide +kernel
theorem dX4_packet_60 : decode cX4_packet 60 = .ok (.iaload, 1) := by decide +kernel
theorem dX4_packet_61 : decode cX4_packet 61 = .ok (.istore 4, 2) := by decide +kernel
theorem dX4_packet_63 : decode cX4_packet 63 = .ok (.iconst 1, 1) := by decide +kernel
theorem dX4_packet_64 : decode cX4_packet 64 = .ok (.istore 5, 2) := by decide +kernel
theorem dX4_packet_66 : decode cX4_packet 66 = .ok (.iconst 0, 1) := by decide +kernel
theorem dX4_packet_67 : decode cX4_packet 67 = .ok (.istore 6, 2) := by decide +kernel
theorem dX4_packet_69 : decode cX4_packet 69 = .ok (.iload 6, 2) := by decide +kernel
theorem dX4_packet_71 : decode cX4_packet 71 = .ok (.aload_n 0, 1) := by decide +kernel
theorem dX4_packet_72 : decode cX4_packet 72 = .ok (.getfield 32, 3) := by decide +kernel
theorem dX4_packet_75 : decode cX4_packet 75 = .ok (.if_icmp .ge 53, 3) := by decide +kernel
theorem dX4_packet_78 : decode cX4_packet 78 = .ok (.iload 6, 2) := by decide +kernel
theorem dX4_packet_80 : decode cX4_packet 80 = .ok (.iload_n 3, 1) := by decide +kernel
theorem dX4_packet_81 : decode cX4_packet 81 = .ok (.if_icmp .ne 8, 3) := by decide +kernel
theorem dX4_packet_84 : decode cX4_packet 84 = .ok (.iload 4, 2) := by decide +kernel
theorem dX4_packet_86 : decode cX4_packet 86 = .ok (.goto 12, 3) := by decide +kernel
theorem dX4_packet_89 : decode cX4_packet 89 = .ok (.iload 4, 2) := by decide +kernel
theorem dX4_packet_91 : decode cX4_packet 91 = .ok (.iload_n 1, 1) := by decide +kernel
theorem dX4_packet_92 : decode cX4_packet 92 = .ok (.iload 6, 2) := by decide +kernel
theorem dX4_packet_94 : decode cX4_packet 94 = .ok (.ixor, 1) := by decide +kernel
theorem dX4_packet_95 : decode cX4_packet 95 = .ok (.invokestatic 79, 3) := by decide +kernel
theorem dX4_packet_98 : decode cX4_packet 98 = .ok (.istore 4, 2) := by decide +kernel
theorem dX4_packet_100 : decode cX4_packet 100 = .ok (.iload 6, 2) := by decide +kernel
theorem dX4_packet_102 : decode cX4_packet 102 = .ok (.iload_n 3, 1) := by decide +kernel
theorem dX4_packet_103 : decode cX4_packet 103 = .ok (.if_icmp .ne 8, 3) := by decide +kernel
theorem dX4_packet_106 : decode cX4_packet 106 = .ok (.iload 5, 2) := by decide +kernel
theorem dX4_packet_108 : decode cX4_packet 108 = .ok (.goto 12, 3) := by decide +kernel
theorem dX4_packet_111 : decode cX4_packet 111 = .ok (.iload 5, 2) := by decide +kernel
theorem dX4_packet_113 : decode cX4_packet 113 = .ok (.iload_n 3, 1) := by decide +kernel
theorem dX4_packet_114 : decode cX4_packet 114 = .ok (.iload 6, 2) := by decide +kernel
theorem dX4_packet_116 : decode cX4_packet 116 = .ok (.ixor, 1) := by decide +kernel
theorem dX4_packet_117 : decode cX4_packet 117 = .ok (.invokestatic 79, 3) := by decide +kernel
theorem dX4_packet_120 : decode cX4_packet 120 = .ok (.istore 5, 2) := by decide +kernel
theorem dX4_packet_122 : decode cX4_packet 122 = .ok (.iinc 6 1, 3) := by decide +kernel
theorem dX4_packet_125 : decode cX4_packet 125 = .ok (.goto (-56), 3) := by decide +kernel
theorem dX4_packet_128 : decode cX4_packet 128 = .ok (.iload_n 2, 1) := by decide +kernel
theorem dX4_packet_129 : decode cX4_packet 129 = .ok (.iload 4, 2) := by decide +kernel
theorem dX4_packet_131 : decode cX4_packet 131 = .ok (.iload 5, 2) := by decide +kernel
theorem dX4_packet_133 : decode cX4_packet 133 = .ok (.invokestatic 82, 3) := by decide +kernel
theorem dX4_packet_136 : decode cX4_packet 136 = .ok (.invokestatic 79, 3) := by decide +kernel
theorem dX4_packet_139 : decode cX4_packet 139 = .ok (.ixor, 1) := by decide +kernel
theorem dX4_packet_140 : decode cX4_packet 140 = .ok (.istore_n 2, 1) := by decide +kernel
theorem dX4_packet_141 : decode cX4_packet 141 = .ok (.iinc 3 1, 3) := by decide +kernel
theorem dX4_packet_144 : decode cX4_packet 144 = .ok (.goto (-97), 3) := by decide +kernel
theorem dX4_packet_147 : decode cX4_packet 147 = .ok (.iload_n 2, 1) := by decide +kernel
theorem dX4_packet_148 : decode cX4_packet 148 = .ok (.ireturn, 1) := by decide +kernel
set_option maxRecDepth 20000 in
theorem ggX4_rebuilt_X4_isReceiver : GoodIn wsX4_rebuilt wsX4_isReceiver := goodIn_r _ [8, 9, 10, 11, 7, 12, 18, 19, 20, 21, 22, 23, 24, 25, 26, 27, 28, 29, 30, 31] (by decide +kernel) (by decide +kernel)
set_option maxRecDepth 20000 in
theorem gX4_rebuilt_X4_isReceiver : GoodIn wsX4_rebuilt (wsV RX4 58 RX4 yX4_isReceiver wsX4_isReceiver) := goodIn_app (goodIn_of _ (by decide +kernel)) ggX4_rebuilt_X4_isReceiver
set_option maxRecDepth 20000 in
theorem ggX4_rebuilt_X4_in : GoodIn wsX4_rebuilt wsX4_in := goodIn_r _ [12] (by decide +kernel) (by decide +kernel)
set_option maxRecDepth 20000 in
theorem gX4_rebuilt_X4_in : GoodIn wsX4_rebuilt (va_wsS RX4 45 yX4_in wsX4_in) := goodIn_app (goodIn_of _ (by decide +kernel)) ggX4_rebuilt_X4_in
set_option maxRecDepth 20000 in
theorem ggX4_rebuilt_X4_needOf : GoodIn wsX4_rebuilt wsX4_needOf := goodIn_r _ [16, 1, 17, 18, 19, 20, 21, 22, 23, 24, 25, 26, 27, 28, 29, 30, 31] (by decide +kernel) (by decide +kernel)
set_option maxRecDepth 20000 in
theorem gX4_rebuilt_X4_needOf : GoodIn wsX4_rebuilt (wsV RX4 65 RX4 yX4_needOf wsX4_needOf) := goodIn_app (goodIn_of _ (by decide +kernel)) ggX4_rebuilt_X4_needOf
theorem dX4_rebuilt_0 : decode cX4_rebuilt 0 = .ok (.aload_n 0, 1) := by decide +kernel
theorem dX4_rebuilt_1 : decode cX4_rebuilt 1 = .ok (.aload_n 0, 1) := by decide +kernel
theorem dX4_rebuilt_2 : decode cX4_rebuilt 2 = .ok (.iload_n 1, 1) := by decide +kernel
theorem dX4_rebuilt_3 : decode cX4_rebuilt 3 = .ok (.invokevirtual 58, 3) := by decide +kernel
theorem dX4_rebuilt_6 : decode cX4_rebuilt 6 = .ok (.ifCond .eq 17, 3) := by decide +kernel
theorem dX4_rebuilt_9 : decode cX4_rebuilt 9 = .ok (.iload_n 2, 1) := by decide +kernel
theorem dX4_rebuilt_10 : decode cX4_rebuilt 10 = .ok (.iconst 0, 1) := by decide +kernel
theorem dX4_rebuilt_11 : decode cX4_rebuilt 11 = .ok (.aload_n 0, 1) := by decide +kernel
theorem dX4_rebuilt_12 : decode cX4_rebuilt 12 = .ok (.getfield 32, 3) := by decide +kernel
theorem dX4_rebuilt_15 : decode cX4_rebuilt 15 = .ok (.iconst 1, 1) := by decide +kernel
theorem dX4_rebuilt_16 : decode cX4_rebuilt 16 = .ok (.isub, 1) := by decide +kernel
theorem dX4_rebuilt_17 : decode cX4_rebuilt 17 = .ok (.invokestatic 45, 3) := by decide +kernel
theorem dX4_rebuilt_20 : decode cX4_rebuilt 20 = .ok (.ifCond .ne 7, 3) := by decide +kernel
theorem dX4_rebuilt_23 : decode cX4_rebuilt 23 = .ok (.iconst 1, 1) := by decide +kernel
theorem dX4_rebuilt_24 : decode cX4_rebuilt 24 = .ok (.goto 16, 3) := by decide +kernel
theorem dX4_rebuilt_27 : decode cX4_rebuilt 27 = .ok (.aload_n 0, 1) := by decide +kernel
theorem dX4_rebuilt_28 : decode cX4_rebuilt 28 = .ok (.iload_n 1, 1) := by decide +kernel
theorem dX4_rebuilt_29 : decode cX4_rebuilt 29 = .ok (.invokevirtual 65, 3) := by decide +kernel
theorem dX4_rebuilt_32 : decode cX4_rebuilt 32 = .ok (.ifCond .le 7, 3) := by decide +kernel
theorem dX4_rebuilt_35 : decode cX4_rebuilt 35 = .ok (.iconst 2, 1) := by decide +kernel
theorem dX4_rebuilt_36 : decode cX4_rebuilt 36 = .ok (.goto 4, 3) := by decide +kernel
theorem dX4_rebuilt_39 : decode cX4_rebuilt 39 = .ok (.iconst 0, 1) := by decide +kernel
theorem dX4_rebuilt_40 : decode cX4_rebuilt 40 = .ok (.putfield 39, 3) := by decide +kernel
theorem dX4_rebuilt_43 : decode cX4_rebuilt 43 = .ok (.aload_n 0, 1) := by decide +kernel
theorem dX4_rebuilt_44 : decode cX4_rebuilt 44 = .ok (.getfield 39, 3) := by decide +kernel
theorem dX4_rebuilt_47 : decode cX4_rebuilt 47 = .ok (.ifCond .ne 12, 3) := by decide +kernel
theorem dX4_rebuilt_50 : decode cX4_rebuilt 50 = .ok (.aload_n 0, 1) := by decide +kernel
theorem dX4_rebuilt_51 : decode cX4_rebuilt 51 = .ok (.getfield 7, 3) := by decide +kernel
theorem dX4_rebuilt_54 : decode cX4_rebuilt 54 = .ok (.iload_n 2, 1) := by decide +kernel
theorem dX4_rebuilt_55 : decode cX4_rebuilt 55 = .ok (.iaload, 1) := by decide +kernel
theorem dX4_rebuilt_56 : decode cX4_rebuilt 56 = .ok (.goto 4, 3) := by decide +kernel
theorem dX4_rebuilt_59 : decode cX4_rebuilt 59 = .ok (.iconst 0, 1) := by decide +kernel
theorem dX4_rebuilt_60 : decode cX4_rebuilt 60 = .ok (.ireturn, 1) := by decide +kernel
set_option maxRecDepth 20000 in
theorem ggX4_rebuiltByElimination_X4_rebuilt : GoodIn wsX4_rebuiltByElimination wsX4_rebuilt := goodIn_r _ [5, 6, 7, 8, 9, 10, 11, 4, 12, 13, 14, 15, 16, 17, 18, 19, 20, 21, 22, 23, 24, 25, 26, 27, 28, 29, 30, 31, 32, 33, 34, 35] (by decide +kernel) (by decide +kernel)
set_option maxRecDepth 20000 in
theorem gX4_rebuiltByElimination_X4_rebuilt : GoodIn wsX4_rebuiltByElimination (wsV RX4 85 RX4 yX4_rebuilt wsX4_rebuilt) := goodIn_app (goodIn_of _ (by decide +kernel)) ggX4_rebuiltByElimination_X4_rebuilt
theorem dX4_rebuiltByElimination_0 : decode cX4_rebuiltByElimination 0 = .ok (.aload_n 0, 1) := by decide +kernel
theorem dX4_rebuiltByElimination_1 : decode cX4_rebuiltByElimination 1 = .ok (.iload_n 1, 1) := by decide +kernel
theorem dX4_rebuiltByElimination_2 : decode cX4_rebuiltByElimination 2 = .ok (.iload_n 2, 1) := by decide +kernel
theorem dX4_rebuiltByElimination_3 : decode cX4_rebuiltByElimination 3 = .ok (.invokevirtual 85, 3) := by decide +kernel
theorem dX4_rebuiltByElimination_6 : decode cX4_rebuiltByElimination 6 = .ok (.ireturn, 1) := by decide +kernel
end
section
def wsL_law0_r1 : List Cond := [Cond.classLink RL 8 RX3, Cond.instantiable RX3 13, Cond.initialized RX3, Cond.classLink RL 65 RX4, Cond.instantiable RX4 14, Cond.initialized RX4, Cond.arrayClass .long, Cond.methodLink RL 64 yX3_init, Cond.instanceMethod yX3_init, Cond.code yX3_init cX3_init 1 none, Cond.methodLink RX3 1 objectInit, Cond.instanceMethod objectInit, Cond.code objectInit ⟨#[0xb1]⟩ 1 none, Cond.classLink RX3 7 RX2, Cond.instantiable RX2 3, Cond.initialized RX2, Cond.fieldLink RX3 10 "RepairSender" "block" "LRepairSender$Points;", Cond.arrayClass .int, Cond.fieldLink RX3 16 "RepairSender" "losses" "[I", Cond.fieldLink RX3 20 "RepairSender" "waits" "[I", Cond.fieldLink RX3 23 "RepairSender" "packetSets" "[I", Cond.fieldLink RX3 26 "RepairSender" "badCounts" "[I", Cond.arrayClass .boolean, Cond.fieldLink RX3 29 "RepairSender" "dropped" "[Z"]
def wsL_law0_r2 : List Cond := [Cond.fieldLink RX3 33 "RepairSender" "chosen" "LRepairSender$Points;", Cond.classLink RX3 36 RX0, Cond.instantiable RX0 2, Cond.initialized RX0, Cond.fieldLink RX3 39 "RepairSender" "equations" "LRepairSender$Equations;", Cond.instanceMethod yX2_init, Cond.code yX2_init cX2_init 1 none, Cond.methodLink RX2 3 objectInit, Cond.fieldLink RX2 9 "RepairSender$Points" "places" "[I", Cond.fieldLink RX2 15 "RepairSender$Points" "values" "[I", Cond.instanceMethod yX0_init, Cond.code yX0_init cX0_init 1 none, Cond.methodLink RX0 3 objectInit, Cond.classLink RX0 9 "[[I", Cond.fieldLink RX0 11 "RepairSender$Equations" "cells" "[[I", Cond.methodLink RX3 43 yX3_startBlock, Cond.instanceMethod yX3_startBlock, Cond.selects RX3 yX3_startBlock yX3_startBlock, Cond.code yX3_startBlock cX3_startBlock 4 none, Cond.fieldLink RX3 173 "RepairSender" "patience" "I", Cond.fieldLink RX3 84 "RepairSender" "receiverCount" "I", Cond.fieldLink RX3 56 "RepairSender" "sentCount" "I", Cond.fieldLink RX3 111 "RepairSender" "reportCount" "I", Cond.fieldLink RX3 114 "RepairSender" "keptBackCount" "I"]
def wsL_law0_r3 : List Cond := [Cond.instanceMethod yX2_clear, Cond.selects RX2 yX2_clear yX2_clear, Cond.code yX2_clear cX2_clear 1 none, Cond.fieldLink RX2 18 "RepairSender$Points" "count" "I", Cond.instanceMethod yX2_add, Cond.selects RX2 yX2_add yX2_add, Cond.code yX2_add cX2_add 3 none, Cond.methodLink RL 67 yX4_init, Cond.instanceMethod yX4_init, Cond.code yX4_init cX4_init 1 none, Cond.methodLink RX4 1 objectInit, Cond.fieldLink RX4 7 "RepairSenderModel" "data" "[I", Cond.fieldLink RX4 13 "RepairSenderModel" "lossesOf" "[I", Cond.fieldLink RX4 16 "RepairSenderModel" "waits" "[I", Cond.fieldLink RX4 19 "RepairSenderModel" "sets" "[I", Cond.fieldLink RX4 22 "RepairSenderModel" "bads" "[I", Cond.fieldLink RX4 25 "RepairSenderModel" "isGone" "[Z", Cond.fieldLink RX4 29 "RepairSenderModel" "needsAhead" "[I", Cond.fieldLink RX4 32 "RepairSenderModel" "size" "I", Cond.fieldLink RX4 36 "RepairSenderModel" "patience" "I", Cond.methodLink RL 68 yL_begin, Cond.static yL_begin, Cond.initialized RL, Cond.codeWith yL_begin cL_begin 5 (some .int) [(0, 10, 13, 13)]]
def wsL_law0_r4 : List Cond := [Cond.classLink RL 13 "java/lang/IllegalArgumentException", Cond.methodLink RL 7 yX3_begin, Cond.instanceMethod yX3_begin, Cond.selects RX3 yX3_begin yX3_begin, Cond.code yX3_begin cX3_begin 4 (some .int), Cond.classLink RX3 47 "java/lang/IllegalArgumentException", Cond.initialized "java/lang/IllegalArgumentException", Cond.methodLink RL 73 yX4_begin, Cond.instanceMethod yX4_begin, Cond.selects RX4 yX4_begin yX4_begin, Cond.code yX4_begin cX4_begin 5 (some .int), Cond.fieldLink RX4 39 "RepairSenderModel" "thrown" "I", Cond.fieldLink RX4 49 "RepairSenderModel" "sentMany" "I", Cond.fieldLink RX4 42 "RepairSenderModel" "receiverMany" "I", Cond.fieldLink RX4 52 "RepairSenderModel" "reportMany" "I", Cond.fieldLink RX4 55 "RepairSenderModel" "silentMany" "I", Cond.methodLink RX4 45 yX4_in, Cond.static yX4_in, Cond.code yX4_in cX4_in 3 (some .boolean), Cond.methodLink RL 74 yX4_thrown, Cond.instanceMethod yX4_thrown, Cond.selects RX4 yX4_thrown yX4_thrown, Cond.code yX4_thrown cX4_thrown 1 (some .int), Cond.methodLink RL 77 yL_setDatum]
def wsL_law0_r5 : List Cond := [Cond.static yL_setDatum, Cond.codeWith yL_setDatum cL_setDatum 5 (some .int) [(0, 10, 13, 18), (0, 10, 17, 13), (0, 10, 21, 20)], Cond.classLink RL 18 "java/lang/IndexOutOfBoundsException", Cond.classLink RL 20 "java/lang/IllegalStateException", Cond.methodLink RL 15 yX3_setDatum, Cond.instanceMethod yX3_setDatum, Cond.selects RX3 yX3_setDatum yX3_setDatum, Cond.code yX3_setDatum cX3_setDatum 4 (some .int), Cond.classLink RX3 70 "java/lang/IllegalStateException", Cond.initialized "java/lang/IllegalStateException", Cond.methodLink RX3 60 yX3_demandPlace, Cond.instanceMethod yX3_demandPlace, Cond.selects RX3 yX3_demandPlace yX3_demandPlace, Cond.code yX3_demandPlace cX3_demandPlace 2 none, Cond.classLink RX3 129 "java/lang/IndexOutOfBoundsException", Cond.initialized "java/lang/IndexOutOfBoundsException", Cond.methodLink RX3 64 yX3_isFieldNumber, Cond.static yX3_isFieldNumber, Cond.code yX3_isFieldNumber cX3_isFieldNumber 1 (some .boolean), Cond.methodLink RL 79 yX4_setDatum, Cond.instanceMethod yX4_setDatum, Cond.selects RX4 yX4_setDatum yX4_setDatum, Cond.code yX4_setDatum cX4_setDatum 4 (some .int), Cond.methodLink RL 80 yL_join]
def wsL_law0_r6 : List Cond := [Cond.static yL_join, Cond.codeWith yL_join cL_join 5 (some .int) [(0, 10, 13, 13), (0, 10, 17, 20)], Cond.methodLink RL 22 yX3_join, Cond.instanceMethod yX3_join, Cond.selects RX3 yX3_join yX3_join, Cond.code yX3_join cX3_join 4 (some .int), Cond.methodLink RX3 78 yX3_demandLosses, Cond.static yX3_demandLosses, Cond.code yX3_demandLosses cX3_demandLosses 1 none, Cond.methodLink RX3 81 yX3_demandWait, Cond.static yX3_demandWait, Cond.code yX3_demandWait cX3_demandWait 1 none, Cond.methodLink RL 82 yX4_join, Cond.instanceMethod yX4_join, Cond.selects RX4 yX4_join yX4_join, Cond.code yX4_join cX4_join 3 (some .int), Cond.methodLink RL 83 yL_setLosses, Cond.static yL_setLosses, Cond.codeWith yL_setLosses cL_setLosses 5 (some .int) [(0, 10, 13, 18), (0, 10, 17, 13)], Cond.methodLink RL 25 yX3_setLosses, Cond.instanceMethod yX3_setLosses, Cond.selects RX3 yX3_setLosses yX3_setLosses, Cond.code yX3_setLosses cX3_setLosses 4 (some .int), Cond.methodLink RX3 89 yX3_demandReceiver]
def wsL_law0_r7 : List Cond := [Cond.instanceMethod yX3_demandReceiver, Cond.selects RX3 yX3_demandReceiver yX3_demandReceiver, Cond.code yX3_demandReceiver cX3_demandReceiver 2 none, Cond.methodLink RL 85 yX4_setLosses, Cond.instanceMethod yX4_setLosses, Cond.selects RX4 yX4_setLosses yX4_setLosses, Cond.code yX4_setLosses cX4_setLosses 4 (some .int), Cond.methodLink RX4 58 yX4_isReceiver, Cond.instanceMethod yX4_isReceiver, Cond.selects RX4 yX4_isReceiver yX4_isReceiver, Cond.code yX4_isReceiver cX4_isReceiver 2 (some .boolean), Cond.methodLink RL 86 yL_setWait, Cond.static yL_setWait, Cond.codeWith yL_setWait cL_setWait 5 (some .int) [(0, 10, 13, 18), (0, 10, 17, 13)], Cond.methodLink RL 28 yX3_setWait, Cond.instanceMethod yX3_setWait, Cond.selects RX3 yX3_setWait yX3_setWait, Cond.code yX3_setWait cX3_setWait 4 (some .int), Cond.methodLink RL 88 yX4_setWait, Cond.instanceMethod yX4_setWait, Cond.selects RX4 yX4_setWait yX4_setWait, Cond.code yX4_setWait cX4_setWait 4 (some .int), Cond.methodLink RL 89 yL_send, Cond.static yL_send]
def wsL_law0_r8 : List Cond := [Cond.codeWith yL_send cL_send 4 (some .int) [(0, 9, 12, 13), (0, 9, 15, 20)], Cond.methodLink RL 31 yX3_send, Cond.instanceMethod yX3_send, Cond.selects RX3 yX3_send yX3_send, Cond.code yX3_send cX3_send 2 (some .int), Cond.methodLink RX3 96 yX3_sendPackets, Cond.instanceMethod yX3_sendPackets, Cond.selects RX3 yX3_sendPackets yX3_sendPackets, Cond.code yX3_sendPackets cX3_sendPackets 3 none, Cond.methodLink RX3 186 yX3_sendNextPacket, Cond.instanceMethod yX3_sendNextPacket, Cond.selects RX3 yX3_sendNextPacket yX3_sendNextPacket, Cond.code yX3_sendNextPacket cX3_sendNextPacket 4 none, Cond.methodLink RX3 99 yX3_completeCount, Cond.instanceMethod yX3_completeCount, Cond.selects RX3 yX3_completeCount yX3_completeCount, Cond.code yX3_completeCount cX3_completeCount 3 (some .int), Cond.methodLink RX3 117 yX3_needOf, Cond.instanceMethod yX3_needOf, Cond.selects RX3 yX3_needOf yX3_needOf, Cond.code yX3_needOf cX3_needOf 2 (some .int), Cond.methodLink RX3 181 Lib.Math.max.name, Cond.static Lib.Math.max.name, Cond.initialized "java/lang/Math"]
def wsL_law0_r9 : List Cond := [Cond.code Lib.Math.max.name Lib.Math.max.code 2 (some .int), Cond.methodLink RX3 176 yJ6_bitCount_0f7a4, Cond.static yJ6_bitCount_0f7a4, Cond.initialized RJ6, Cond.code yJ6_bitCount_0f7a4 cJ6_bitCount_0f7a4 1 (some .int), Cond.constant RJ6 265 (1431655765), Cond.constant RJ6 266 (858993459), Cond.constant RJ6 267 (252645135), Cond.methodLink RL 92 yX4_send, Cond.instanceMethod yX4_send, Cond.selects RX4 yX4_send yX4_send, Cond.code yX4_send cX4_send 4 (some .int), Cond.methodLink RX4 62 yX4_sendOne, Cond.instanceMethod yX4_sendOne, Cond.selects RX4 yX4_sendOne yX4_sendOne, Cond.code yX4_sendOne cX4_sendOne 4 none, Cond.methodLink RX4 65 yX4_needOf, Cond.instanceMethod yX4_needOf, Cond.selects RX4 yX4_needOf yX4_needOf, Cond.code yX4_needOf cX4_needOf 4 (some .int), Cond.methodLink RL 93 yL_round, Cond.static yL_round, Cond.codeWith yL_round cL_round 3 (some .int) [(0, 8, 11, 20)], Cond.methodLink RL 35 yX3_round]
def wsL_law0_r10 : List Cond := [Cond.instanceMethod yX3_round, Cond.selects RX3 yX3_round yX3_round, Cond.code yX3_round cX3_round 2 (some .int), Cond.methodLink RX3 105 yX3_hearReports, Cond.instanceMethod yX3_hearReports, Cond.selects RX3 yX3_hearReports yX3_hearReports, Cond.code yX3_hearReports cX3_hearReports 3 (some .int), Cond.methodLink RX3 189 yX3_hearReportsAt, Cond.instanceMethod yX3_hearReportsAt, Cond.selects RX3 yX3_hearReportsAt yX3_hearReportsAt, Cond.code yX3_hearReportsAt cX3_hearReportsAt 6 (some .int), Cond.methodLink RX3 192 yX3_isLiveAndLacks, Cond.instanceMethod yX3_isLiveAndLacks, Cond.selects RX3 yX3_isLiveAndLacks yX3_isLiveAndLacks, Cond.code yX3_isLiveAndLacks cX3_isLiveAndLacks 2 (some .boolean), Cond.methodLink RX3 108 yX3_countBadRounds, Cond.instanceMethod yX3_countBadRounds, Cond.selects RX3 yX3_countBadRounds yX3_countBadRounds, Cond.code yX3_countBadRounds cX3_countBadRounds 2 none, Cond.methodLink RL 96 yX4_round, Cond.instanceMethod yX4_round, Cond.selects RX4 yX4_round yX4_round, Cond.code yX4_round cX4_round 3 (some .int), Cond.methodLink RX4 69 yX4_layNeeds]
def wsL_law0_r11 : List Cond := [Cond.instanceMethod yX4_layNeeds, Cond.selects RX4 yX4_layNeeds yX4_layNeeds, Cond.code yX4_layNeeds cX4_layNeeds 2 none, Cond.methodLink RX4 72 yX4_report, Cond.instanceMethod yX4_report, Cond.selects RX4 yX4_report yX4_report, Cond.code yX4_report cX4_report 6 (some .int), Cond.methodLink RL 97 yX3_sent, Cond.instanceMethod yX3_sent, Cond.selects RX3 yX3_sent yX3_sent, Cond.code yX3_sent cX3_sent 1 (some .int), Cond.methodLink RL 100 yX4_sent, Cond.instanceMethod yX4_sent, Cond.selects RX4 yX4_sent yX4_sent, Cond.code yX4_sent cX4_sent 1 (some .int), Cond.methodLink RL 101 yX3_receivers, Cond.instanceMethod yX3_receivers, Cond.selects RX3 yX3_receivers yX3_receivers, Cond.code yX3_receivers cX3_receivers 1 (some .int), Cond.methodLink RL 104 yX4_receivers, Cond.instanceMethod yX4_receivers, Cond.selects RX4 yX4_receivers yX4_receivers, Cond.code yX4_receivers cX4_receivers 1 (some .int), Cond.methodLink RL 105 yX3_reports]
def wsL_law0_r12 : List Cond := [Cond.instanceMethod yX3_reports, Cond.selects RX3 yX3_reports yX3_reports, Cond.code yX3_reports cX3_reports 1 (some .int), Cond.methodLink RL 108 yX4_reports, Cond.instanceMethod yX4_reports, Cond.selects RX4 yX4_reports yX4_reports, Cond.code yX4_reports cX4_reports 1 (some .int), Cond.methodLink RL 109 yX3_keptBack, Cond.instanceMethod yX3_keptBack, Cond.selects RX3 yX3_keptBack yX3_keptBack, Cond.code yX3_keptBack cX3_keptBack 1 (some .int), Cond.methodLink RL 112 yX4_keptBack, Cond.instanceMethod yX4_keptBack, Cond.selects RX4 yX4_keptBack yX4_keptBack, Cond.code yX4_keptBack cX4_keptBack 1 (some .int), Cond.methodLink RL 113 yL_has, Cond.static yL_has, Cond.codeWith yL_has cL_has 4 (some .int) [(0, 9, 12, 18)], Cond.methodLink RL 39 yX3_has, Cond.instanceMethod yX3_has, Cond.selects RX3 yX3_has yX3_has, Cond.code yX3_has cX3_has 2 (some .int), Cond.methodLink RL 115 yX4_has, Cond.instanceMethod yX4_has]
def wsL_law0_r13 : List Cond := [Cond.selects RX4 yX4_has yX4_has, Cond.code yX4_has cX4_has 2 (some .int), Cond.methodLink RX4 76 yX4_asksFor, Cond.instanceMethod yX4_asksFor, Cond.selects RX4 yX4_asksFor yX4_asksFor, Cond.code yX4_asksFor cX4_asksFor 2 (some .boolean), Cond.methodLink RL 116 yL_need, Cond.static yL_need, Cond.codeWith yL_need cL_need 4 (some .int) [(0, 9, 12, 18)], Cond.methodLink RL 42 yX3_need, Cond.instanceMethod yX3_need, Cond.selects RX3 yX3_need yX3_need, Cond.code yX3_need cX3_need 2 (some .int), Cond.methodLink RL 118 yX4_need, Cond.instanceMethod yX4_need, Cond.selects RX4 yX4_need yX4_need, Cond.code yX4_need cX4_need 2 (some .int), Cond.methodLink RL 119 yL_isDropped, Cond.static yL_isDropped, Cond.codeWith yL_isDropped cL_isDropped 4 (some .int) [(0, 16, 19, 18)], Cond.methodLink RL 45 yX3_isDropped, Cond.instanceMethod yX3_isDropped, Cond.selects RX3 yX3_isDropped yX3_isDropped, Cond.code yX3_isDropped cX3_isDropped 2 (some .boolean)]
def wsL_law0_r14 : List Cond := [Cond.methodLink RL 121 yX4_isDropped, Cond.instanceMethod yX4_isDropped, Cond.selects RX4 yX4_isDropped yX4_isDropped, Cond.code yX4_isDropped cX4_isDropped 2 (some .boolean), Cond.methodLink RL 122 yL_badRounds, Cond.static yL_badRounds, Cond.codeWith yL_badRounds cL_badRounds 4 (some .int) [(0, 9, 12, 18)], Cond.methodLink RL 49 yX3_badRounds, Cond.instanceMethod yX3_badRounds, Cond.selects RX3 yX3_badRounds yX3_badRounds, Cond.code yX3_badRounds cX3_badRounds 2 (some .int), Cond.methodLink RL 124 yX4_badRounds, Cond.instanceMethod yX4_badRounds, Cond.selects RX4 yX4_badRounds yX4_badRounds, Cond.code yX4_badRounds cX4_badRounds 2 (some .int), Cond.methodLink RL 125 yL_times, Cond.static yL_times, Cond.codeWith yL_times cL_times 5 (some .int) [(0, 10, 13, 13)], Cond.methodLink RL 52 yX3_times, Cond.instanceMethod yX3_times, Cond.selects RX3 yX3_times yX3_times, Cond.code yX3_times cX3_times 3 (some .int), Cond.static yX1_product, Cond.initialized RX1]
def wsL_law0_r15 : List Cond := [Cond.code yX1_product cX1_product 5 (some .int), Cond.methodLink RL 127 yX4_times, Cond.instanceMethod yX4_times, Cond.selects RX4 yX4_times yX4_times, Cond.code yX4_times cX4_times 3 (some .int), Cond.methodLink RX4 79 yX4_product, Cond.static yX4_product, Cond.code yX4_product cX4_product 5 (some .int), Cond.methodLink RL 128 yL_packet, Cond.static yL_packet, Cond.codeWith yL_packet cL_packet 4 (some .int) [(0, 9, 12, 18)], Cond.methodLink RL 55 yX3_packet, Cond.instanceMethod yX3_packet, Cond.selects RX3 yX3_packet yX3_packet, Cond.code yX3_packet cX3_packet 2 (some .int), Cond.instanceMethod yX2_polynomialAt, Cond.selects RX2 yX2_polynomialAt yX2_polynomialAt, Cond.code yX2_polynomialAt cX2_polynomialAt 4 (some .int), Cond.methodLink RX2 22 yX2_weight, Cond.instanceMethod yX2_weight, Cond.selects RX2 yX2_weight yX2_weight, Cond.code yX2_weight cX2_weight 6 (some .int), Cond.static yX1_inverse, Cond.code yX1_inverse cX1_inverse 4 (some .int)]
def wsL_law0_r16 : List Cond := [Cond.methodLink RX1 11 yX1_product, Cond.methodLink RL 130 yX4_packet, Cond.instanceMethod yX4_packet, Cond.selects RX4 yX4_packet yX4_packet, Cond.code yX4_packet cX4_packet 7 (some .int), Cond.methodLink RX4 82 yX4_inverse, Cond.static yX4_inverse, Cond.code yX4_inverse cX4_inverse 2 (some .int), Cond.methodLink RL 131 yL_rebuilt, Cond.static yL_rebuilt, Cond.codeWith yL_rebuilt cL_rebuilt 5 (some .int) [(0, 10, 13, 18), (0, 10, 17, 20)], Cond.methodLink RL 58 yX3_rebuilt, Cond.instanceMethod yX3_rebuilt, Cond.selects RX3 yX3_rebuilt yX3_rebuilt, Cond.code yX3_rebuilt cX3_rebuilt 3 (some .int), Cond.methodLink RX3 137 yX3_demandRebuilding, Cond.instanceMethod yX3_demandRebuilding, Cond.selects RX3 yX3_demandRebuilding yX3_demandRebuilding, Cond.code yX3_demandRebuilding cX3_demandRebuilding 3 none, Cond.methodLink RX3 140 yX3_chooseLowest, Cond.instanceMethod yX3_chooseLowest, Cond.selects RX3 yX3_chooseLowest yX3_chooseLowest, Cond.code yX3_chooseLowest cX3_chooseLowest 3 none, Cond.methodLink RX3 195 yX3_chooseIfWanted]
def wsL_law0_r17 : List Cond := [Cond.instanceMethod yX3_chooseIfWanted, Cond.selects RX3 yX3_chooseIfWanted yX3_chooseIfWanted, Cond.code yX3_chooseIfWanted cX3_chooseIfWanted 4 none, Cond.methodLink RL 133 yX4_rebuilt, Cond.instanceMethod yX4_rebuilt, Cond.selects RX4 yX4_rebuilt yX4_rebuilt, Cond.code yX4_rebuilt cX4_rebuilt 3 (some .int), Cond.methodLink RL 134 yL_rebuiltByElimination, Cond.static yL_rebuiltByElimination, Cond.codeWith yL_rebuiltByElimination cL_rebuiltByElimination 5 (some .int) [(0, 10, 13, 18), (0, 10, 17, 20)], Cond.methodLink RL 61 yX3_rebuiltByElimination, Cond.instanceMethod yX3_rebuiltByElimination, Cond.selects RX3 yX3_rebuiltByElimination yX3_rebuiltByElimination, Cond.code yX3_rebuiltByElimination cX3_rebuiltByElimination 3 (some .int), Cond.methodLink RX3 143 yX3_chooseHighest, Cond.instanceMethod yX3_chooseHighest, Cond.selects RX3 yX3_chooseHighest yX3_chooseHighest, Cond.code yX3_chooseHighest cX3_chooseHighest 3 none, Cond.instanceMethod yX0_write, Cond.selects RX0 yX0_write yX0_write, Cond.code yX0_write cX0_write 5 none, Cond.fieldLink RX0 22 "RepairSender$Equations" "count" "I", Cond.instanceMethod yX0_solve, Cond.selects RX0 yX0_solve yX0_solve]
def wsL_law0_r18 : List Cond := [Cond.code yX0_solve cX0_solve 3 none, Cond.methodLink RX0 40 yX0_scaleRow, Cond.instanceMethod yX0_scaleRow, Cond.selects RX0 yX0_scaleRow yX0_scaleRow, Cond.code yX0_scaleRow cX0_scaleRow 4 none, Cond.methodLink RX0 44 yX0_addMultiple, Cond.instanceMethod yX0_addMultiple, Cond.selects RX0 yX0_addMultiple yX0_addMultiple, Cond.code yX0_addMultiple cX0_addMultiple 5 none, Cond.instanceMethod yX0_polynomialAt, Cond.selects RX0 yX0_polynomialAt yX0_polynomialAt, Cond.code yX0_polynomialAt cX0_polynomialAt 4 (some .int), Cond.methodLink RL 136 yX4_rebuiltByElimination, Cond.instanceMethod yX4_rebuiltByElimination, Cond.selects RX4 yX4_rebuiltByElimination yX4_rebuiltByElimination, Cond.code yX4_rebuiltByElimination cX4_rebuiltByElimination 3 (some .int), Cond.methodLink RX4 85 yX4_rebuilt]
def wsL_law0 : List Cond := (wsL_law0_r1 ++ (wsL_law0_r2 ++ (wsL_law0_r3 ++ (wsL_law0_r4 ++ (wsL_law0_r5 ++ (wsL_law0_r6 ++ (wsL_law0_r7 ++ (wsL_law0_r8 ++ (wsL_law0_r9 ++ (wsL_law0_r10 ++ (wsL_law0_r11 ++ (wsL_law0_r12 ++ (wsL_law0_r13 ++ (wsL_law0_r14 ++ (wsL_law0_r15 ++ (wsL_law0_r16 ++ (wsL_law0_r17 ++ wsL_law0_r18))))))))))))))))) ++ wsX30 ++ wsX40 ++ wsX20 ++ wsX00 ++ ([] : List Cond)
def wsL_law : List Cond := wsL_law0 ++ (vx_atS RX3 51 "java/lang/IllegalArgumentException" ["java/lang/RuntimeException", "java/lang/Exception"]).filter goodWord ++ (vx_atS RX3 74 "java/lang/IllegalStateException" ["java/lang/RuntimeException", "java/lang/Exception"]).filter goodWord ++ (vx_atS RX3 133 "java/lang/IndexOutOfBoundsException" ["java/lang/RuntimeException", "java/lang/Exception"]).filter goodWord
set_option maxRecDepth 20000 in
theorem dJ6_bitCount_0f7a4_0 : decode cJ6_bitCount_0f7a4 0 = .ok (.iload_n 0, 1) := by decide +kernel
theorem dJ6_bitCount_0f7a4_1 : decode cJ6_bitCount_0f7a4 1 = .ok (.iload_n 0, 1) := by decide +kernel
theorem dJ6_bitCount_0f7a4_2 : decode cJ6_bitCount_0f7a4 2 = .ok (.iconst 1, 1) := by decide +kernel
theorem dJ6_bitCount_0f7a4_3 : decode cJ6_bitCount_0f7a4 3 = .ok (.iushr, 1) := by decide +kernel
theorem dJ6_bitCount_0f7a4_4 : decode cJ6_bitCount_0f7a4 4 = .ok (.ldc_w 265, 3) := by decide +kernel
theorem dJ6_bitCount_0f7a4_7 : decode cJ6_bitCount_0f7a4 7 = .ok (.iand, 1) := by decide +kernel
theorem dJ6_bitCount_0f7a4_8 : decode cJ6_bitCount_0f7a4 8 = .ok (.isub, 1) := by decide +kernel
theorem dJ6_bitCount_0f7a4_9 : decode cJ6_bitCount_0f7a4 9 = .ok (.istore_n 0, 1) := by decide +kernel
theorem dJ6_bitCount_0f7a4_10 : decode cJ6_bitCount_0f7a4 10 = .ok (.iload_n 0, 1) := by decide +kernel
theorem dJ6_bitCount_0f7a4_11 : decode cJ6_bitCount_0f7a4 11 = .ok (.ldc_w 266, 3) := by decide +kernel
theorem dJ6_bitCount_0f7a4_14 : decode cJ6_bitCount_0f7a4 14 = .ok (.iand, 1) := by decide +kernel
theorem dJ6_bitCount_0f7a4_15 : decode cJ6_bitCount_0f7a4 15 = .ok (.iload_n 0, 1) := by decide +kernel
theorem dJ6_bitCount_0f7a4_16 : decode cJ6_bitCount_0f7a4 16 = .ok (.iconst 2, 1) := by decide +kernel
theorem dJ6_bitCount_0f7a4_17 : decode cJ6_bitCount_0f7a4 17 = .ok (.iushr, 1) := by decide +kernel
theorem dJ6_bitCount_0f7a4_18 : decode cJ6_bitCount_0f7a4 18 = .ok (.ldc_w 266, 3) := by decide +kernel
theorem dJ6_bitCount_0f7a4_21 : decode cJ6_bitCount_0f7a4 21 = .ok (.iand, 1) := by decide +kernel
theorem dJ6_bitCount_0f7a4_22 : decode cJ6_bitCount_0f7a4 22 = .ok (.iadd, 1) := by decide +kernel
theorem dJ6_bitCount_0f7a4_23 : decode cJ6_bitCount_0f7a4 23 = .ok (.istore_n 0, 1) := by decide +kernel
theorem dJ6_bitCount_0f7a4_24 : decode cJ6_bitCount_0f7a4 24 = .ok (.iload_n 0, 1) := by decide +kernel
theorem dJ6_bitCount_0f7a4_25 : decode cJ6_bitCount_0f7a4 25 = .ok (.iload_n 0, 1) := by decide +kernel
theorem dJ6_bitCount_0f7a4_26 : decode cJ6_bitCount_0f7a4 26 = .ok (.iconst 4, 1) := by decide +kernel
theorem dJ6_bitCount_0f7a4_27 : decode cJ6_bitCount_0f7a4 27 = .ok (.iushr, 1) := by decide +kernel
theorem dJ6_bitCount_0f7a4_28 : decode cJ6_bitCount_0f7a4 28 = .ok (.iadd, 1) := by decide +kernel
theorem dJ6_bitCount_0f7a4_29 : decode cJ6_bitCount_0f7a4 29 = .ok (.ldc_w 267, 3) := by decide +kernel
theorem dJ6_bitCount_0f7a4_32 : decode cJ6_bitCount_0f7a4 32 = .ok (.iand, 1) := by decide +kernel
theorem dJ6_bitCount_0f7a4_33 : decode cJ6_bitCount_0f7a4 33 = .ok (.istore_n 0, 1) := by decide +kernel
theorem dJ6_bitCount_0f7a4_34 : decode cJ6_bitCount_0f7a4 34 = .ok (.iload_n 0, 1) := by decide +kernel
theorem dJ6_bitCount_0f7a4_35 : decode cJ6_bitCount_0f7a4 35 = .ok (.iload_n 0, 1) := by decide +kernel
theorem dJ6_bitCount_0f7a4_36 : decode cJ6_bitCount_0f7a4 36 = .ok (.bipush 8, 2) := by decide +kernel
theorem dJ6_bitCount_0f7a4_38 : decode cJ6_bitCount_0f7a4 38 = .ok (.iushr, 1) := by decide +kernel
theorem dJ6_bitCount_0f7a4_39 : decode cJ6_bitCount_0f7a4 39 = .ok (.iadd, 1) := by decide +kernel
theorem dJ6_bitCount_0f7a4_40 : decode cJ6_bitCount_0f7a4 40 = .ok (.istore_n 0, 1) := by decide +kernel
theorem dJ6_bitCount_0f7a4_41 : decode cJ6_bitCount_0f7a4 41 = .ok (.iload_n 0, 1) := by decide +kernel
theorem dJ6_bitCount_0f7a4_42 : decode cJ6_bitCount_0f7a4 42 = .ok (.iload_n 0, 1) := by decide +kernel
theorem dJ6_bitCount_0f7a4_43 : decode cJ6_bitCount_0f7a4 43 = .ok (.bipush 16, 2) := by decide +kernel
theorem dJ6_bitCount_0f7a4_45 : decode cJ6_bitCount_0f7a4 45 = .ok (.iushr, 1) := by decide +kernel
theorem dJ6_bitCount_0f7a4_46 : decode cJ6_bitCount_0f7a4 46 = .ok (.iadd, 1) := by decide +kernel
theorem dJ6_bitCount_0f7a4_47 : decode cJ6_bitCount_0f7a4 47 = .ok (.istore_n 0, 1) := by decide +kernel
theorem dJ6_bitCount_0f7a4_48 : decode cJ6_bitCount_0f7a4 48 = .ok (.iload_n 0, 1) := by decide +kernel
theorem dJ6_bitCount_0f7a4_49 : decode cJ6_bitCount_0f7a4 49 = .ok (.bipush 63, 2) := by decide +kernel
theorem dJ6_bitCount_0f7a4_51 : decode cJ6_bitCount_0f7a4 51 = .ok (.iand, 1) := by decide +kernel
theorem dJ6_bitCount_0f7a4_52 : decode cJ6_bitCount_0f7a4 52 = .ok (.ireturn, 1) := by decide +kernel
theorem dJ9_max_7cf53_0 : decode cJ9_max_7cf53 0 = .ok (.iload_n 0, 1) := by decide +kernel
theorem dJ9_max_7cf53_1 : decode cJ9_max_7cf53 1 = .ok (.iload_n 1, 1) := by decide +kernel
theorem dJ9_max_7cf53_2 : decode cJ9_max_7cf53 2 = .ok (.if_icmp .lt 7, 3) := by decide +kernel
theorem dJ9_max_7cf53_5 : decode cJ9_max_7cf53 5 = .ok (.iload_n 0, 1) := by decide +kernel
theorem dJ9_max_7cf53_6 : decode cJ9_max_7cf53 6 = .ok (.goto 4, 3) := by decide +kernel
theorem dJ9_max_7cf53_9 : decode cJ9_max_7cf53 9 = .ok (.iload_n 1, 1) := by decide +kernel
theorem dJ9_max_7cf53_10 : decode cJ9_max_7cf53 10 = .ok (.ireturn, 1) := by decide +kernel
set_option maxRecDepth 20000 in
theorem ggL_begin_X3_begin : GoodIn wsL_begin wsX3_begin := goodIn_ca (goodIn_r _ [6, 7, 8, 9, 10, 11, 12, 5, 13, 14, 15, 16, 17, 18, 19, 20, 21, 22, 23, 24, 25, 26, 27, 28, 29, 30, 31, 32, 33, 34, 35, 36, 37, 38, 39, 40, 41, 42, 43, 44] (by decide +kernel) (by decide +kernel)) (goodIn_sub (fun _ h => List.mem_cons_of_mem _ (List.mem_append_right _ h)) (by decide +kernel))
set_option maxRecDepth 20000 in
theorem gL_begin_X3_begin : GoodIn wsL_begin (wsV RL 7 RX3 yX3_begin wsX3_begin) := goodIn_app (goodIn_of _ (by decide +kernel)) ggL_begin_X3_begin
theorem dL_begin_0 : decode cL_begin 0 = .ok (.aload_n 3, 1) := by decide +kernel
theorem dL_begin_1 : decode cL_begin 1 = .ok (.iconst 0, 1) := by decide +kernel
theorem dL_begin_2 : decode cL_begin 2 = .ok (.aload_n 0, 1) := by decide +kernel
theorem dL_begin_3 : decode cL_begin 3 = .ok (.iload_n 1, 1) := by decide +kernel
theorem dL_begin_4 : decode cL_begin 4 = .ok (.iload_n 2, 1) := by decide +kernel
theorem dL_begin_5 : decode cL_begin 5 = .ok (.invokevirtual 7, 3) := by decide +kernel
theorem dL_begin_8 : decode cL_begin 8 = .ok (.i2l, 1) := by decide +kernel
theorem dL_begin_9 : decode cL_begin 9 = .ok (.lastore, 1) := by decide +kernel
theorem dL_begin_10 : decode cL_begin 10 = .ok (.goto 7, 3) := by decide +kernel
theorem dL_begin_13 : decode cL_begin 13 = .ok (.astore 4, 2) := by decide +kernel
theorem dL_begin_15 : decode cL_begin 15 = .ok (.iconst 1, 1) := by decide +kernel
theorem dL_begin_16 : decode cL_begin 16 = .ok (.ireturn, 1) := by decide +kernel
theorem dL_begin_17 : decode cL_begin 17 = .ok (.iconst 0, 1) := by decide +kernel
theorem dL_begin_18 : decode cL_begin 18 = .ok (.ireturn, 1) := by decide +kernel
set_option maxRecDepth 20000 in
theorem ggL_setDatum_X3_setDatum : GoodIn wsL_setDatum wsX3_setDatum := goodIn_ca (goodIn_ca (goodIn_ca (goodIn_r _ [8, 9, 10, 11, 12, 13, 14, 15, 16, 17, 7, 18, 19, 20, 21, 22, 23, 24, 25, 26, 27, 28, 29, 30, 31, 32, 33, 34, 35, 36, 37, 38, 39] (by decide +kernel) (by decide +kernel)) (goodIn_sub (fun _ h => List.mem_cons_of_mem _ (List.mem_append_left _ (List.mem_append_left _ (List.mem_append_right _ h)))) (by decide +kernel))) (goodIn_sub (fun _ h => List.mem_cons_of_mem _ (List.mem_append_left _ (List.mem_append_right _ h))) (by decide +kernel))) (goodIn_sub (fun _ h => List.mem_cons_of_mem _ (List.mem_append_right _ h)) (by decide +kernel))
set_option maxRecDepth 20000 in
theorem gL_setDatum_X3_setDatum : GoodIn wsL_setDatum (wsV RL 15 RX3 yX3_setDatum wsX3_setDatum) := goodIn_app (goodIn_of _ (by decide +kernel)) ggL_setDatum_X3_setDatum
theorem dL_setDatum_0 : decode cL_setDatum 0 = .ok (.aload_n 3, 1) := by decide +kernel
theorem dL_setDatum_1 : decode cL_setDatum 1 = .ok (.iconst 0, 1) := by decide +kernel
theorem dL_setDatum_2 : decode cL_setDatum 2 = .ok (.aload_n 0, 1) := by decide +kernel
theorem dL_setDatum_3 : decode cL_setDatum 3 = .ok (.iload_n 1, 1) := by decide +kernel
theorem dL_setDatum_4 : decode cL_setDatum 4 = .ok (.iload_n 2, 1) := by decide +kernel
theorem dL_setDatum_5 : decode cL_setDatum 5 = .ok (.invokevirtual 15, 3) := by decide +kernel
theorem dL_setDatum_8 : decode cL_setDatum 8 = .ok (.i2l, 1) := by decide +kernel
theorem dL_setDatum_9 : decode cL_setDatum 9 = .ok (.lastore, 1) := by decide +kernel
theorem dL_setDatum_10 : decode cL_setDatum 10 = .ok (.goto 15, 3) := by decide +kernel
theorem dL_setDatum_13 : decode cL_setDatum 13 = .ok (.astore 4, 2) := by decide +kernel
theorem dL_setDatum_15 : decode cL_setDatum 15 = .ok (.iconst 1, 1) := by decide +kernel
theorem dL_setDatum_16 : decode cL_setDatum 16 = .ok (.ireturn, 1) := by decide +kernel
theorem dL_setDatum_17 : decode cL_setDatum 17 = .ok (.astore 4, 2) := by decide +kernel
theorem dL_setDatum_19 : decode cL_setDatum 19 = .ok (.iconst 2, 1) := by decide +kernel
theorem dL_setDatum_20 : decode cL_setDatum 20 = .ok (.ireturn, 1) := by decide +kernel
theorem dL_setDatum_21 : decode cL_setDatum 21 = .ok (.astore 4, 2) := by decide +kernel
theorem dL_setDatum_23 : decode cL_setDatum 23 = .ok (.iconst 3, 1) := by decide +kernel
theorem dL_setDatum_24 : decode cL_setDatum 24 = .ok (.ireturn, 1) := by decide +kernel
theorem dL_setDatum_25 : decode cL_setDatum 25 = .ok (.iconst 0, 1) := by decide +kernel
theorem dL_setDatum_26 : decode cL_setDatum 26 = .ok (.ireturn, 1) := by decide +kernel
set_option maxRecDepth 20000 in
theorem ggL_join_X3_join : GoodIn wsL_join wsX3_join := goodIn_ca (goodIn_ca (goodIn_r _ [7, 8, 9, 10, 11, 12, 13, 14, 15, 16, 17, 6, 18, 19, 20, 21, 22, 23, 24, 25, 26, 27, 28, 29, 30, 31, 32, 33, 34, 35, 36] (by decide +kernel) (by decide +kernel)) (goodIn_sub (fun _ h => List.mem_cons_of_mem _ (List.mem_append_left _ (List.mem_append_right _ h))) (by decide +kernel))) (goodIn_sub (fun _ h => List.mem_cons_of_mem _ (List.mem_append_right _ h)) (by decide +kernel))
set_option maxRecDepth 20000 in
theorem gL_join_X3_join : GoodIn wsL_join (wsV RL 22 RX3 yX3_join wsX3_join) := goodIn_app (goodIn_of _ (by decide +kernel)) ggL_join_X3_join
theorem dL_join_0 : decode cL_join 0 = .ok (.aload_n 3, 1) := by decide +kernel
theorem dL_join_1 : decode cL_join 1 = .ok (.iconst 0, 1) := by decide +kernel
theorem dL_join_2 : decode cL_join 2 = .ok (.aload_n 0, 1) := by decide +kernel
theorem dL_join_3 : decode cL_join 3 = .ok (.iload_n 1, 1) := by decide +kernel
theorem dL_join_4 : decode cL_join 4 = .ok (.iload_n 2, 1) := by decide +kernel
theorem dL_join_5 : decode cL_join 5 = .ok (.invokevirtual 22, 3) := by decide +kernel
theorem dL_join_8 : decode cL_join 8 = .ok (.i2l, 1) := by decide +kernel
theorem dL_join_9 : decode cL_join 9 = .ok (.lastore, 1) := by decide +kernel
theorem dL_join_10 : decode cL_join 10 = .ok (.goto 11, 3) := by decide +kernel
theorem dL_join_13 : decode cL_join 13 = .ok (.astore 4, 2) := by decide +kernel
theorem dL_join_15 : decode cL_join 15 = .ok (.iconst 1, 1) := by decide +kernel
theorem dL_join_16 : decode cL_join 16 = .ok (.ireturn, 1) := by decide +kernel
theorem dL_join_17 : decode cL_join 17 = .ok (.astore 4, 2) := by decide +kernel
theorem dL_join_19 : decode cL_join 19 = .ok (.iconst 2, 1) := by decide +kernel
theorem dL_join_20 : decode cL_join 20 = .ok (.ireturn, 1) := by decide +kernel
theorem dL_join_21 : decode cL_join 21 = .ok (.iconst 0, 1) := by decide +kernel
theorem dL_join_22 : decode cL_join 22 = .ok (.ireturn, 1) := by decide +kernel
set_option maxRecDepth 20000 in
theorem ggL_setLosses_X3_setLosses : GoodIn wsL_setLosses wsX3_setLosses := goodIn_ca (goodIn_ca (goodIn_r _ [7, 8, 9, 10, 11, 6, 12, 13, 14, 15, 16, 17, 18, 19, 20, 21, 22, 23, 24, 25, 26, 27, 28, 29, 30, 31, 32, 33] (by decide +kernel) (by decide +kernel)) (goodIn_sub (fun _ h => List.mem_cons_of_mem _ (List.mem_append_left _ (List.mem_append_right _ h))) (by decide +kernel))) (goodIn_sub (fun _ h => List.mem_cons_of_mem _ (List.mem_append_right _ h)) (by decide +kernel))
set_option maxRecDepth 20000 in
theorem gL_setLosses_X3_setLosses : GoodIn wsL_setLosses (wsV RL 25 RX3 yX3_setLosses wsX3_setLosses) := goodIn_app (goodIn_of _ (by decide +kernel)) ggL_setLosses_X3_setLosses
theorem dL_setLosses_0 : decode cL_setLosses 0 = .ok (.aload_n 3, 1) := by decide +kernel
theorem dL_setLosses_1 : decode cL_setLosses 1 = .ok (.iconst 0, 1) := by decide +kernel
theorem dL_setLosses_2 : decode cL_setLosses 2 = .ok (.aload_n 0, 1) := by decide +kernel
theorem dL_setLosses_3 : decode cL_setLosses 3 = .ok (.iload_n 1, 1) := by decide +kernel
theorem dL_setLosses_4 : decode cL_setLosses 4 = .ok (.iload_n 2, 1) := by decide +kernel
theorem dL_setLosses_5 : decode cL_setLosses 5 = .ok (.invokevirtual 25, 3) := by decide +kernel
theorem dL_setLosses_8 : decode cL_setLosses 8 = .ok (.i2l, 1) := by decide +kernel
theorem dL_setLosses_9 : decode cL_setLosses 9 = .ok (.lastore, 1) := by decide +kernel
theorem dL_setLosses_10 : decode cL_setLosses 10 = .ok (.goto 11, 3) := by decide +kernel
theorem dL_setLosses_13 : decode cL_setLosses 13 = .ok (.astore 4, 2) := by decide +kernel
theorem dL_setLosses_15 : decode cL_setLosses 15 = .ok (.iconst 1, 1) := by decide +kernel
theorem dL_setLosses_16 : decode cL_setLosses 16 = .ok (.ireturn, 1) := by decide +kernel
theorem dL_setLosses_17 : decode cL_setLosses 17 = .ok (.astore 4, 2) := by decide +kernel
theorem dL_setLosses_19 : decode cL_setLosses 19 = .ok (.iconst 2, 1) := by decide +kernel
theorem dL_setLosses_20 : decode cL_setLosses 20 = .ok (.ireturn, 1) := by decide +kernel
theorem dL_setLosses_21 : decode cL_setLosses 21 = .ok (.iconst 0, 1) := by decide +kernel
theorem dL_setLosses_22 : decode cL_setLosses 22 = .ok (.ireturn, 1) := by decide +kernel
set_option maxRecDepth 20000 in
theorem ggL_setWait_X3_setWait : GoodIn wsL_setWait wsX3_setWait := goodIn_ca (goodIn_ca (goodIn_r _ [7, 8, 9, 10, 11, 6, 12, 13, 14, 15, 16, 17, 18, 19, 20, 21, 22, 23, 24, 25, 26, 27, 28, 29, 30, 31, 32, 33] (by decide +kernel) (by decide +kernel)) (goodIn_sub (fun _ h => List.mem_cons_of_mem _ (List.mem_append_left _ (List.mem_append_right _ h))) (by decide +kernel))) (goodIn_sub (fun _ h => List.mem_cons_of_mem _ (List.mem_append_right _ h)) (by decide +kernel))
set_option maxRecDepth 20000 in
theorem gL_setWait_X3_setWait : GoodIn wsL_setWait (wsV RL 28 RX3 yX3_setWait wsX3_setWait) := goodIn_app (goodIn_of _ (by decide +kernel)) ggL_setWait_X3_setWait
theorem dL_setWait_0 : decode cL_setWait 0 = .ok (.aload_n 3, 1) := by decide +kernel
theorem dL_setWait_1 : decode cL_setWait 1 = .ok (.iconst 0, 1) := by decide +kernel
theorem dL_setWait_2 : decode cL_setWait 2 = .ok (.aload_n 0, 1) := by decide +kernel
theorem dL_setWait_3 : decode cL_setWait 3 = .ok (.iload_n 1, 1) := by decide +kernel
theorem dL_setWait_4 : decode cL_setWait 4 = .ok (.iload_n 2, 1) := by decide +kernel
theorem dL_setWait_5 : decode cL_setWait 5 = .ok (.invokevirtual 28, 3) := by decide +kernel
theorem dL_setWait_8 : decode cL_setWait 8 = .ok (.i2l, 1) := by decide +kernel
theorem dL_setWait_9 : decode cL_setWait 9 = .ok (.lastore, 1) := by decide +kernel
theorem dL_setWait_10 : decode cL_setWait 10 = .ok (.goto 11, 3) := by decide +kernel
theorem dL_setWait_13 : decode cL_setWait 13 = .ok (.astore 4, 2) := by decide +kernel
theorem dL_setWait_15 : decode cL_setWait 15 = .ok (.iconst 1, 1) := by decide +kernel
theorem dL_setWait_16 : decode cL_setWait 16 = .ok (.ireturn, 1) := by decide +kernel
theorem dL_setWait_17 : decode cL_setWait 17 = .ok (.astore 4, 2) := by decide +kernel
theorem dL_setWait_19 : decode cL_setWait 19 = .ok (.iconst 2, 1) := by decide +kernel
theorem dL_setWait_20 : decode cL_setWait 20 = .ok (.ireturn, 1) := by decide +kernel
theorem dL_setWait_21 : decode cL_setWait 21 = .ok (.iconst 0, 1) := by decide +kernel
theorem dL_setWait_22 : decode cL_setWait 22 = .ok (.ireturn, 1) := by decide +kernel
set_option maxRecDepth 20000 in
theorem ggL_send_X3_send : GoodIn wsL_send wsX3_send := goodIn_ca (goodIn_ca (goodIn_r _ [7, 8, 9, 10, 11, 12, 13, 14, 15, 6, 16, 17, 18, 19, 20, 21, 22, 23, 24, 25, 26, 27, 28, 29, 30, 31, 32, 33, 34, 35, 36, 37, 38, 39, 40, 41, 42, 43, 44, 45, 46, 47, 48, 49, 50, 51, 52, 53, 54, 55, 56, 57, 58, 59, 60] (by decide +kernel) (by decide +kernel)) (goodIn_sub (fun _ h => List.mem_cons_of_mem _ (List.mem_append_left _ (List.mem_append_right _ h))) (by decide +kernel))) (goodIn_sub (fun _ h => List.mem_cons_of_mem _ (List.mem_append_right _ h)) (by decide +kernel))
set_option maxRecDepth 20000 in
theorem gL_send_X3_send : GoodIn wsL_send (wsV RL 31 RX3 yX3_send wsX3_send) := goodIn_app (goodIn_of _ (by decide +kernel)) ggL_send_X3_send
theorem dL_send_0 : decode cL_send 0 = .ok (.aload_n 2, 1) := by decide +kernel
theorem dL_send_1 : decode cL_send 1 = .ok (.iconst 0, 1) := by decide +kernel
theorem dL_send_2 : decode cL_send 2 = .ok (.aload_n 0, 1) := by decide +kernel
theorem dL_send_3 : decode cL_send 3 = .ok (.iload_n 1, 1) := by decide +kernel
theorem dL_send_4 : decode cL_send 4 = .ok (.invokevirtual 31, 3) := by decide +kernel
theorem dL_send_7 : decode cL_send 7 = .ok (.i2l, 1) := by decide +kernel
theorem dL_send_8 : decode cL_send 8 = .ok (.lastore, 1) := by decide +kernel
theorem dL_send_9 : decode cL_send 9 = .ok (.goto 9, 3) := by decide +kernel
theorem dL_send_12 : decode cL_send 12 = .ok (.astore_n 3, 1) := by decide +kernel
theorem dL_send_13 : decode cL_send 13 = .ok (.iconst 1, 1) := by decide +kernel
theorem dL_send_14 : decode cL_send 14 = .ok (.ireturn, 1) := by decide +kernel
theorem dL_send_15 : decode cL_send 15 = .ok (.astore_n 3, 1) := by decide +kernel
theorem dL_send_16 : decode cL_send 16 = .ok (.iconst 2, 1) := by decide +kernel
theorem dL_send_17 : decode cL_send 17 = .ok (.ireturn, 1) := by decide +kernel
theorem dL_send_18 : decode cL_send 18 = .ok (.iconst 0, 1) := by decide +kernel
theorem dL_send_19 : decode cL_send 19 = .ok (.ireturn, 1) := by decide +kernel
set_option maxRecDepth 20000 in
theorem ggL_round_X3_round : GoodIn wsL_round wsX3_round := goodIn_ca (goodIn_r _ [6, 7, 8, 9, 10, 11, 12, 5, 13, 14, 15, 16, 17, 18, 19, 20, 21, 22, 23, 24, 25, 26, 27, 28, 29, 30, 31, 32, 33, 34, 35, 36, 37, 38, 39, 40, 41, 42, 43, 44, 45, 46, 47, 48, 49, 50, 51, 52, 53, 54, 55, 56, 57, 58, 59, 60, 61, 62, 63, 64, 65, 66, 67, 68, 69, 70, 71, 72, 73, 74] (by decide +kernel) (by decide +kernel)) (goodIn_sub (fun _ h => List.mem_cons_of_mem _ (List.mem_append_right _ h)) (by decide +kernel))
set_option maxRecDepth 20000 in
theorem gL_round_X3_round : GoodIn wsL_round (wsV RL 35 RX3 yX3_round wsX3_round) := goodIn_app (goodIn_of _ (by decide +kernel)) ggL_round_X3_round
theorem dL_round_0 : decode cL_round 0 = .ok (.aload_n 1, 1) := by decide +kernel
theorem dL_round_1 : decode cL_round 1 = .ok (.iconst 0, 1) := by decide +kernel
theorem dL_round_2 : decode cL_round 2 = .ok (.aload_n 0, 1) := by decide +kernel
theorem dL_round_3 : decode cL_round 3 = .ok (.invokevirtual 35, 3) := by decide +kernel
theorem dL_round_6 : decode cL_round 6 = .ok (.i2l, 1) := by decide +kernel
theorem dL_round_7 : decode cL_round 7 = .ok (.lastore, 1) := by decide +kernel
theorem dL_round_8 : decode cL_round 8 = .ok (.goto 6, 3) := by decide +kernel
theorem dL_round_11 : decode cL_round 11 = .ok (.astore_n 2, 1) := by decide +kernel
theorem dL_round_12 : decode cL_round 12 = .ok (.iconst 1, 1) := by decide +kernel
theorem dL_round_13 : decode cL_round 13 = .ok (.ireturn, 1) := by decide +kernel
theorem dL_round_14 : decode cL_round 14 = .ok (.iconst 0, 1) := by decide +kernel
theorem dL_round_15 : decode cL_round 15 = .ok (.ireturn, 1) := by decide +kernel
set_option maxRecDepth 20000 in
theorem ggL_has_X3_has : GoodIn wsL_has wsX3_has := goodIn_ca (goodIn_r _ [6, 7, 8, 9, 10, 5, 11, 12, 13, 14, 15, 16, 17, 18, 19, 20, 21, 22, 23, 24, 25, 26, 27] (by decide +kernel) (by decide +kernel)) (goodIn_sub (fun _ h => List.mem_cons_of_mem _ (List.mem_append_right _ h)) (by decide +kernel))
set_option maxRecDepth 20000 in
theorem gL_has_X3_has : GoodIn wsL_has (wsV RL 39 RX3 yX3_has wsX3_has) := goodIn_app (goodIn_of _ (by decide +kernel)) ggL_has_X3_has
theorem dL_has_0 : decode cL_has 0 = .ok (.aload_n 2, 1) := by decide +kernel
theorem dL_has_1 : decode cL_has 1 = .ok (.iconst 0, 1) := by decide +kernel
theorem dL_has_2 : decode cL_has 2 = .ok (.aload_n 0, 1) := by decide +kernel
theorem dL_has_3 : decode cL_has 3 = .ok (.iload_n 1, 1) := by decide +kernel
theorem dL_has_4 : decode cL_has 4 = .ok (.invokevirtual 39, 3) := by decide +kernel
theorem dL_has_7 : decode cL_has 7 = .ok (.i2l, 1) := by decide +kernel
theorem dL_has_8 : decode cL_has 8 = .ok (.lastore, 1) := by decide +kernel
theorem dL_has_9 : decode cL_has 9 = .ok (.goto 6, 3) := by decide +kernel
theorem dL_has_12 : decode cL_has 12 = .ok (.astore_n 3, 1) := by decide +kernel
theorem dL_has_13 : decode cL_has 13 = .ok (.iconst 1, 1) := by decide +kernel
theorem dL_has_14 : decode cL_has 14 = .ok (.ireturn, 1) := by decide +kernel
theorem dL_has_15 : decode cL_has 15 = .ok (.iconst 0, 1) := by decide +kernel
theorem dL_has_16 : decode cL_has 16 = .ok (.ireturn, 1) := by decide +kernel
set_option maxRecDepth 20000 in
theorem ggL_need_X3_need : GoodIn wsL_need wsX3_need := goodIn_ca (goodIn_r _ [6, 7, 8, 9, 5, 10, 11, 12, 13, 14, 15, 16, 17, 18, 19, 20, 21, 22, 23, 24, 25, 26, 27, 28, 29, 30, 31, 32, 33, 34, 35, 36, 37, 38, 39, 40, 41, 42, 43, 44, 45, 46] (by decide +kernel) (by decide +kernel)) (goodIn_sub (fun _ h => List.mem_cons_of_mem _ (List.mem_append_right _ h)) (by decide +kernel))
set_option maxRecDepth 20000 in
theorem gL_need_X3_need : GoodIn wsL_need (wsV RL 42 RX3 yX3_need wsX3_need) := goodIn_app (goodIn_of _ (by decide +kernel)) ggL_need_X3_need
theorem dL_need_0 : decode cL_need 0 = .ok (.aload_n 2, 1) := by decide +kernel
theorem dL_need_1 : decode cL_need 1 = .ok (.iconst 0, 1) := by decide +kernel
theorem dL_need_2 : decode cL_need 2 = .ok (.aload_n 0, 1) := by decide +kernel
theorem dL_need_3 : decode cL_need 3 = .ok (.iload_n 1, 1) := by decide +kernel
theorem dL_need_4 : decode cL_need 4 = .ok (.invokevirtual 42, 3) := by decide +kernel
theorem dL_need_7 : decode cL_need 7 = .ok (.i2l, 1) := by decide +kernel
theorem dL_need_8 : decode cL_need 8 = .ok (.lastore, 1) := by decide +kernel
theorem dL_need_9 : decode cL_need 9 = .ok (.goto 6, 3) := by decide +kernel
theorem dL_need_12 : decode cL_need 12 = .ok (.astore_n 3, 1) := by decide +kernel
theorem dL_need_13 : decode cL_need 13 = .ok (.iconst 1, 1) := by decide +kernel
theorem dL_need_14 : decode cL_need 14 = .ok (.ireturn, 1) := by decide +kernel
theorem dL_need_15 : decode cL_need 15 = .ok (.iconst 0, 1) := by decide +kernel
theorem dL_need_16 : decode cL_need 16 = .ok (.ireturn, 1) := by decide +kernel
set_option maxRecDepth 20000 in
theorem ggL_isDropped_X3_isDropped : GoodIn wsL_isDropped wsX3_isDropped := goodIn_ca (goodIn_r _ [6, 7, 8, 9, 10, 5, 11, 12, 13, 14, 15, 16, 17, 18, 19, 20, 21, 22, 23, 24, 25, 26, 27] (by decide +kernel) (by decide +kernel)) (goodIn_sub (fun _ h => List.mem_cons_of_mem _ (List.mem_append_right _ h)) (by decide +kernel))
set_option maxRecDepth 20000 in
theorem gL_isDropped_X3_isDropped : GoodIn wsL_isDropped (wsV RL 45 RX3 yX3_isDropped wsX3_isDropped) := goodIn_app (goodIn_of _ (by decide +kernel)) ggL_isDropped_X3_isDropped
theorem dL_isDropped_0 : decode cL_isDropped 0 = .ok (.aload_n 2, 1) := by decide +kernel
theorem dL_isDropped_1 : decode cL_isDropped 1 = .ok (.iconst 0, 1) := by decide +kernel
theorem dL_isDropped_2 : decode cL_isDropped 2 = .ok (.aload_n 0, 1) := by decide +kernel
theorem dL_isDropped_3 : decode cL_isDropped 3 = .ok (.iload_n 1, 1) := by decide +kernel
theorem dL_isDropped_4 : decode cL_isDropped 4 = .ok (.invokevirtual 45, 3) := by decide +kernel
theorem dL_isDropped_7 : decode cL_isDropped 7 = .ok (.ifCond .eq 7, 3) := by decide +kernel
theorem dL_isDropped_10 : decode cL_isDropped 10 = .ok (.lconst 1, 1) := by decide +kernel
theorem dL_isDropped_11 : decode cL_isDropped 11 = .ok (.goto 4, 3) := by decide +kernel
theorem dL_isDropped_14 : decode cL_isDropped 14 = .ok (.lconst 0, 1) := by decide +kernel
theorem dL_isDropped_15 : decode cL_isDropped 15 = .ok (.lastore, 1) := by decide +kernel
theorem dL_isDropped_16 : decode cL_isDropped 16 = .ok (.goto 6, 3) := by decide +kernel
theorem dL_isDropped_19 : decode cL_isDropped 19 = .ok (.astore_n 3, 1) := by decide +kernel
theorem dL_isDropped_20 : decode cL_isDropped 20 = .ok (.iconst 1, 1) := by decide +kernel
theorem dL_isDropped_21 : decode cL_isDropped 21 = .ok (.ireturn, 1) := by decide +kernel
theorem dL_isDropped_22 : decode cL_isDropped 22 = .ok (.iconst 0, 1) := by decide +kernel
theorem dL_isDropped_23 : decode cL_isDropped 23 = .ok (.ireturn, 1) := by decide +kernel
set_option maxRecDepth 20000 in
theorem ggL_badRounds_X3_badRounds : GoodIn wsL_badRounds wsX3_badRounds := goodIn_ca (goodIn_r _ [6, 7, 8, 9, 10, 5, 11, 12, 13, 14, 15, 16, 17, 18, 19, 20, 21, 22, 23, 24, 25, 26, 27] (by decide +kernel) (by decide +kernel)) (goodIn_sub (fun _ h => List.mem_cons_of_mem _ (List.mem_append_right _ h)) (by decide +kernel))
set_option maxRecDepth 20000 in
theorem gL_badRounds_X3_badRounds : GoodIn wsL_badRounds (wsV RL 49 RX3 yX3_badRounds wsX3_badRounds) := goodIn_app (goodIn_of _ (by decide +kernel)) ggL_badRounds_X3_badRounds
theorem dL_badRounds_0 : decode cL_badRounds 0 = .ok (.aload_n 2, 1) := by decide +kernel
theorem dL_badRounds_1 : decode cL_badRounds 1 = .ok (.iconst 0, 1) := by decide +kernel
theorem dL_badRounds_2 : decode cL_badRounds 2 = .ok (.aload_n 0, 1) := by decide +kernel
theorem dL_badRounds_3 : decode cL_badRounds 3 = .ok (.iload_n 1, 1) := by decide +kernel
theorem dL_badRounds_4 : decode cL_badRounds 4 = .ok (.invokevirtual 49, 3) := by decide +kernel
theorem dL_badRounds_7 : decode cL_badRounds 7 = .ok (.i2l, 1) := by decide +kernel
theorem dL_badRounds_8 : decode cL_badRounds 8 = .ok (.lastore, 1) := by decide +kernel
theorem dL_badRounds_9 : decode cL_badRounds 9 = .ok (.goto 6, 3) := by decide +kernel
theorem dL_badRounds_12 : decode cL_badRounds 12 = .ok (.astore_n 3, 1) := by decide +kernel
theorem dL_badRounds_13 : decode cL_badRounds 13 = .ok (.iconst 1, 1) := by decide +kernel
theorem dL_badRounds_14 : decode cL_badRounds 14 = .ok (.ireturn, 1) := by decide +kernel
theorem dL_badRounds_15 : decode cL_badRounds 15 = .ok (.iconst 0, 1) := by decide +kernel
theorem dL_badRounds_16 : decode cL_badRounds 16 = .ok (.ireturn, 1) := by decide +kernel
set_option maxRecDepth 20000 in
theorem ggL_times_X3_times : GoodIn wsL_times wsX3_times := goodIn_ca (goodIn_r _ [6, 7, 8, 9, 10, 5, 11, 12, 13, 14] (by decide +kernel) (by decide +kernel)) (goodIn_sub (fun _ h => List.mem_cons_of_mem _ (List.mem_append_right _ h)) (by decide +kernel))
set_option maxRecDepth 20000 in
theorem gL_times_X3_times : GoodIn wsL_times (wsV RL 52 RX3 yX3_times wsX3_times) := goodIn_app (goodIn_of _ (by decide +kernel)) ggL_times_X3_times
theorem dL_times_0 : decode cL_times 0 = .ok (.aload_n 3, 1) := by decide +kernel
theorem dL_times_1 : decode cL_times 1 = .ok (.iconst 0, 1) := by decide +kernel
theorem dL_times_2 : decode cL_times 2 = .ok (.aload_n 0, 1) := by decide +kernel
theorem dL_times_3 : decode cL_times 3 = .ok (.iload_n 1, 1) := by decide +kernel
theorem dL_times_4 : decode cL_times 4 = .ok (.iload_n 2, 1) := by decide +kernel
theorem dL_times_5 : decode cL_times 5 = .ok (.invokevirtual 52, 3) := by decide +kernel
theorem dL_times_8 : decode cL_times 8 = .ok (.i2l, 1) := by decide +kernel
theorem dL_times_9 : decode cL_times 9 = .ok (.lastore, 1) := by decide +kernel
theorem dL_times_10 : decode cL_times 10 = .ok (.goto 7, 3) := by decide +kernel
theorem dL_times_13 : decode cL_times 13 = .ok (.astore 4, 2) := by decide +kernel
theorem dL_times_15 : decode cL_times 15 = .ok (.iconst 1, 1) := by decide +kernel
theorem dL_times_16 : decode cL_times 16 = .ok (.ireturn, 1) := by decide +kernel
theorem dL_times_17 : decode cL_times 17 = .ok (.iconst 0, 1) := by decide +kernel
theorem dL_times_18 : decode cL_times 18 = .ok (.ireturn, 1) := by decide +kernel
set_option maxRecDepth 20000 in
theorem ggL_packet_X3_packet : GoodIn wsL_packet wsX3_packet := goodIn_ca (goodIn_r _ [6, 7, 8, 9, 10, 11, 12, 13, 14, 15, 16, 17, 18, 19, 20, 21, 22, 23, 24, 25, 26, 27, 28, 29, 30, 31, 32, 33, 34, 35, 36, 37, 38, 39, 40, 41, 42] (by decide +kernel) (by decide +kernel)) (goodIn_sub (fun _ h => List.mem_cons_of_mem _ (List.mem_append_right _ h)) (by decide +kernel))
set_option maxRecDepth 20000 in
theorem gL_packet_X3_packet : GoodIn wsL_packet (wsV RL 55 RX3 yX3_packet wsX3_packet) := goodIn_app (goodIn_of _ (by decide +kernel)) ggL_packet_X3_packet
theorem dL_packet_0 : decode cL_packet 0 = .ok (.aload_n 2, 1) := by decide +kernel
theorem dL_packet_1 : decode cL_packet 1 = .ok (.iconst 0, 1) := by decide +kernel
theorem dL_packet_2 : decode cL_packet 2 = .ok (.aload_n 0, 1) := by decide +kernel
theorem dL_packet_3 : decode cL_packet 3 = .ok (.iload_n 1, 1) := by decide +kernel
theorem dL_packet_4 : decode cL_packet 4 = .ok (.invokevirtual 55, 3) := by decide +kernel
theorem dL_packet_7 : decode cL_packet 7 = .ok (.i2l, 1) := by decide +kernel
theorem dL_packet_8 : decode cL_packet 8 = .ok (.lastore, 1) := by decide +kernel
theorem dL_packet_9 : decode cL_packet 9 = .ok (.goto 6, 3) := by decide +kernel
theorem dL_packet_12 : decode cL_packet 12 = .ok (.astore_n 3, 1) := by decide +kernel
theorem dL_packet_13 : decode cL_packet 13 = .ok (.iconst 1, 1) := by decide +kernel
theorem dL_packet_14 : decode cL_packet 14 = .ok (.ireturn, 1) := by decide +kernel
theorem dL_packet_15 : decode cL_packet 15 = .ok (.iconst 0, 1) := by decide +kernel
theorem dL_packet_16 : decode cL_packet 16 = .ok (.ireturn, 1) := by decide +kernel
set_option maxRecDepth 20000 in
theorem ggL_rebuilt_X3_rebuilt : GoodIn wsL_rebuilt wsX3_rebuilt := goodIn_ca (goodIn_ca (goodIn_r _ [7, 8, 9, 10, 11, 12, 6, 13, 14, 15, 16, 17, 18, 19, 20, 21, 22, 23, 24, 25, 26, 27, 28, 29, 30, 31, 32, 33, 34, 35, 36, 37, 38, 39, 40, 41, 42, 43, 44, 45, 46, 47, 48, 49, 50, 51, 52, 53, 54, 55, 56, 57, 58, 59, 60, 61, 62, 63, 64, 65, 66, 67, 68, 69, 70, 71, 72, 73, 74, 75, 76, 77, 78, 79, 80, 81, 82, 83, 84, 85, 86, 87, 88, 89] (by decide +kernel) (by decide +kernel)) (goodIn_sub (fun _ h => List.mem_cons_of_mem _ (List.mem_append_left _ (List.mem_append_right _ h))) (by decide +kernel))) (goodIn_sub (fun _ h => List.mem_cons_of_mem _ (List.mem_append_right _ h)) (by decide +kernel))
set_option maxRecDepth 20000 in
theorem gL_rebuilt_X3_rebuilt : GoodIn wsL_rebuilt (wsV RL 58 RX3 yX3_rebuilt wsX3_rebuilt) := goodIn_app (goodIn_of _ (by decide +kernel)) ggL_rebuilt_X3_rebuilt
theorem dL_rebuilt_0 : decode cL_rebuilt 0 = .ok (.aload_n 3, 1) := by decide +kernel
theorem dL_rebuilt_1 : decode cL_rebuilt 1 = .ok (.iconst 0, 1) := by decide +kernel
theorem dL_rebuilt_2 : decode cL_rebuilt 2 = .ok (.aload_n 0, 1) := by decide +kernel
theorem dL_rebuilt_3 : decode cL_rebuilt 3 = .ok (.iload_n 1, 1) := by decide +kernel
theorem dL_rebuilt_4 : decode cL_rebuilt 4 = .ok (.iload_n 2, 1) := by decide +kernel
theorem dL_rebuilt_5 : decode cL_rebuilt 5 = .ok (.invokevirtual 58, 3) := by decide +kernel
theorem dL_rebuilt_8 : decode cL_rebuilt 8 = .ok (.i2l, 1) := by decide +kernel
theorem dL_rebuilt_9 : decode cL_rebuilt 9 = .ok (.lastore, 1) := by decide +kernel
theorem dL_rebuilt_10 : decode cL_rebuilt 10 = .ok (.goto 11, 3) := by decide +kernel
theorem dL_rebuilt_13 : decode cL_rebuilt 13 = .ok (.astore 4, 2) := by decide +kernel
theorem dL_rebuilt_15 : decode cL_rebuilt 15 = .ok (.iconst 1, 1) := by decide +kernel
theorem dL_rebuilt_16 : decode cL_rebuilt 16 = .ok (.ireturn, 1) := by decide +kernel
theorem dL_rebuilt_17 : decode cL_rebuilt 17 = .ok (.astore 4, 2) := by decide +kernel
theorem dL_rebuilt_19 : decode cL_rebuilt 19 = .ok (.iconst 2, 1) := by decide +kernel
theorem dL_rebuilt_20 : decode cL_rebuilt 20 = .ok (.ireturn, 1) := by decide +kernel
theorem dL_rebuilt_21 : decode cL_rebuilt 21 = .ok (.iconst 0, 1) := by decide +kernel
theorem dL_rebuilt_22 : decode cL_rebuilt 22 = .ok (.ireturn, 1) := by decide +kernel
set_option maxRecDepth 20000 in
theorem ggL_rebuiltByElimination_X3_rebuiltByElimination : GoodIn wsL_rebuiltByElimination wsX3_rebuiltByElimination := goodIn_ca (goodIn_ca (goodIn_r _ [7, 8, 9, 10, 11, 12, 13, 6, 14, 15, 16, 17, 18, 19, 20, 21, 22, 23, 24, 25, 26, 27, 28, 29, 30, 31, 32, 33, 34, 35, 36, 37, 38, 39, 40, 41, 42, 43, 44, 45, 46, 47, 48, 49, 50, 51, 52, 53, 54, 55, 56, 57, 58, 59, 60, 61, 62, 63, 64, 65, 66, 67, 68, 69, 70, 71, 72, 73, 74, 75, 76, 77, 78, 79, 80, 81, 82, 83, 84, 85, 86, 87, 88, 89, 90, 91, 92, 93, 94, 95, 96, 97, 98, 99, 100, 101, 102, 103, 104, 105, 106, 107, 108, 109, 110, 111, 112] (by decide +kernel) (by decide +kernel)) (goodIn_sub (fun _ h => List.mem_cons_of_mem _ (List.mem_append_left _ (List.mem_append_right _ h))) (by decide +kernel))) (goodIn_sub (fun _ h => List.mem_cons_of_mem _ (List.mem_append_right _ h)) (by decide +kernel))
set_option maxRecDepth 20000 in
theorem gL_rebuiltByElimination_X3_rebuiltByElimination : GoodIn wsL_rebuiltByElimination (wsV RL 61 RX3 yX3_rebuiltByElimination wsX3_rebuiltByElimination) := goodIn_app (goodIn_of _ (by decide +kernel)) ggL_rebuiltByElimination_X3_rebuiltByElimination
theorem dL_rebuiltByElimination_0 : decode cL_rebuiltByElimination 0 = .ok (.aload_n 3, 1) := by decide +kernel
theorem dL_rebuiltByElimination_1 : decode cL_rebuiltByElimination 1 = .ok (.iconst 0, 1) := by decide +kernel
theorem dL_rebuiltByElimination_2 : decode cL_rebuiltByElimination 2 = .ok (.aload_n 0, 1) := by decide +kernel
theorem dL_rebuiltByElimination_3 : decode cL_rebuiltByElimination 3 = .ok (.iload_n 1, 1) := by decide +kernel
theorem dL_rebuiltByElimination_4 : decode cL_rebuiltByElimination 4 = .ok (.iload_n 2, 1) := by decide +kernel
theorem dL_rebuiltByElimination_5 : decode cL_rebuiltByElimination 5 = .ok (.invokevirtual 61, 3) := by decide +kernel
theorem dL_rebuiltByElimination_8 : decode cL_rebuiltByElimination 8 = .ok (.i2l, 1) := by decide +kernel
theorem dL_rebuiltByElimination_9 : decode cL_rebuiltByElimination 9 = .ok (.lastore, 1) := by decide +kernel
theorem dL_rebuiltByElimination_10 : decode cL_rebuiltByElimination 10 = .ok (.goto 11, 3) := by decide +kernel
theorem dL_rebuiltByElimination_13 : decode cL_rebuiltByElimination 13 = .ok (.astore 4, 2) := by decide +kernel
theorem dL_rebuiltByElimination_15 : decode cL_rebuiltByElimination 15 = .ok (.iconst 1, 1) := by decide +kernel
theorem dL_rebuiltByElimination_16 : decode cL_rebuiltByElimination 16 = .ok (.ireturn, 1) := by decide +kernel
theorem dL_rebuiltByElimination_17 : decode cL_rebuiltByElimination 17 = .ok (.astore 4, 2) := by decide +kernel
theorem dL_rebuiltByElimination_19 : decode cL_rebuiltByElimination 19 = .ok (.iconst 2, 1) := by decide +kernel
theorem dL_rebuiltByElimination_20 : decode cL_rebuiltByElimination 20 = .ok (.ireturn, 1) := by decide +kernel
theorem dL_rebuiltByElimination_21 : decode cL_rebuiltByElimination 21 = .ok (.iconst 0, 1) := by decide +kernel
theorem dL_rebuiltByElimination_22 : decode cL_rebuiltByElimination 22 = .ok (.ireturn, 1) := by decide +kernel
set_option maxRecDepth 20000 in
theorem ggL_law_X3_init : GoodIn wsL_law wsX3_init := goodIn_r _ [9, 10, 11, 12, 13, 14, 15, 16, 17, 18, 19, 20, 21, 22, 23, 24, 25, 26, 27, 28, 29, 30, 31, 32, 33, 34, 35, 36, 37, 38, 39, 40, 41, 2, 42, 43, 44, 45, 46, 47, 48, 49, 50, 51, 52, 53, 54, 452, 453, 454, 425, 426, 427, 428, 429, 430, 431, 432, 433, 434, 435, 436, 437, 455, 456] (by decide +kernel) (by decide +kernel)
set_option maxRecDepth 20000 in
theorem gL_law_X3_init : GoodIn wsL_law (wsX3_init) := ggL_law_X3_init
set_option maxRecDepth 20000 in
theorem ggL_law_X4_init : GoodIn wsL_law wsX4_init := goodIn_r _ [57, 58, 11, 12, 17, 59, 60, 61, 62, 63, 22, 64, 65, 66, 67, 438, 439, 440, 441, 442, 443, 444, 445, 446, 447, 448, 449, 450, 451] (by decide +kernel) (by decide +kernel)
set_option maxRecDepth 20000 in
theorem gL_law_X4_init : GoodIn wsL_law (wsX4_init) := ggL_law_X4_init
set_option maxRecDepth 20000 in
theorem ggL_law_L_begin : GoodIn wsL_law wsL_begin := goodIn_ca (goodIn_r _ [71, 72, 73, 74, 75, 2, 76, 77, 78, 45, 39, 40, 41, 42, 16, 43, 44, 46, 47, 48, 15, 49, 50, 51, 52, 53, 54, 32, 33, 425, 426, 427, 428, 429, 430, 431, 432, 433, 434, 435, 436, 437, 452, 453, 454] (by decide +kernel) (by decide +kernel)) (goodIn_sub (fun _ h => List.mem_append_left _ (List.mem_append_left _ (List.mem_append_right _ h))) (by decide +kernel))
set_option maxRecDepth 20000 in
theorem gL_law_L_begin : GoodIn wsL_law (va_wsS RL 68 yL_begin wsL_begin) := goodIn_app (goodIn_of _ (by decide +kernel)) ggL_law_L_begin
set_option maxRecDepth 20000 in
theorem ggL_law_X4_begin : GoodIn wsL_law wsX4_begin := goodIn_r _ [82, 83, 84, 66, 67, 59, 85, 86, 87, 88, 89, 5, 90, 438, 439, 440, 441, 442, 443, 444, 445, 446, 447, 448, 449, 450, 451] (by decide +kernel) (by decide +kernel)
set_option maxRecDepth 20000 in
theorem gL_law_X4_begin : GoodIn wsL_law (wsV RL 73 RX4 yX4_begin wsX4_begin) := goodIn_app (goodIn_of _ (by decide +kernel)) ggL_law_X4_begin
set_option maxRecDepth 20000 in
theorem ggL_law_X4_thrown : GoodIn wsL_law wsX4_thrown := goodIn_r _ [94, 83, 438, 439, 440, 441, 442, 443, 444, 445, 446, 447, 448, 449, 450, 451] (by decide +kernel) (by decide +kernel)
set_option maxRecDepth 20000 in
theorem gL_law_X4_thrown : GoodIn wsL_law (wsV RL 74 RX4 yX4_thrown wsX4_thrown) := goodIn_app (goodIn_of _ (by decide +kernel)) ggL_law_X4_thrown
set_option maxRecDepth 20000 in
theorem ggL_law_L_setDatum : GoodIn wsL_law wsL_setDatum := goodIn_ca (goodIn_ca (goodIn_ca (goodIn_r _ [97, 98, 72, 99, 100, 101, 102, 2, 103, 77, 78, 104, 105, 45, 16, 106, 107, 108, 109, 110, 111, 112, 113, 114, 425, 426, 427, 428, 429, 430, 431, 432, 433, 434, 435, 436, 437, 452, 453, 454] (by decide +kernel) (by decide +kernel)) (goodIn_sub (fun _ h => List.mem_append_left _ (List.mem_append_left _ (List.mem_append_right _ h))) (by decide +kernel))) (goodIn_sub (fun _ h => List.mem_append_left _ (List.mem_append_right _ h)) (by decide +kernel))) (goodIn_sub (fun _ h => List.mem_append_right _ h) (by decide +kernel))
set_option maxRecDepth 20000 in
theorem gL_law_L_setDatum : GoodIn wsL_law (va_wsS RL 77 yL_setDatum wsL_setDatum) := goodIn_app (goodIn_of _ (by decide +kernel)) ggL_law_L_setDatum
set_option maxRecDepth 20000 in
theorem ggL_law_X4_setDatum : GoodIn wsL_law wsX4_setDatum := goodIn_r _ [118, 66, 84, 83, 59, 88, 89, 5, 90, 438, 439, 440, 441, 442, 443, 444, 445, 446, 447, 448, 449, 450, 451] (by decide +kernel) (by decide +kernel)
set_option maxRecDepth 20000 in
theorem gL_law_X4_setDatum : GoodIn wsL_law (wsV RL 79 RX4 yX4_setDatum wsX4_setDatum) := goodIn_app (goodIn_of _ (by decide +kernel)) ggL_law_X4_setDatum
set_option maxRecDepth 20000 in
theorem ggL_law_L_join : GoodIn wsL_law wsL_join := goodIn_ca (goodIn_ca (goodIn_r _ [121, 72, 99, 122, 123, 124, 2, 125, 104, 105, 44, 18, 19, 20, 21, 23, 126, 127, 128, 77, 78, 129, 130, 131, 425, 426, 427, 428, 429, 430, 431, 432, 433, 434, 435, 436, 437] (by decide +kernel) (by decide +kernel)) (goodIn_sub (fun _ h => List.mem_append_left _ (List.mem_append_right _ h)) (by decide +kernel))) (goodIn_sub (fun _ h => List.mem_append_left _ (List.mem_append_left _ (List.mem_append_right _ h))) (by decide +kernel))
set_option maxRecDepth 20000 in
theorem gL_law_L_join : GoodIn wsL_law (va_wsS RL 80 yL_join wsL_join) := goodIn_app (goodIn_of _ (by decide +kernel)) ggL_law_L_join
set_option maxRecDepth 20000 in
theorem ggL_law_X4_join : GoodIn wsL_law wsX4_join := goodIn_r _ [135, 85, 83, 60, 61, 62, 63, 64, 88, 89, 5, 90, 438, 439, 440, 441, 442, 443, 444, 445, 446, 447, 448, 449, 450, 451] (by decide +kernel) (by decide +kernel)
set_option maxRecDepth 20000 in
theorem gL_law_X4_join : GoodIn wsL_law (wsV RL 82 RX4 yX4_join wsX4_join) := goodIn_app (goodIn_of _ (by decide +kernel)) ggL_law_X4_join
set_option maxRecDepth 20000 in
theorem ggL_law_L_setLosses : GoodIn wsL_law wsL_setLosses := goodIn_ca (goodIn_ca (goodIn_r _ [138, 98, 72, 139, 140, 141, 2, 142, 18, 143, 144, 145, 146, 110, 111, 44, 126, 127, 128, 77, 78, 425, 426, 427, 428, 429, 430, 431, 432, 433, 434, 435, 436, 437] (by decide +kernel) (by decide +kernel)) (goodIn_sub (fun _ h => List.mem_append_right _ h) (by decide +kernel))) (goodIn_sub (fun _ h => List.mem_append_left _ (List.mem_append_left _ (List.mem_append_right _ h))) (by decide +kernel))
set_option maxRecDepth 20000 in
theorem gL_law_L_setLosses : GoodIn wsL_law (va_wsS RL 83 yL_setLosses wsL_setLosses) := goodIn_app (goodIn_of _ (by decide +kernel)) ggL_law_L_setLosses
set_option maxRecDepth 20000 in
theorem ggL_law_X4_setLosses : GoodIn wsL_law wsX4_setLosses := goodIn_r _ [150, 83, 60, 151, 152, 153, 5, 154, 85, 88, 89, 90, 438, 439, 440, 441, 442, 443, 444, 445, 446, 447, 448, 449, 450, 451] (by decide +kernel) (by decide +kernel)
set_option maxRecDepth 20000 in
theorem gL_law_X4_setLosses : GoodIn wsL_law (wsV RL 85 RX4 yX4_setLosses wsX4_setLosses) := goodIn_app (goodIn_of _ (by decide +kernel)) ggL_law_X4_setLosses
set_option maxRecDepth 20000 in
theorem ggL_law_L_setWait : GoodIn wsL_law wsL_setWait := goodIn_ca (goodIn_ca (goodIn_r _ [157, 98, 72, 158, 159, 160, 2, 161, 19, 143, 144, 145, 146, 110, 111, 44, 129, 130, 131, 77, 78, 425, 426, 427, 428, 429, 430, 431, 432, 433, 434, 435, 436, 437] (by decide +kernel) (by decide +kernel)) (goodIn_sub (fun _ h => List.mem_append_right _ h) (by decide +kernel))) (goodIn_sub (fun _ h => List.mem_append_left _ (List.mem_append_left _ (List.mem_append_right _ h))) (by decide +kernel))
set_option maxRecDepth 20000 in
theorem gL_law_L_setWait : GoodIn wsL_law (va_wsS RL 86 yL_setWait wsL_setWait) := goodIn_app (goodIn_of _ (by decide +kernel)) ggL_law_L_setWait
set_option maxRecDepth 20000 in
theorem ggL_law_X4_setWait : GoodIn wsL_law wsX4_setWait := goodIn_r _ [165, 83, 61, 151, 152, 153, 5, 154, 85, 88, 89, 90, 438, 439, 440, 441, 442, 443, 444, 445, 446, 447, 448, 449, 450, 451] (by decide +kernel) (by decide +kernel)
set_option maxRecDepth 20000 in
theorem gL_law_X4_setWait : GoodIn wsL_law (wsV RL 88 RX4 yX4_setWait wsX4_setWait) := goodIn_app (goodIn_of _ (by decide +kernel)) ggL_law_X4_setWait
set_option maxRecDepth 20000 in
theorem ggL_law_L_send : GoodIn wsL_law wsL_send := goodIn_ca (goodIn_ca (goodIn_r _ [168, 72, 99, 169, 170, 171, 2, 172, 77, 78, 104, 105, 45, 173, 174, 175, 176, 177, 178, 179, 180, 44, 23, 18, 20, 181, 182, 183, 184, 185, 186, 187, 188, 16, 189, 190, 191, 192, 193, 194, 195, 196, 197, 198, 199, 425, 426, 427, 428, 429, 430, 431, 432, 433, 434, 435, 436, 437, 452, 453, 454] (by decide +kernel) (by decide +kernel)) (goodIn_sub (fun _ h => List.mem_append_left _ (List.mem_append_left _ (List.mem_append_right _ h))) (by decide +kernel))) (goodIn_sub (fun _ h => List.mem_append_left _ (List.mem_append_right _ h)) (by decide +kernel))
set_option maxRecDepth 20000 in
theorem gL_law_L_send : GoodIn wsL_law (va_wsS RL 89 yL_send wsL_send) := goodIn_app (goodIn_of _ (by decide +kernel)) ggL_law_L_send
set_option maxRecDepth 20000 in
theorem ggL_law_X4_send : GoodIn wsL_law wsX4_send := goodIn_r _ [203, 84, 83, 85, 64, 88, 89, 5, 90, 204, 205, 206, 207, 60, 62, 208, 209, 210, 211, 66, 438, 439, 440, 441, 442, 443, 444, 445, 446, 447, 448, 449, 450, 451] (by decide +kernel) (by decide +kernel)
set_option maxRecDepth 20000 in
theorem gL_law_X4_send : GoodIn wsL_law (wsV RL 92 RX4 yX4_send wsX4_send) := goodIn_app (goodIn_of _ (by decide +kernel)) ggL_law_X4_send
set_option maxRecDepth 20000 in
theorem ggL_law_L_round : GoodIn wsL_law wsL_round := goodIn_ca (goodIn_r _ [214, 99, 215, 216, 217, 2, 218, 104, 105, 45, 219, 220, 221, 222, 223, 224, 225, 226, 44, 19, 46, 189, 190, 191, 192, 47, 227, 228, 229, 230, 23, 185, 186, 187, 188, 16, 20, 193, 194, 195, 196, 197, 198, 199, 173, 174, 175, 176, 177, 178, 179, 180, 18, 231, 232, 233, 234, 21, 43, 425, 426, 427, 428, 429, 430, 431, 432, 433, 434, 435, 436, 437, 452, 453, 454] (by decide +kernel) (by decide +kernel)) (goodIn_sub (fun _ h => List.mem_append_left _ (List.mem_append_right _ h)) (by decide +kernel))
set_option maxRecDepth 20000 in
theorem gL_law_L_round : GoodIn wsL_law (va_wsS RL 93 yL_round wsL_round) := goodIn_app (goodIn_of _ (by decide +kernel)) ggL_law_L_round
set_option maxRecDepth 20000 in
theorem ggL_law_X4_round : GoodIn wsL_law wsX4_round := goodIn_r _ [238, 84, 83, 85, 65, 63, 64, 67, 239, 240, 241, 5, 242, 208, 209, 210, 211, 66, 62, 243, 244, 245, 246, 61, 86, 87, 204, 205, 206, 207, 60, 438, 439, 440, 441, 442, 443, 444, 445, 446, 447, 448, 449, 450, 451] (by decide +kernel) (by decide +kernel)
set_option maxRecDepth 20000 in
theorem gL_law_X4_round : GoodIn wsL_law (wsV RL 96 RX4 yX4_round wsX4_round) := goodIn_app (goodIn_of _ (by decide +kernel)) ggL_law_X4_round
set_option maxRecDepth 20000 in
theorem ggL_law_X3_sent : GoodIn wsL_law wsX3_sent := goodIn_r _ [250, 45, 425, 426, 427, 428, 429, 430, 431, 432, 433, 434, 435, 436, 437] (by decide +kernel) (by decide +kernel)
set_option maxRecDepth 20000 in
theorem gL_law_X3_sent : GoodIn wsL_law (wsV RL 97 RX3 yX3_sent wsX3_sent) := goodIn_app (goodIn_of _ (by decide +kernel)) ggL_law_X3_sent
set_option maxRecDepth 20000 in
theorem ggL_law_X4_sent : GoodIn wsL_law wsX4_sent := goodIn_r _ [254, 83, 84, 438, 439, 440, 441, 442, 443, 444, 445, 446, 447, 448, 449, 450, 451] (by decide +kernel) (by decide +kernel)
set_option maxRecDepth 20000 in
theorem gL_law_X4_sent : GoodIn wsL_law (wsV RL 100 RX4 yX4_sent wsX4_sent) := goodIn_app (goodIn_of _ (by decide +kernel)) ggL_law_X4_sent
set_option maxRecDepth 20000 in
theorem ggL_law_X3_receivers : GoodIn wsL_law wsX3_receivers := goodIn_r _ [258, 44, 425, 426, 427, 428, 429, 430, 431, 432, 433, 434, 435, 436, 437] (by decide +kernel) (by decide +kernel)
set_option maxRecDepth 20000 in
theorem gL_law_X3_receivers : GoodIn wsL_law (wsV RL 101 RX3 yX3_receivers wsX3_receivers) := goodIn_app (goodIn_of _ (by decide +kernel)) ggL_law_X3_receivers
set_option maxRecDepth 20000 in
theorem ggL_law_X4_receivers : GoodIn wsL_law wsX4_receivers := goodIn_r _ [262, 83, 85, 438, 439, 440, 441, 442, 443, 444, 445, 446, 447, 448, 449, 450, 451] (by decide +kernel) (by decide +kernel)
set_option maxRecDepth 20000 in
theorem gL_law_X4_receivers : GoodIn wsL_law (wsV RL 104 RX4 yX4_receivers wsX4_receivers) := goodIn_app (goodIn_of _ (by decide +kernel)) ggL_law_X4_receivers
set_option maxRecDepth 20000 in
theorem ggL_law_X3_reports : GoodIn wsL_law wsX3_reports := goodIn_r _ [266, 46, 425, 426, 427, 428, 429, 430, 431, 432, 433, 434, 435, 436, 437] (by decide +kernel) (by decide +kernel)
set_option maxRecDepth 20000 in
theorem gL_law_X3_reports : GoodIn wsL_law (wsV RL 105 RX3 yX3_reports wsX3_reports) := goodIn_app (goodIn_of _ (by decide +kernel)) ggL_law_X3_reports
set_option maxRecDepth 20000 in
theorem ggL_law_X4_reports : GoodIn wsL_law wsX4_reports := goodIn_r _ [270, 83, 86, 438, 439, 440, 441, 442, 443, 444, 445, 446, 447, 448, 449, 450, 451] (by decide +kernel) (by decide +kernel)
set_option maxRecDepth 20000 in
theorem gL_law_X4_reports : GoodIn wsL_law (wsV RL 108 RX4 yX4_reports wsX4_reports) := goodIn_app (goodIn_of _ (by decide +kernel)) ggL_law_X4_reports
set_option maxRecDepth 20000 in
theorem ggL_law_X3_keptBack : GoodIn wsL_law wsX3_keptBack := goodIn_r _ [274, 47, 425, 426, 427, 428, 429, 430, 431, 432, 433, 434, 435, 436, 437] (by decide +kernel) (by decide +kernel)
set_option maxRecDepth 20000 in
theorem gL_law_X3_keptBack : GoodIn wsL_law (wsV RL 109 RX3 yX3_keptBack wsX3_keptBack) := goodIn_app (goodIn_of _ (by decide +kernel)) ggL_law_X3_keptBack
set_option maxRecDepth 20000 in
theorem ggL_law_X4_keptBack : GoodIn wsL_law wsX4_keptBack := goodIn_r _ [278, 83, 87, 438, 439, 440, 441, 442, 443, 444, 445, 446, 447, 448, 449, 450, 451] (by decide +kernel) (by decide +kernel)
set_option maxRecDepth 20000 in
theorem gL_law_X4_keptBack : GoodIn wsL_law (wsV RL 112 RX4 yX4_keptBack wsX4_keptBack) := goodIn_app (goodIn_of _ (by decide +kernel)) ggL_law_X4_keptBack
set_option maxRecDepth 20000 in
theorem ggL_law_L_has : GoodIn wsL_law wsL_has := goodIn_ca (goodIn_r _ [281, 98, 282, 283, 284, 2, 285, 20, 143, 144, 145, 146, 110, 111, 44, 425, 426, 427, 428, 429, 430, 431, 432, 433, 434, 435, 436, 437] (by decide +kernel) (by decide +kernel)) (goodIn_sub (fun _ h => List.mem_append_right _ h) (by decide +kernel))
set_option maxRecDepth 20000 in
theorem gL_law_L_has : GoodIn wsL_law (va_wsS RL 113 yL_has wsL_has) := goodIn_app (goodIn_of _ (by decide +kernel)) ggL_law_L_has
set_option maxRecDepth 20000 in
theorem ggL_law_X4_has : GoodIn wsL_law wsX4_has := goodIn_r _ [289, 62, 290, 291, 292, 5, 293, 83, 151, 152, 153, 154, 85, 88, 89, 90, 438, 439, 440, 441, 442, 443, 444, 445, 446, 447, 448, 449, 450, 451] (by decide +kernel) (by decide +kernel)
set_option maxRecDepth 20000 in
theorem gL_law_X4_has : GoodIn wsL_law (wsV RL 115 RX4 yX4_has wsX4_has) := goodIn_app (goodIn_of _ (by decide +kernel)) ggL_law_X4_has
set_option maxRecDepth 20000 in
theorem ggL_law_L_need : GoodIn wsL_law wsL_need := goodIn_ca (goodIn_r _ [296, 98, 297, 298, 299, 2, 300, 143, 144, 145, 146, 110, 111, 44, 185, 186, 187, 188, 16, 20, 189, 190, 191, 192, 193, 194, 195, 196, 197, 198, 199, 425, 426, 427, 428, 429, 430, 431, 432, 433, 434, 435, 436, 437, 452, 453, 454] (by decide +kernel) (by decide +kernel)) (goodIn_sub (fun _ h => List.mem_append_right _ h) (by decide +kernel))
set_option maxRecDepth 20000 in
theorem gL_law_L_need : GoodIn wsL_law (va_wsS RL 116 yL_need wsL_need) := goodIn_app (goodIn_of _ (by decide +kernel)) ggL_law_L_need
set_option maxRecDepth 20000 in
theorem ggL_law_X4_need : GoodIn wsL_law wsX4_need := goodIn_r _ [304, 290, 291, 292, 5, 293, 83, 151, 152, 153, 154, 85, 88, 89, 90, 208, 209, 210, 211, 66, 62, 438, 439, 440, 441, 442, 443, 444, 445, 446, 447, 448, 449, 450, 451] (by decide +kernel) (by decide +kernel)
set_option maxRecDepth 20000 in
theorem gL_law_X4_need : GoodIn wsL_law (wsV RL 118 RX4 yX4_need wsX4_need) := goodIn_app (goodIn_of _ (by decide +kernel)) ggL_law_X4_need
set_option maxRecDepth 20000 in
theorem ggL_law_L_isDropped : GoodIn wsL_law wsL_isDropped := goodIn_ca (goodIn_r _ [307, 98, 308, 309, 310, 2, 311, 23, 143, 144, 145, 146, 110, 111, 44, 425, 426, 427, 428, 429, 430, 431, 432, 433, 434, 435, 436, 437] (by decide +kernel) (by decide +kernel)) (goodIn_sub (fun _ h => List.mem_append_right _ h) (by decide +kernel))
set_option maxRecDepth 20000 in
theorem gL_law_L_isDropped : GoodIn wsL_law (va_wsS RL 119 yL_isDropped wsL_isDropped) := goodIn_app (goodIn_of _ (by decide +kernel)) ggL_law_L_isDropped
set_option maxRecDepth 20000 in
theorem ggL_law_X4_isDropped : GoodIn wsL_law wsX4_isDropped := goodIn_r _ [315, 64, 290, 291, 292, 5, 293, 83, 151, 152, 153, 154, 85, 88, 89, 90, 438, 439, 440, 441, 442, 443, 444, 445, 446, 447, 448, 449, 450, 451] (by decide +kernel) (by decide +kernel)
set_option maxRecDepth 20000 in
theorem gL_law_X4_isDropped : GoodIn wsL_law (wsV RL 121 RX4 yX4_isDropped wsX4_isDropped) := goodIn_app (goodIn_of _ (by decide +kernel)) ggL_law_X4_isDropped
set_option maxRecDepth 20000 in
theorem ggL_law_L_badRounds : GoodIn wsL_law wsL_badRounds := goodIn_ca (goodIn_r _ [318, 98, 319, 320, 321, 2, 322, 21, 143, 144, 145, 146, 110, 111, 44, 425, 426, 427, 428, 429, 430, 431, 432, 433, 434, 435, 436, 437] (by decide +kernel) (by decide +kernel)) (goodIn_sub (fun _ h => List.mem_append_right _ h) (by decide +kernel))
set_option maxRecDepth 20000 in
theorem gL_law_L_badRounds : GoodIn wsL_law (va_wsS RL 122 yL_badRounds wsL_badRounds) := goodIn_app (goodIn_of _ (by decide +kernel)) ggL_law_L_badRounds
set_option maxRecDepth 20000 in
theorem ggL_law_X4_badRounds : GoodIn wsL_law wsX4_badRounds := goodIn_r _ [326, 63, 290, 291, 292, 5, 293, 83, 151, 152, 153, 154, 85, 88, 89, 90, 438, 439, 440, 441, 442, 443, 444, 445, 446, 447, 448, 449, 450, 451] (by decide +kernel) (by decide +kernel)
set_option maxRecDepth 20000 in
theorem gL_law_X4_badRounds : GoodIn wsL_law (wsV RL 124 RX4 yX4_badRounds wsX4_badRounds) := goodIn_app (goodIn_of _ (by decide +kernel)) ggL_law_X4_badRounds
set_option maxRecDepth 20000 in
theorem ggL_law_L_times : GoodIn wsL_law wsL_times := goodIn_ca (goodIn_r _ [329, 72, 330, 331, 332, 2, 333, 77, 78, 112, 113, 114, 334, 335, 336] (by decide +kernel) (by decide +kernel)) (goodIn_sub (fun _ h => List.mem_append_left _ (List.mem_append_left _ (List.mem_append_right _ h))) (by decide +kernel))
set_option maxRecDepth 20000 in
theorem gL_law_L_times : GoodIn wsL_law (va_wsS RL 125 yL_times wsL_times) := goodIn_app (goodIn_of _ (by decide +kernel)) ggL_law_L_times
set_option maxRecDepth 20000 in
theorem ggL_law_X4_times : GoodIn wsL_law wsX4_times := goodIn_r _ [340, 83, 88, 89, 5, 90, 341, 342, 343, 438, 439, 440, 441, 442, 443, 444, 445, 446, 447, 448, 449, 450, 451] (by decide +kernel) (by decide +kernel)
set_option maxRecDepth 20000 in
theorem gL_law_X4_times : GoodIn wsL_law (wsV RL 127 RX4 yX4_times wsX4_times) := goodIn_app (goodIn_of _ (by decide +kernel)) ggL_law_X4_times
set_option maxRecDepth 20000 in
theorem ggL_law_L_packet : GoodIn wsL_law wsL_packet := goodIn_ca (goodIn_r _ [346, 98, 347, 348, 349, 2, 350, 110, 111, 16, 351, 15, 352, 353, 51, 33, 354, 355, 356, 357, 32, 334, 335, 336, 358, 359, 360, 425, 426, 427, 428, 429, 430, 431, 432, 433, 434, 435, 436, 437, 452, 453, 454] (by decide +kernel) (by decide +kernel)) (goodIn_sub (fun _ h => List.mem_append_right _ h) (by decide +kernel))
set_option maxRecDepth 20000 in
theorem gL_law_L_packet : GoodIn wsL_law (va_wsS RL 128 yL_packet wsL_packet) := goodIn_app (goodIn_of _ (by decide +kernel)) ggL_law_L_packet
set_option maxRecDepth 20000 in
theorem ggL_law_X4_packet : GoodIn wsL_law wsX4_packet := goodIn_r _ [364, 83, 66, 59, 88, 89, 5, 90, 341, 342, 343, 365, 366, 367, 438, 439, 440, 441, 442, 443, 444, 445, 446, 447, 448, 449, 450, 451] (by decide +kernel) (by decide +kernel)
set_option maxRecDepth 20000 in
theorem gL_law_X4_packet : GoodIn wsL_law (wsV RL 130 RX4 yX4_packet wsX4_packet) := goodIn_app (goodIn_of _ (by decide +kernel)) ggL_law_X4_packet
set_option maxRecDepth 20000 in
theorem ggL_law_L_rebuilt : GoodIn wsL_law wsL_rebuilt := goodIn_ca (goodIn_ca (goodIn_r _ [370, 98, 99, 371, 372, 373, 2, 374, 20, 24, 375, 376, 377, 378, 104, 105, 143, 144, 145, 146, 110, 111, 44, 106, 107, 108, 109, 16, 185, 186, 187, 188, 189, 190, 191, 192, 193, 194, 195, 196, 197, 198, 199, 379, 380, 381, 382, 48, 15, 49, 50, 51, 383, 384, 385, 386, 351, 352, 353, 33, 354, 355, 356, 357, 32, 334, 335, 336, 358, 359, 360, 52, 53, 54, 425, 426, 427, 428, 429, 430, 431, 432, 433, 434, 435, 436, 437, 452, 453, 454] (by decide +kernel) (by decide +kernel)) (goodIn_sub (fun _ h => List.mem_append_left _ (List.mem_append_right _ h)) (by decide +kernel))) (goodIn_sub (fun _ h => List.mem_append_right _ h) (by decide +kernel))
set_option maxRecDepth 20000 in
theorem gL_law_L_rebuilt : GoodIn wsL_law (va_wsS RL 131 yL_rebuilt wsL_rebuilt) := goodIn_app (goodIn_of _ (by decide +kernel)) ggL_law_L_rebuilt
set_option maxRecDepth 20000 in
theorem ggL_law_X4_rebuilt : GoodIn wsL_law wsX4_rebuilt := goodIn_r _ [390, 66, 83, 59, 151, 152, 153, 5, 154, 85, 88, 89, 90, 208, 209, 210, 211, 62, 438, 439, 440, 441, 442, 443, 444, 445, 446, 447, 448, 449, 450, 451] (by decide +kernel) (by decide +kernel)
set_option maxRecDepth 20000 in
theorem gL_law_X4_rebuilt : GoodIn wsL_law (wsV RL 133 RX4 yX4_rebuilt wsX4_rebuilt) := goodIn_app (goodIn_of _ (by decide +kernel)) ggL_law_X4_rebuilt
set_option maxRecDepth 20000 in
theorem ggL_law_L_rebuiltByElimination : GoodIn wsL_law wsL_rebuiltByElimination := goodIn_ca (goodIn_ca (goodIn_r _ [393, 98, 99, 394, 395, 396, 2, 397, 20, 28, 24, 375, 376, 377, 378, 104, 105, 143, 144, 145, 146, 110, 111, 44, 106, 107, 108, 109, 16, 185, 186, 187, 188, 189, 190, 191, 192, 193, 194, 195, 196, 197, 198, 199, 398, 399, 400, 401, 48, 15, 49, 50, 51, 383, 384, 385, 386, 351, 352, 353, 33, 354, 355, 356, 357, 32, 334, 335, 336, 358, 359, 360, 52, 53, 54, 402, 27, 403, 404, 405, 38, 406, 407, 408, 409, 410, 411, 412, 413, 414, 415, 416, 417, 418, 419, 425, 426, 427, 428, 429, 430, 431, 432, 433, 434, 435, 436, 437, 452, 453, 454, 455, 456] (by decide +kernel) (by decide +kernel)) (goodIn_sub (fun _ h => List.mem_append_left _ (List.mem_append_right _ h)) (by decide +kernel))) (goodIn_sub (fun _ h => List.mem_append_right _ h) (by decide +kernel))
set_option maxRecDepth 20000 in
theorem gL_law_L_rebuiltByElimination : GoodIn wsL_law (va_wsS RL 134 yL_rebuiltByElimination wsL_rebuiltByElimination) := goodIn_app (goodIn_of _ (by decide +kernel)) ggL_law_L_rebuiltByElimination
set_option maxRecDepth 20000 in
theorem ggL_law_X4_rebuiltByElimination : GoodIn wsL_law wsX4_rebuiltByElimination := goodIn_r _ [423, 424, 388, 389, 5, 390, 66, 83, 59, 151, 152, 153, 154, 85, 88, 89, 90, 208, 209, 210, 211, 62, 438, 439, 440, 441, 442, 443, 444, 445, 446, 447, 448, 449, 450, 451] (by decide +kernel) (by decide +kernel)
set_option maxRecDepth 20000 in
theorem gL_law_X4_rebuiltByElimination : GoodIn wsL_law (wsV RL 136 RX4 yX4_rebuiltByElimination wsX4_rebuiltByElimination) := goodIn_app (goodIn_of _ (by decide +kernel)) ggL_law_X4_rebuiltByElimination
end
section
theorem dL_law_0 : decode cL_law 0 = .ok (.new 8, 3) := by decide +kernel
theorem dL_law_3 : decode cL_law 3 = .ok (.dup, 1) := by decide +kernel
theorem dL_law_4 : decode cL_law 4 = .ok (.invokespecial 64, 3) := by decide +kernel
theorem dL_law_7 : decode cL_law 7 = .ok (.astore_n 1, 1) := by decide +kernel
theorem dL_law_8 : decode cL_law 8 = .ok (.new 65, 3) := by decide +kernel
theorem dL_law_11 : decode cL_law 11 = .ok (.dup, 1) := by decide +kernel
theorem dL_law_12 : decode cL_law 12 = .ok (.invokespecial 67, 3) := by decide +kernel
theorem dL_law_15 : decode cL_law 15 = .ok (.astore_n 2, 1) := by decide +kernel
theorem dL_law_16 : decode cL_law 16 = .ok (.iconst 1, 1) := by decide +kernel
theorem dL_law_17 : decode cL_law 17 = .ok (.newarray .long, 2) := by decide +kernel
theorem dL_law_19 : decode cL_law 19 = .ok (.astore_n 3, 1) := by decide +kernel
theorem dL_law_20 : decode cL_law 20 = .ok (.iconst 0, 1) := by decide +kernel
theorem dL_law_21 : decode cL_law 21 = .ok (.istore 4, 2) := by decide +kernel
theorem dL_law_23 : decode cL_law 23 = .ok (.iload 4, 2) := by decide +kernel
theorem dL_law_25 : decode cL_law 25 = .ok (.aload_n 0, 1) := by decide +kernel
theorem dL_law_26 : decode cL_law 26 = .ok (.arraylength, 1) := by decide +kernel
theorem dL_law_27 : decode cL_law 27 = .ok (.iconst 3, 1) := by decide +kernel
theorem dL_law_28 : decode cL_law 28 = .ok (.isub, 1) := by decide +kernel
theorem dL_law_29 : decode cL_law 29 = .ok (.if_icmp .gt 1088, 3) := by decide +kernel
theorem dL_law_32 : decode cL_law 32 = .ok (.aload_n 0, 1) := by decide +kernel
theorem dL_law_33 : decode cL_law 33 = .ok (.iload 4, 2) := by decide +kernel
theorem dL_law_35 : decode cL_law 35 = .ok (.iaload, 1) := by decide +kernel
theorem dL_law_36 : decode cL_law 36 = .ok (.bipush 31, 2) := by decide +kernel
theorem dL_law_38 : decode cL_law 38 = .ok (.iand, 1) := by decide +kernel
theorem dL_law_39 : decode cL_law 39 = .ok (.tableswitch 1072 0 18 #[89, 157, 225, 293, 361, 429, 485, 529, 542, 555, 568, 581, 637, 693, 756, 812, 880, 936, 1004], 89) := by decide +kernel
theorem dL_law_128 : decode cL_law 128 = .ok (.aload_n 1, 1) := by decide +kernel
theorem dL_law_129 : decode cL_law 129 = .ok (.aload_n 0, 1) := by decide +kernel
theorem dL_law_130 : decode cL_law 130 = .ok (.iload 4, 2) := by decide +kernel
theorem dL_law_132 : decode cL_law 132 = .ok (.iconst 1, 1) := by decide +kernel
theorem dL_law_133 : decode cL_law 133 = .ok (.iadd, 1) := by decide +kernel
theorem dL_law_134 : decode cL_law 134 = .ok (.iaload, 1) := by decide +kernel
theorem dL_law_135 : decode cL_law 135 = .ok (.aload_n 0, 1) := by decide +kernel
theorem dL_law_136 : decode cL_law 136 = .ok (.iload 4, 2) := by decide +kernel
theorem dL_law_138 : decode cL_law 138 = .ok (.iconst 2, 1) := by decide +kernel
theorem dL_law_139 : decode cL_law 139 = .ok (.iadd, 1) := by decide +kernel
theorem dL_law_140 : decode cL_law 140 = .ok (.iaload, 1) := by decide +kernel
theorem dL_law_141 : decode cL_law 141 = .ok (.aload_n 3, 1) := by decide +kernel
theorem dL_law_142 : decode cL_law 142 = .ok (.invokestatic 68, 3) := by decide +kernel
theorem dL_law_145 : decode cL_law 145 = .ok (.istore 5, 2) := by decide +kernel
theorem dL_law_147 : decode cL_law 147 = .ok (.aload_n 2, 1) := by decide +kernel
theorem dL_law_148 : decode cL_law 148 = .ok (.aload_n 0, 1) := by decide +kernel
theorem dL_law_149 : decode cL_law 149 = .ok (.iload 4, 2) := by decide +kernel
theorem dL_law_151 : decode cL_law 151 = .ok (.iconst 1, 1) := by decide +kernel
theorem dL_law_152 : decode cL_law 152 = .ok (.iadd, 1) := by decide +kernel
theorem dL_law_153 : decode cL_law 153 = .ok (.iaload, 1) := by decide +kernel
theorem dL_law_154 : decode cL_law 154 = .ok (.aload_n 0, 1) := by decide +kernel
theorem dL_law_155 : decode cL_law 155 = .ok (.iload 4, 2) := by decide +kernel
theorem dL_law_157 : decode cL_law 157 = .ok (.iconst 2, 1) := by decide +kernel
theorem dL_law_158 : decode cL_law 158 = .ok (.iadd, 1) := by decide +kernel
theorem dL_law_159 : decode cL_law 159 = .ok (.iaload, 1) := by decide +kernel
theorem dL_law_160 : decode cL_law 160 = .ok (.invokevirtual 73, 3) := by decide +kernel
theorem dL_law_163 : decode cL_law 163 = .ok (.istore 6, 2) := by decide +kernel
theorem dL_law_165 : decode cL_law 165 = .ok (.aload_n 2, 1) := by decide +kernel
theorem dL_law_166 : decode cL_law 166 = .ok (.invokevirtual 74, 3) := by decide +kernel
theorem dL_law_169 : decode cL_law 169 = .ok (.iload 5, 2) := by decide +kernel
theorem dL_law_171 : decode cL_law 171 = .ok (.if_icmp .eq 5, 3) := by decide +kernel
theorem dL_law_174 : decode cL_law 174 = .ok (.iconst 0, 1) := by decide +kernel
theorem dL_law_175 : decode cL_law 175 = .ok (.ireturn, 1) := by decide +kernel
theorem dL_law_176 : decode cL_law 176 = .ok (.iload 5, 2) := by decide +kernel
theorem dL_law_178 : decode cL_law 178 = .ok (.ifCond .ne 15, 3) := by decide +kernel
theorem dL_law_181 : decode cL_law 181 = .ok (.aload_n 3, 1) := by decide +kernel
theorem dL_law_182 : decode cL_law 182 = .ok (.iconst 0, 1) := by decide +kernel
theorem dL_law_183 : decode cL_law 183 = .ok (.laload, 1) := by decide +kernel
theorem dL_law_184 : decode cL_law 184 = .ok (.iload 6, 2) := by decide +kernel
theorem dL_law_186 : decode cL_law 186 = .ok (.i2l, 1) := by decide +kernel
theorem dL_law_187 : decode cL_law 187 = .ok (.lcmp, 1) := by decide +kernel
theorem dL_law_188 : decode cL_law 188 = .ok (.ifCond .eq 5, 3) := by decide +kernel
theorem dL_law_191 : decode cL_law 191 = .ok (.iconst 0, 1) := by decide +kernel
theorem dL_law_192 : decode cL_law 192 = .ok (.ireturn, 1) := by decide +kernel
theorem dL_law_193 : decode cL_law 193 = .ok (.goto 918, 3) := by decide +kernel
theorem dL_law_196 : decode cL_law 196 = .ok (.aload_n 1, 1) := by decide +kernel
theorem dL_law_197 : decode cL_law 197 = .ok (.aload_n 0, 1) := by decide +kernel
theorem dL_law_198 : decode cL_law 198 = .ok (.iload 4, 2) := by decide +kernel
theorem dL_law_200 : decode cL_law 200 = .ok (.iconst 1, 1) := by decide +kernel
theorem dL_law_201 : decode cL_law 201 = .ok (.iadd, 1) := by decide +kernel
theorem dL_law_202 : decode cL_law 202 = .ok (.iaload, 1) := by decide +kernel
theorem dL_law_203 : decode cL_law 203 = .ok (.aload_n 0, 1) := by decide +kernel
theorem dL_law_204 : decode cL_law 204 = .ok (.iload 4, 2) := by decide +kernel
theorem dL_law_206 : decode cL_law 206 = .ok (.iconst 2, 1) := by decide +kernel
theorem dL_law_207 : decode cL_law 207 = .ok (.iadd, 1) := by decide +kernel
theorem dL_law_208 : decode cL_law 208 = .ok (.iaload, 1) := by decide +kernel
theorem dL_law_209 : decode cL_law 209 = .ok (.aload_n 3, 1) := by decide +kernel
theorem dL_law_210 : decode cL_law 210 = .ok (.invokestatic 77, 3) := by decide +kernel
theorem dL_law_213 : decode cL_law 213 = .ok (.istore 5, 2) := by decide +kernel
theorem dL_law_215 : decode cL_law 215 = .ok (.aload_n 2, 1) := by decide +kernel
theorem dL_law_216 : decode cL_law 216 = .ok (.aload_n 0, 1) := by decide +kernel
theorem dL_law_217 : decode cL_law 217 = .ok (.iload 4, 2) := by decide +kernel
theorem dL_law_219 : decode cL_law 219 = .ok (.iconst 1, 1) := by decide +kernel
theorem dL_law_220 : decode cL_law 220 = .ok (.iadd, 1) := by decide +kernel
theorem dL_law_221 : decode cL_law 221 = .ok (.iaload, 1) := by decide +kernel
theorem dL_law_222 : decode cL_law 222 = .ok (.aload_n 0, 1) := by decide +kernel
theorem dL_law_223 : decode cL_law 223 = .ok (.iload 4, 2) := by decide +kernel
theorem dL_law_225 : decode cL_law 225 = .ok (.iconst 2, 1) := by decide +kernel
theorem dL_law_226 : decode cL_law 226 = .ok (.iadd, 1) := by decide +kernel
theorem dL_law_227 : decode cL_law 227 = .ok (.iaload, 1) := by decide +kernel
theorem dL_law_228 : decode cL_law 228 = .ok (.invokevirtual 79, 3) := by decide +kernel
theorem dL_law_231 : decode cL_law 231 = .ok (.istore 6, 2) := by decide +kernel
theorem dL_law_233 : decode cL_law 233 = .ok (.aload_n 2, 1) := by decide +kernel
theorem dL_law_234 : decode cL_law 234 = .ok (.invokevirtual 74, 3) := by decide +kernel
theorem dL_law_237 : decode cL_law 237 = .ok (.iload 5, 2) := by decide +kernel
theorem dL_law_239 : decode cL_law 239 = .ok (.if_icmp .eq 5, 3) := by decide +kernel
theorem dL_law_242 : decode cL_law 242 = .ok (.iconst 0, 1) := by decide +kernel
theorem dL_law_243 : decode cL_law 243 = .ok (.ireturn, 1) := by decide +kernel
theorem dL_law_244 : decode cL_law 244 = .ok (.iload 5, 2) := by decide +kernel
theorem dL_law_246 : decode cL_law 246 = .ok (.ifCond .ne 15, 3) := by decide +kernel
theorem dL_law_249 : decode cL_law 249 = .ok (.aload_n 3, 1) := by decide +kernel
theorem dL_law_250 : decode cL_law 250 = .ok (.iconst 0, 1) := by decide +kernel
theorem dL_law_251 : decode cL_law 251 = .ok (.laload, 1) := by decide +kernel
theorem dL_law_252 : decode cL_law 252 = .ok (.iload 6, 2) := by decide +kernel
theorem dL_law_254 : decode cL_law 254 = .ok (.i2l, 1) := by decide +kernel
theorem dL_law_255 : decode cL_law 255 = .ok (.lcmp, 1) := by decide +kernel
theorem dL_law_256 : decode cL_law 256 = .ok (.ifCond .eq 5, 3) := by decide +kernel
theorem dL_law_259 : decode cL_law 259 = .ok (.iconst 0, 1) := by decide +kernel
theorem dL_law_260 : decode cL_law 260 = .ok (.ireturn, 1) := by decide +kernel
theorem dL_law_261 : decode cL_law 261 = .ok (.goto 850, 3) := by decide +kernel
theorem dL_law_264 : decode cL_law 264 = .ok (.aload_n 1, 1) := by decide +kernel
theorem dL_law_265 : decode cL_law 265 = .ok (.aload_n 0, 1) := by decide +kernel
theorem dL_law_266 : decode cL_law 266 = .ok (.iload 4, 2) := by decide +kernel
theorem dL_law_268 : decode cL_law 268 = .ok (.iconst 1, 1) := by decide +kernel
theorem dL_law_269 : decode cL_law 269 = .ok (.iadd, 1) := by decide +kernel
theorem dL_law_270 : decode cL_law 270 = .ok (.iaload, 1) := by decide +kernel
theorem dL_law_271 : decode cL_law 271 = .ok (.aload_n 0, 1) := by decide +kernel
theorem dL_law_272 : decode cL_law 272 = .ok (.iload 4, 2) := by decide +kernel
theorem dL_law_274 : decode cL_law 274 = .ok (.iconst 2, 1) := by decide +kernel
theorem dL_law_275 : decode cL_law 275 = .ok (.iadd, 1) := by decide +kernel
theorem dL_law_276 : decode cL_law 276 = .ok (.iaload, 1) := by decide +kernel
theorem dL_law_277 : decode cL_law 277 = .ok (.aload_n 3, 1) := by decide +kernel
theorem dL_law_278 : decode cL_law 278 = .ok (.invokestatic 80, 3) := by decide +kernel
theorem dL_law_281 : decode cL_law 281 = .ok (.istore 5, 2) := by decide +kernel
theorem dL_law_283 : decode cL_law 283 = .ok (.aload_n 2, 1) := by decide +kernel
theorem dL_law_284 : decode cL_law 284 = .ok (.aload_n 0, 1) := by decide +kernel
theorem dL_law_285 : decode cL_law 285 = .ok (.iload 4, 2) := by decide +kernel
theorem dL_law_287 : decode cL_law 287 = .ok (.iconst 1, 1) := by decide +kernel
theorem dL_law_288 : decode cL_law 288 = .ok (.iadd, 1) := by decide +kernel
theorem dL_law_289 : decode cL_law 289 = .ok (.iaload, 1) := by decide +kernel
theorem dL_law_290 : decode cL_law 290 = .ok (.aload_n 0, 1) := by decide +kernel
theorem dL_law_291 : decode cL_law 291 = .ok (.iload 4, 2) := by decide +kernel
theorem dL_law_293 : decode cL_law 293 = .ok (.iconst 2, 1) := by decide +kernel
theorem dL_law_294 : decode cL_law 294 = .ok (.iadd, 1) := by decide +kernel
theorem dL_law_295 : decode cL_law 295 = .ok (.iaload, 1) := by decide +kernel
theorem dL_law_296 : decode cL_law 296 = .ok (.invokevirtual 82, 3) := by decide +kernel
theorem dL_law_299 : decode cL_law 299 = .ok (.istore 6, 2) := by decide +kernel
theorem dL_law_301 : decode cL_law 301 = .ok (.aload_n 2, 1) := by decide +kernel
theorem dL_law_302 : decode cL_law 302 = .ok (.invokevirtual 74, 3) := by decide +kernel
theorem dL_law_305 : decode cL_law 305 = .ok (.iload 5, 2) := by decide +kernel
theorem dL_law_307 : decode cL_law 307 = .ok (.if_icmp .eq 5, 3) := by decide +kernel
theorem dL_law_310 : decode cL_law 310 = .ok (.iconst 0, 1) := by decide +kernel
theorem dL_law_311 : decode cL_law 311 = .ok (.ireturn, 1) := by decide +kernel
theorem dL_law_312 : decode cL_law 312 = .ok (.iload 5, 2) := by decide +kernel
theorem dL_law_314 : decode cL_law 314 = .ok (.ifCond .ne 15, 3) := by decide +kernel
theorem dL_law_317 : decode cL_law 317 = .ok (.aload_n 3, 1) := by decide +kernel
theorem dL_law_318 : decode cL_law 318 = .ok (.iconst 0, 1) := by decide +kernel
theorem dL_law_319 : decode cL_law 319 = .ok (.laload, 1) := by decide +kernel
theorem dL_law_320 : decode cL_law 320 = .ok (.iload 6, 2) := by decide +kernel
theorem dL_law_322 : decode cL_law 322 = .ok (.i2l, 1) := by decide +kernel
theorem dL_law_323 : decode cL_law 323 = .ok (.lcmp, 1) := by decide +kernel
theorem dL_law_324 : decode cL_law 324 = .ok (.ifCond .eq 5, 3) := by decide +kernel
theorem dL_law_327 : decode cL_law 327 = .ok (.iconst 0, 1) := by decide +kernel
theorem dL_law_328 : decode cL_law 328 = .ok (.ireturn, 1) := by decide +kernel
theorem dL_law_329 : decode cL_law 329 = .ok (.goto 782, 3) := by decide +kernel
theorem dL_law_332 : decode cL_law 332 = .ok (.aload_n 1, 1) := by decide +kernel
theorem dL_law_333 : decode cL_law 333 = .ok (.aload_n 0, 1) := by decide +kernel
theorem dL_law_334 : decode cL_law 334 = .ok (.iload 4, 2) := by decide +kernel
theorem dL_law_336 : decode cL_law 336 = .ok (.iconst 1, 1) := by decide +kernel
theorem dL_law_337 : decode cL_law 337 = .ok (.iadd, 1) := by decide +kernel
theorem dL_law_338 : decode cL_law 338 = .ok (.iaload, 1) := by decide +kernel
theorem dL_law_339 : decode cL_law 339 = .ok (.aload_n 0, 1) := by decide +kernel
theorem dL_law_340 : decode cL_law 340 = .ok (.iload 4, 2) := by decide +kernel
theorem dL_law_342 : decode cL_law 342 = .ok (.iconst 2, 1) := by decide +kernel
theorem dL_law_343 : decode cL_law 343 = .ok (.iadd, 1) := by decide +kernel
theorem dL_law_344 : decode cL_law 344 = .ok (.iaload, 1) := by decide +kernel
theorem dL_law_345 : decode cL_law 345 = .ok (.aload_n 3, 1) := by decide +kernel
theorem dL_law_346 : decode cL_law 346 = .ok (.invokestatic 83, 3) := by decide +kernel
theorem dL_law_349 : decode cL_law 349 = .ok (.istore 5, 2) := by decide +kernel
theorem dL_law_351 : decode cL_law 351 = .ok (.aload_n 2, 1) := by decide +kernel
theorem dL_law_352 : decode cL_law 352 = .ok (.aload_n 0, 1) := by decide +kernel
theorem dL_law_353 : decode cL_law 353 = .ok (.iload 4, 2) := by decide +kernel
theorem dL_law_355 : decode cL_law 355 = .ok (.iconst 1, 1) := by decide +kernel
theorem dL_law_356 : decode cL_law 356 = .ok (.iadd, 1) := by decide +kernel
theorem dL_law_357 : decode cL_law 357 = .ok (.iaload, 1) := by decide +kernel
theorem dL_law_358 : decode cL_law 358 = .ok (.aload_n 0, 1) := by decide +kernel
theorem dL_law_359 : decode cL_law 359 = .ok (.iload 4, 2) := by decide +kernel
theorem dL_law_361 : decode cL_law 361 = .ok (.iconst 2, 1) := by decide +kernel
theorem dL_law_362 : decode cL_law 362 = .ok (.iadd, 1) := by decide +kernel
theorem dL_law_363 : decode cL_law 363 = .ok (.iaload, 1) := by decide +kernel
theorem dL_law_364 : decode cL_law 364 = .ok (.invokevirtual 85, 3) := by decide +kernel
theorem dL_law_367 : decode cL_law 367 = .ok (.istore 6, 2) := by decide +kernel
theorem dL_law_369 : decode cL_law 369 = .ok (.aload_n 2, 1) := by decide +kernel
theorem dL_law_370 : decode cL_law 370 = .ok (.invokevirtual 74, 3) := by decide +kernel
theorem dL_law_373 : decode cL_law 373 = .ok (.iload 5, 2) := by decide +kernel
theorem dL_law_375 : decode cL_law 375 = .ok (.if_icmp .eq 5, 3) := by decide +kernel
theorem dL_law_378 : decode cL_law 378 = .ok (.iconst 0, 1) := by decide +kernel
theorem dL_law_379 : decode cL_law 379 = .ok (.ireturn, 1) := by decide +kernel
theorem dL_law_380 : decode cL_law 380 = .ok (.iload 5, 2) := by decide +kernel
theorem dL_law_382 : decode cL_law 382 = .ok (.ifCond .ne 15, 3) := by decide +kernel
theorem dL_law_385 : decode cL_law 385 = .ok (.aload_n 3, 1) := by decide +kernel
theorem dL_law_386 : decode cL_law 386 = .ok (.iconst 0, 1) := by decide +kernel
theorem dL_law_387 : decode cL_law 387 = .ok (.laload, 1) := by decide +kernel
theorem dL_law_388 : decode cL_law 388 = .ok (.iload 6, 2) := by decide +kernel
theorem dL_law_390 : decode cL_law 390 = .ok (.i2l, 1) := by decide +kernel
theorem dL_law_391 : decode cL_law 391 = .ok (.lcmp, 1) := by decide +kernel
theorem dL_law_392 : decode cL_law 392 = .ok (.ifCond .eq 5, 3) := by decide +kernel
theorem dL_law_395 : decode cL_law 395 = .ok (.iconst 0, 1) := by decide +kernel
theorem dL_law_396 : decode cL_law 396 = .ok (.ireturn, 1) := by decide +kernel
theorem dL_law_397 : decode cL_law 397 = .ok (.goto 714, 3) := by decide +kernel
theorem dL_law_400 : decode cL_law 400 = .ok (.aload_n 1, 1) := by decide +kernel
theorem dL_law_401 : decode cL_law 401 = .ok (.aload_n 0, 1) := by decide +kernel
theorem dL_law_402 : decode cL_law 402 = .ok (.iload 4, 2) := by decide +kernel
theorem dL_law_404 : decode cL_law 404 = .ok (.iconst 1, 1) := by decide +kernel
theorem dL_law_405 : decode cL_law 405 = .ok (.iadd, 1) := by decide +kernel
theorem dL_law_406 : decode cL_law 406 = .ok (.iaload, 1) := by decide +kernel
theorem dL_law_407 : decode cL_law 407 = .ok (.aload_n 0, 1) := by decide +kernel
theorem dL_law_408 : decode cL_law 408 = .ok (.iload 4, 2) := by decide +kernel
theorem dL_law_410 : decode cL_law 410 = .ok (.iconst 2, 1) := by decide +kernel
theorem dL_law_411 : decode cL_law 411 = .ok (.iadd, 1) := by decide +kernel
theorem dL_law_412 : decode cL_law 412 = .ok (.iaload, 1) := by decide +kernel
theorem dL_law_413 : decode cL_law 413 = .ok (.aload_n 3, 1) := by decide +kernel
theorem dL_law_414 : decode cL_law 414 = .ok (.invokestatic 86, 3) := by decide +kernel
theorem dL_law_417 : decode cL_law 417 = .ok (.istore 5, 2) := by decide +kernel
theorem dL_law_419 : decode cL_law 419 = .ok (.aload_n 2, 1) := by decide +kernel
theorem dL_law_420 : decode cL_law 420 = .ok (.aload_n 0, 1) := by decide +kernel
theorem dL_law_421 : decode cL_law 421 = .ok (.iload 4, 2) := by decide +kernel
theorem dL_law_423 : decode cL_law 423 = .ok (.iconst 1, 1) := by decide +kernel
theorem dL_law_424 : decode cL_law 424 = .ok (.iadd, 1) := by decide +kernel
theorem dL_law_425 : decode cL_law 425 = .ok (.iaload, 1) := by decide +kernel
theorem dL_law_426 : decode cL_law 426 = .ok (.aload_n 0, 1) := by decide +kernel
theorem dL_law_427 : decode cL_law 427 = .ok (.iload 4, 2) := by decide +kernel
theorem dL_law_429 : decode cL_law 429 = .ok (.iconst 2, 1) := by decide +kernel
theorem dL_law_430 : decode cL_law 430 = .ok (.iadd, 1) := by decide +kernel
theorem dL_law_431 : decode cL_law 431 = .ok (.iaload, 1) := by decide +kernel
theorem dL_law_432 : decode cL_law 432 = .ok (.invokevirtual 88, 3) := by decide +kernel
theorem dL_law_435 : decode cL_law 435 = .ok (.istore 6, 2) := by decide +kernel
theorem dL_law_437 : decode cL_law 437 = .ok (.aload_n 2, 1) := by decide +kernel
theorem dL_law_438 : decode cL_law 438 = .ok (.invokevirtual 74, 3) := by decide +kernel
theorem dL_law_441 : decode cL_law 441 = .ok (.iload 5, 2) := by decide +kernel
theorem dL_law_443 : decode cL_law 443 = .ok (.if_icmp .eq 5, 3) := by decide +kernel
theorem dL_law_446 : decode cL_law 446 = .ok (.iconst 0, 1) := by decide +kernel
theorem dL_law_447 : decode cL_law 447 = .ok (.ireturn, 1) := by decide +kernel
theorem dL_law_448 : decode cL_law 448 = .ok (.iload 5, 2) := by decide +kernel
theorem dL_law_450 : decode cL_law 450 = .ok (.ifCond .ne 15, 3) := by decide +kernel
theorem dL_law_453 : decode cL_law 453 = .ok (.aload_n 3, 1) := by decide +kernel
theorem dL_law_454 : decode cL_law 454 = .ok (.iconst 0, 1) := by decide +kernel
theorem dL_law_455 : decode cL_law 455 = .ok (.laload, 1) := by decide +kernel
theorem dL_law_456 : decode cL_law 456 = .ok (.iload 6, 2) := by decide +kernel
theorem dL_law_458 : decode cL_law 458 = .ok (.i2l, 1) := by decide +kernel
theorem dL_law_459 : decode cL_law 459 = .ok (.lcmp, 1) := by decide +kernel
theorem dL_law_460 : decode cL_law 460 = .ok (.ifCond .eq 5, 3) := by decide +kernel
theorem dL_law_463 : decode cL_law 463 = .ok (.iconst 0, 1) := by decide +kernel
theorem dL_law_464 : decode cL_law 464 = .ok (.ireturn, 1) := by decide +kernel
theorem dL_law_465 : decode cL_law 465 = .ok (.goto 646, 3) := by decide +kernel
theorem dL_law_468 : decode cL_law 468 = .ok (.aload_n 1, 1) := by decide +kernel
theorem dL_law_469 : decode cL_law 469 = .ok (.aload_n 0, 1) := by decide +kernel
theorem dL_law_470 : decode cL_law 470 = .ok (.iload 4, 2) := by decide +kernel
theorem dL_law_472 : decode cL_law 472 = .ok (.iconst 1, 1) := by decide +kernel
theorem dL_law_473 : decode cL_law 473 = .ok (.iadd, 1) := by decide +kernel
theorem dL_law_474 : decode cL_law 474 = .ok (.iaload, 1) := by decide +kernel
theorem dL_law_475 : decode cL_law 475 = .ok (.aload_n 3, 1) := by decide +kernel
theorem dL_law_476 : decode cL_law 476 = .ok (.invokestatic 89, 3) := by decide +kernel
theorem dL_law_479 : decode cL_law 479 = .ok (.istore 5, 2) := by decide +kernel
theorem dL_law_481 : decode cL_law 481 = .ok (.aload_n 2, 1) := by decide +kernel
theorem dL_law_482 : decode cL_law 482 = .ok (.aload_n 0, 1) := by decide +kernel
theorem dL_law_483 : decode cL_law 483 = .ok (.iload 4, 2) := by decide +kernel
theorem dL_law_485 : decode cL_law 485 = .ok (.iconst 1, 1) := by decide +kernel
theorem dL_law_486 : decode cL_law 486 = .ok (.iadd, 1) := by decide +kernel
theorem dL_law_487 : decode cL_law 487 = .ok (.iaload, 1) := by decide +kernel
theorem dL_law_488 : decode cL_law 488 = .ok (.invokevirtual 92, 3) := by decide +kernel
theorem dL_law_491 : decode cL_law 491 = .ok (.istore 6, 2) := by decide +kernel
theorem dL_law_493 : decode cL_law 493 = .ok (.aload_n 2, 1) := by decide +kernel
theorem dL_law_494 : decode cL_law 494 = .ok (.invokevirtual 74, 3) := by decide +kernel
theorem dL_law_497 : decode cL_law 497 = .ok (.iload 5, 2) := by decide +kernel
theorem dL_law_499 : decode cL_law 499 = .ok (.if_icmp .eq 5, 3) := by decide +kernel
theorem dL_law_502 : decode cL_law 502 = .ok (.iconst 0, 1) := by decide +kernel
theorem dL_law_503 : decode cL_law 503 = .ok (.ireturn, 1) := by decide +kernel
theorem dL_law_504 : decode cL_law 504 = .ok (.iload 5, 2) := by decide +kernel
theorem dL_law_506 : decode cL_law 506 = .ok (.ifCond .ne 15, 3) := by decide +kernel
theorem dL_law_509 : decode cL_law 509 = .ok (.aload_n 3, 1) := by decide +kernel
theorem dL_law_510 : decode cL_law 510 = .ok (.iconst 0, 1) := by decide +kernel
theorem dL_law_511 : decode cL_law 511 = .ok (.laload, 1) := by decide +kernel
theorem dL_law_512 : decode cL_law 512 = .ok (.iload 6, 2) := by decide +kernel
theorem dL_law_514 : decode cL_law 514 = .ok (.i2l, 1) := by decide +kernel
theorem dL_law_515 : decode cL_law 515 = .ok (.lcmp, 1) := by decide +kernel
theorem dL_law_516 : decode cL_law 516 = .ok (.ifCond .eq 5, 3) := by decide +kernel
theorem dL_law_519 : decode cL_law 519 = .ok (.iconst 0, 1) := by decide +kernel
theorem dL_law_520 : decode cL_law 520 = .ok (.ireturn, 1) := by decide +kernel
theorem dL_law_521 : decode cL_law 521 = .ok (.goto 590, 3) := by decide +kernel
theorem dL_law_524 : decode cL_law 524 = .ok (.aload_n 1, 1) := by decide +kernel
theorem dL_law_525 : decode cL_law 525 = .ok (.aload_n 3, 1) := by decide +kernel
theorem dL_law_526 : decode cL_law 526 = .ok (.invokestatic 93, 3) := by decide +kernel
theorem dL_law_529 : decode cL_law 529 = .ok (.istore 5, 2) := by decide +kernel
theorem dL_law_531 : decode cL_law 531 = .ok (.aload_n 2, 1) := by decide +kernel
theorem dL_law_532 : decode cL_law 532 = .ok (.invokevirtual 96, 3) := by decide +kernel
theorem dL_law_535 : decode cL_law 535 = .ok (.istore 6, 2) := by decide +kernel
theorem dL_law_537 : decode cL_law 537 = .ok (.aload_n 2, 1) := by decide +kernel
theorem dL_law_538 : decode cL_law 538 = .ok (.invokevirtual 74, 3) := by decide +kernel
theorem dL_law_541 : decode cL_law 541 = .ok (.iload 5, 2) := by decide +kernel
theorem dL_law_543 : decode cL_law 543 = .ok (.if_icmp .eq 5, 3) := by decide +kernel
theorem dL_law_546 : decode cL_law 546 = .ok (.iconst 0, 1) := by decide +kernel
theorem dL_law_547 : decode cL_law 547 = .ok (.ireturn, 1) := by decide +kernel
theorem dL_law_548 : decode cL_law 548 = .ok (.iload 5, 2) := by decide +kernel
theorem dL_law_550 : decode cL_law 550 = .ok (.ifCond .ne 15, 3) := by decide +kernel
theorem dL_law_553 : decode cL_law 553 = .ok (.aload_n 3, 1) := by decide +kernel
theorem dL_law_554 : decode cL_law 554 = .ok (.iconst 0, 1) := by decide +kernel
theorem dL_law_555 : decode cL_law 555 = .ok (.laload, 1) := by decide +kernel
theorem dL_law_556 : decode cL_law 556 = .ok (.iload 6, 2) := by decide +kernel
theorem dL_law_558 : decode cL_law 558 = .ok (.i2l, 1) := by decide +kernel
theorem dL_law_559 : decode cL_law 559 = .ok (.lcmp, 1) := by decide +kernel
theorem dL_law_560 : decode cL_law 560 = .ok (.ifCond .eq 5, 3) := by decide +kernel
theorem dL_law_563 : decode cL_law 563 = .ok (.iconst 0, 1) := by decide +kernel
theorem dL_law_564 : decode cL_law 564 = .ok (.ireturn, 1) := by decide +kernel
theorem dL_law_565 : decode cL_law 565 = .ok (.goto 546, 3) := by decide +kernel
theorem dL_law_568 : decode cL_law 568 = .ok (.aload_n 1, 1) := by decide +kernel
theorem dL_law_569 : decode cL_law 569 = .ok (.invokevirtual 97, 3) := by decide +kernel
theorem dL_law_572 : decode cL_law 572 = .ok (.aload_n 2, 1) := by decide +kernel
theorem dL_law_573 : decode cL_law 573 = .ok (.invokevirtual 100, 3) := by decide +kernel
theorem dL_law_576 : decode cL_law 576 = .ok (.if_icmp .eq 535, 3) := by decide +kernel
theorem dL_law_579 : decode cL_law 579 = .ok (.iconst 0, 1) := by decide +kernel
theorem dL_law_580 : decode cL_law 580 = .ok (.ireturn, 1) := by decide +kernel
theorem dL_law_581 : decode cL_law 581 = .ok (.aload_n 1, 1) := by decide +kernel
theorem dL_law_582 : decode cL_law 582 = .ok (.invokevirtual 101, 3) := by decide +kernel
theorem dL_law_585 : decode cL_law 585 = .ok (.aload_n 2, 1) := by decide +kernel
theorem dL_law_586 : decode cL_law 586 = .ok (.invokevirtual 104, 3) := by decide +kernel
theorem dL_law_589 : decode cL_law 589 = .ok (.if_icmp .eq 522, 3) := by decide +kernel
theorem dL_law_592 : decode cL_law 592 = .ok (.iconst 0, 1) := by decide +kernel
theorem dL_law_593 : decode cL_law 593 = .ok (.ireturn, 1) := by decide +kernel
theorem dL_law_594 : decode cL_law 594 = .ok (.aload_n 1, 1) := by decide +kernel
theorem dL_law_595 : decode cL_law 595 = .ok (.invokevirtual 105, 3) := by decide +kernel
theorem dL_law_598 : decode cL_law 598 = .ok (.aload_n 2, 1) := by decide +kernel
theorem dL_law_599 : decode cL_law 599 = .ok (.invokevirtual 108, 3) := by decide +kernel
theorem dL_law_602 : decode cL_law 602 = .ok (.if_icmp .eq 509, 3) := by decide +kernel
theorem dL_law_605 : decode cL_law 605 = .ok (.iconst 0, 1) := by decide +kernel
theorem dL_law_606 : decode cL_law 606 = .ok (.ireturn, 1) := by decide +kernel
theorem dL_law_607 : decode cL_law 607 = .ok (.aload_n 1, 1) := by decide +kernel
theorem dL_law_608 : decode cL_law 608 = .ok (.invokevirtual 109, 3) := by decide +kernel
theorem dL_law_611 : decode cL_law 611 = .ok (.aload_n 2, 1) := by decide +kernel
theorem dL_law_612 : decode cL_law 612 = .ok (.invokevirtual 112, 3) := by decide +kernel
theorem dL_law_615 : decode cL_law 615 = .ok (.if_icmp .eq 496, 3) := by decide +kernel
theorem dL_law_618 : decode cL_law 618 = .ok (.iconst 0, 1) := by decide +kernel
theorem dL_law_619 : decode cL_law 619 = .ok (.ireturn, 1) := by decide +kernel
theorem dL_law_620 : decode cL_law 620 = .ok (.aload_n 1, 1) := by decide +kernel
theorem dL_law_621 : decode cL_law 621 = .ok (.aload_n 0, 1) := by decide +kernel
theorem dL_law_622 : decode cL_law 622 = .ok (.iload 4, 2) := by decide +kernel
theorem dL_law_624 : decode cL_law 624 = .ok (.iconst 1, 1) := by decide +kernel
theorem dL_law_625 : decode cL_law 625 = .ok (.iadd, 1) := by decide +kernel
theorem dL_law_626 : decode cL_law 626 = .ok (.iaload, 1) := by decide +kernel
theorem dL_law_627 : decode cL_law 627 = .ok (.aload_n 3, 1) := by decide +kernel
theorem dL_law_628 : decode cL_law 628 = .ok (.invokestatic 113, 3) := by decide +kernel
theorem dL_law_631 : decode cL_law 631 = .ok (.istore 5, 2) := by decide +kernel
theorem dL_law_633 : decode cL_law 633 = .ok (.aload_n 2, 1) := by decide +kernel
theorem dL_law_634 : decode cL_law 634 = .ok (.aload_n 0, 1) := by decide +kernel
theorem dL_law_635 : decode cL_law 635 = .ok (.iload 4, 2) := by decide +kernel
theorem dL_law_637 : decode cL_law 637 = .ok (.iconst 1, 1) := by decide +kernel
theorem dL_law_638 : decode cL_law 638 = .ok (.iadd, 1) := by decide +kernel
theorem dL_law_639 : decode cL_law 639 = .ok (.iaload, 1) := by decide +kernel
theorem dL_law_640 : decode cL_law 640 = .ok (.invokevirtual 115, 3) := by decide +kernel
theorem dL_law_643 : decode cL_law 643 = .ok (.istore 6, 2) := by decide +kernel
theorem dL_law_645 : decode cL_law 645 = .ok (.aload_n 2, 1) := by decide +kernel
theorem dL_law_646 : decode cL_law 646 = .ok (.invokevirtual 74, 3) := by decide +kernel
theorem dL_law_649 : decode cL_law 649 = .ok (.iload 5, 2) := by decide +kernel
theorem dL_law_651 : decode cL_law 651 = .ok (.if_icmp .eq 5, 3) := by decide +kernel
theorem dL_law_654 : decode cL_law 654 = .ok (.iconst 0, 1) := by decide +kernel
theorem dL_law_655 : decode cL_law 655 = .ok (.ireturn, 1) := by decide +kernel
theorem dL_law_656 : decode cL_law 656 = .ok (.iload 5, 2) := by decide +kernel
theorem dL_law_658 : decode cL_law 658 = .ok (.ifCond .ne 15, 3) := by decide +kernel
theorem dL_law_661 : decode cL_law 661 = .ok (.aload_n 3, 1) := by decide +kernel
theorem dL_law_662 : decode cL_law 662 = .ok (.iconst 0, 1) := by decide +kernel
theorem dL_law_663 : decode cL_law 663 = .ok (.laload, 1) := by decide +kernel
theorem dL_law_664 : decode cL_law 664 = .ok (.iload 6, 2) := by decide +kernel
theorem dL_law_666 : decode cL_law 666 = .ok (.i2l, 1) := by decide +kernel
theorem dL_law_667 : decode cL_law 667 = .ok (.lcmp, 1) := by decide +kernel
theorem dL_law_668 : decode cL_law 668 = .ok (.ifCond .eq 5, 3) := by decide +kernel
theorem dL_law_671 : decode cL_law 671 = .ok (.iconst 0, 1) := by decide +kernel
theorem dL_law_672 : decode cL_law 672 = .ok (.ireturn, 1) := by decide +kernel
theorem dL_law_673 : decode cL_law 673 = .ok (.goto 438, 3) := by decide +kernel
theorem dL_law_676 : decode cL_law 676 = .ok (.aload_n 1, 1) := by decide +kernel
theorem dL_law_677 : decode cL_law 677 = .ok (.aload_n 0, 1) := by decide +kernel
theorem dL_law_678 : decode cL_law 678 = .ok (.iload 4, 2) := by decide +kernel
theorem dL_law_680 : decode cL_law 680 = .ok (.iconst 1, 1) := by decide +kernel
theorem dL_law_681 : decode cL_law 681 = .ok (.iadd, 1) := by decide +kernel
theorem dL_law_682 : decode cL_law 682 = .ok (.iaload, 1) := by decide +kernel
theorem dL_law_683 : decode cL_law 683 = .ok (.aload_n 3, 1) := by decide +kernel
theorem dL_law_684 : decode cL_law 684 = .ok (.invokestatic 116, 3) := by decide +kernel
theorem dL_law_687 : decode cL_law 687 = .ok (.istore 5, 2) := by decide +kernel
theorem dL_law_689 : decode cL_law 689 = .ok (.aload_n 2, 1) := by decide +kernel
theorem dL_law_690 : decode cL_law 690 = .ok (.aload_n 0, 1) := by decide +kernel
theorem dL_law_691 : decode cL_law 691 = .ok (.iload 4, 2) := by decide +kernel
theorem dL_law_693 : decode cL_law 693 = .ok (.iconst 1, 1) := by decide +kernel
theorem dL_law_694 : decode cL_law 694 = .ok (.iadd, 1) := by decide +kernel
theorem dL_law_695 : decode cL_law 695 = .ok (.iaload, 1) := by decide +kernel
theorem dL_law_696 : decode cL_law 696 = .ok (.invokevirtual 118, 3) := by decide +kernel
theorem dL_law_699 : decode cL_law 699 = .ok (.istore 6, 2) := by decide +kernel
theorem dL_law_701 : decode cL_law 701 = .ok (.aload_n 2, 1) := by decide +kernel
theorem dL_law_702 : decode cL_law 702 = .ok (.invokevirtual 74, 3) := by decide +kernel
theorem dL_law_705 : decode cL_law 705 = .ok (.iload 5, 2) := by decide +kernel
theorem dL_law_707 : decode cL_law 707 = .ok (.if_icmp .eq 5, 3) := by decide +kernel
theorem dL_law_710 : decode cL_law 710 = .ok (.iconst 0, 1) := by decide +kernel
theorem dL_law_711 : decode cL_law 711 = .ok (.ireturn, 1) := by decide +kernel
theorem dL_law_712 : decode cL_law 712 = .ok (.iload 5, 2) := by decide +kernel
theorem dL_law_714 : decode cL_law 714 = .ok (.ifCond .ne 15, 3) := by decide +kernel
theorem dL_law_717 : decode cL_law 717 = .ok (.aload_n 3, 1) := by decide +kernel
theorem dL_law_718 : decode cL_law 718 = .ok (.iconst 0, 1) := by decide +kernel
theorem dL_law_719 : decode cL_law 719 = .ok (.laload, 1) := by decide +kernel
theorem dL_law_720 : decode cL_law 720 = .ok (.iload 6, 2) := by decide +kernel
theorem dL_law_722 : decode cL_law 722 = .ok (.i2l, 1) := by decide +kernel
theorem dL_law_723 : decode cL_law 723 = .ok (.lcmp, 1) := by decide +kernel
theorem dL_law_724 : decode cL_law 724 = .ok (.ifCond .eq 5, 3) := by decide +kernel
theorem dL_law_727 : decode cL_law 727 = .ok (.iconst 0, 1) := by decide +kernel
theorem dL_law_728 : decode cL_law 728 = .ok (.ireturn, 1) := by decide +kernel
theorem dL_law_729 : decode cL_law 729 = .ok (.goto 382, 3) := by decide +kernel
theorem dL_law_732 : decode cL_law 732 = .ok (.aload_n 1, 1) := by decide +kernel
theorem dL_law_733 : decode cL_law 733 = .ok (.aload_n 0, 1) := by decide +kernel
theorem dL_law_734 : decode cL_law 734 = .ok (.iload 4, 2) := by decide +kernel
theorem dL_law_736 : decode cL_law 736 = .ok (.iconst 1, 1) := by decide +kernel
theorem dL_law_737 : decode cL_law 737 = .ok (.iadd, 1) := by decide +kernel
theorem dL_law_738 : decode cL_law 738 = .ok (.iaload, 1) := by decide +kernel
theorem dL_law_739 : decode cL_law 739 = .ok (.aload_n 3, 1) := by decide +kernel
theorem dL_law_740 : decode cL_law 740 = .ok (.invokestatic 119, 3) := by decide +kernel
theorem dL_law_743 : decode cL_law 743 = .ok (.istore 5, 2) := by decide +kernel
theorem dL_law_745 : decode cL_law 745 = .ok (.aload_n 2, 1) := by decide +kernel
theorem dL_law_746 : decode cL_law 746 = .ok (.aload_n 0, 1) := by decide +kernel
theorem dL_law_747 : decode cL_law 747 = .ok (.iload 4, 2) := by decide +kernel
theorem dL_law_749 : decode cL_law 749 = .ok (.iconst 1, 1) := by decide +kernel
theorem dL_law_750 : decode cL_law 750 = .ok (.iadd, 1) := by decide +kernel
theorem dL_law_751 : decode cL_law 751 = .ok (.iaload, 1) := by decide +kernel
theorem dL_law_752 : decode cL_law 752 = .ok (.invokevirtual 121, 3) := by decide +kernel
theorem dL_law_755 : decode cL_law 755 = .ok (.istore 6, 2) := by decide +kernel
theorem dL_law_757 : decode cL_law 757 = .ok (.aload_n 2, 1) := by decide +kernel
theorem dL_law_758 : decode cL_law 758 = .ok (.invokevirtual 74, 3) := by decide +kernel
theorem dL_law_761 : decode cL_law 761 = .ok (.iload 5, 2) := by decide +kernel
theorem dL_law_763 : decode cL_law 763 = .ok (.if_icmp .eq 5, 3) := by decide +kernel
theorem dL_law_766 : decode cL_law 766 = .ok (.iconst 0, 1) := by decide +kernel
theorem dL_law_767 : decode cL_law 767 = .ok (.ireturn, 1) := by decide +kernel
theorem dL_law_768 : decode cL_law 768 = .ok (.iload 5, 2) := by decide +kernel
theorem dL_law_770 : decode cL_law 770 = .ok (.ifCond .ne 22, 3) := by decide +kernel
theorem dL_law_773 : decode cL_law 773 = .ok (.aload_n 3, 1) := by decide +kernel
theorem dL_law_774 : decode cL_law 774 = .ok (.iconst 0, 1) := by decide +kernel
theorem dL_law_775 : decode cL_law 775 = .ok (.laload, 1) := by decide +kernel
theorem dL_law_776 : decode cL_law 776 = .ok (.iload 6, 2) := by decide +kernel
theorem dL_law_778 : decode cL_law 778 = .ok (.ifCond .eq 7, 3) := by decide +kernel
theorem dL_law_781 : decode cL_law 781 = .ok (.lconst 1, 1) := by decide +kernel
theorem dL_law_782 : decode cL_law 782 = .ok (.goto 4, 3) := by decide +kernel
theorem dL_law_785 : decode cL_law 785 = .ok (.lconst 0, 1) := by decide +kernel
theorem dL_law_786 : decode cL_law 786 = .ok (.lcmp, 1) := by decide +kernel
theorem dL_law_787 : decode cL_law 787 = .ok (.ifCond .eq 5, 3) := by decide +kernel
theorem dL_law_790 : decode cL_law 790 = .ok (.iconst 0, 1) := by decide +kernel
theorem dL_law_791 : decode cL_law 791 = .ok (.ireturn, 1) := by decide +kernel
theorem dL_law_792 : decode cL_law 792 = .ok (.goto 319, 3) := by decide +kernel
theorem dL_law_795 : decode cL_law 795 = .ok (.aload_n 1, 1) := by decide +kernel
theorem dL_law_796 : decode cL_law 796 = .ok (.aload_n 0, 1) := by decide +kernel
theorem dL_law_797 : decode cL_law 797 = .ok (.iload 4, 2) := by decide +kernel
theorem dL_law_799 : decode cL_law 799 = .ok (.iconst 1, 1) := by decide +kernel
theorem dL_law_800 : decode cL_law 800 = .ok (.iadd, 1) := by decide +kernel
theorem dL_law_801 : decode cL_law 801 = .ok (.iaload, 1) := by decide +kernel
theorem dL_law_802 : decode cL_law 802 = .ok (.aload_n 3, 1) := by decide +kernel
theorem dL_law_803 : decode cL_law 803 = .ok (.invokestatic 122, 3) := by decide +kernel
theorem dL_law_806 : decode cL_law 806 = .ok (.istore 5, 2) := by decide +kernel
theorem dL_law_808 : decode cL_law 808 = .ok (.aload_n 2, 1) := by decide +kernel
theorem dL_law_809 : decode cL_law 809 = .ok (.aload_n 0, 1) := by decide +kernel
theorem dL_law_810 : decode cL_law 810 = .ok (.iload 4, 2) := by decide +kernel
theorem dL_law_812 : decode cL_law 812 = .ok (.iconst 1, 1) := by decide +kernel
theorem dL_law_813 : decode cL_law 813 = .ok (.iadd, 1) := by decide +kernel
theorem dL_law_814 : decode cL_law 814 = .ok (.iaload, 1) := by decide +kernel
theorem dL_law_815 : decode cL_law 815 = .ok (.invokevirtual 124, 3) := by decide +kernel
theorem dL_law_818 : decode cL_law 818 = .ok (.istore 6, 2) := by decide +kernel
theorem dL_law_820 : decode cL_law 820 = .ok (.aload_n 2, 1) := by decide +kernel
theorem dL_law_821 : decode cL_law 821 = .ok (.invokevirtual 74, 3) := by decide +kernel
theorem dL_law_824 : decode cL_law 824 = .ok (.iload 5, 2) := by decide +kernel
theorem dL_law_826 : decode cL_law 826 = .ok (.if_icmp .eq 5, 3) := by decide +kernel
theorem dL_law_829 : decode cL_law 829 = .ok (.iconst 0, 1) := by decide +kernel
theorem dL_law_830 : decode cL_law 830 = .ok (.ireturn, 1) := by decide +kernel
theorem dL_law_831 : decode cL_law 831 = .ok (.iload 5, 2) := by decide +kernel
theorem dL_law_833 : decode cL_law 833 = .ok (.ifCond .ne 15, 3) := by decide +kernel
theorem dL_law_836 : decode cL_law 836 = .ok (.aload_n 3, 1) := by decide +kernel
theorem dL_law_837 : decode cL_law 837 = .ok (.iconst 0, 1) := by decide +kernel
theorem dL_law_838 : decode cL_law 838 = .ok (.laload, 1) := by decide +kernel
theorem dL_law_839 : decode cL_law 839 = .ok (.iload 6, 2) := by decide +kernel
theorem dL_law_841 : decode cL_law 841 = .ok (.i2l, 1) := by decide +kernel
theorem dL_law_842 : decode cL_law 842 = .ok (.lcmp, 1) := by decide +kernel
theorem dL_law_843 : decode cL_law 843 = .ok (.ifCond .eq 5, 3) := by decide +kernel
theorem dL_law_846 : decode cL_law 846 = .ok (.iconst 0, 1) := by decide +kernel
theorem dL_law_847 : decode cL_law 847 = .ok (.ireturn, 1) := by decide +kernel
theorem dL_law_848 : decode cL_law 848 = .ok (.goto 263, 3) := by decide +kernel
theorem dL_law_851 : decode cL_law 851 = .ok (.aload_n 1, 1) := by decide +kernel
theorem dL_law_852 : decode cL_law 852 = .ok (.aload_n 0, 1) := by decide +kernel
theorem dL_law_853 : decode cL_law 853 = .ok (.iload 4, 2) := by decide +kernel
theorem dL_law_855 : decode cL_law 855 = .ok (.iconst 1, 1) := by decide +kernel
theorem dL_law_856 : decode cL_law 856 = .ok (.iadd, 1) := by decide +kernel
theorem dL_law_857 : decode cL_law 857 = .ok (.iaload, 1) := by decide +kernel
theorem dL_law_858 : decode cL_law 858 = .ok (.aload_n 0, 1) := by decide +kernel
theorem dL_law_859 : decode cL_law 859 = .ok (.iload 4, 2) := by decide +kernel
theorem dL_law_861 : decode cL_law 861 = .ok (.iconst 2, 1) := by decide +kernel
theorem dL_law_862 : decode cL_law 862 = .ok (.iadd, 1) := by decide +kernel
theorem dL_law_863 : decode cL_law 863 = .ok (.iaload, 1) := by decide +kernel
theorem dL_law_864 : decode cL_law 864 = .ok (.aload_n 3, 1) := by decide +kernel
theorem dL_law_865 : decode cL_law 865 = .ok (.invokestatic 125, 3) := by decide +kernel
theorem dL_law_868 : decode cL_law 868 = .ok (.istore 5, 2) := by decide +kernel
theorem dL_law_870 : decode cL_law 870 = .ok (.aload_n 2, 1) := by decide +kernel
theorem dL_law_871 : decode cL_law 871 = .ok (.aload_n 0, 1) := by decide +kernel
theorem dL_law_872 : decode cL_law 872 = .ok (.iload 4, 2) := by decide +kernel
theorem dL_law_874 : decode cL_law 874 = .ok (.iconst 1, 1) := by decide +kernel
theorem dL_law_875 : decode cL_law 875 = .ok (.iadd, 1) := by decide +kernel
theorem dL_law_876 : decode cL_law 876 = .ok (.iaload, 1) := by decide +kernel
theorem dL_law_877 : decode cL_law 877 = .ok (.aload_n 0, 1) := by decide +kernel
theorem dL_law_878 : decode cL_law 878 = .ok (.iload 4, 2) := by decide +kernel
theorem dL_law_880 : decode cL_law 880 = .ok (.iconst 2, 1) := by decide +kernel
theorem dL_law_881 : decode cL_law 881 = .ok (.iadd, 1) := by decide +kernel
theorem dL_law_882 : decode cL_law 882 = .ok (.iaload, 1) := by decide +kernel
theorem dL_law_883 : decode cL_law 883 = .ok (.invokevirtual 127, 3) := by decide +kernel
theorem dL_law_886 : decode cL_law 886 = .ok (.istore 6, 2) := by decide +kernel
theorem dL_law_888 : decode cL_law 888 = .ok (.aload_n 2, 1) := by decide +kernel
theorem dL_law_889 : decode cL_law 889 = .ok (.invokevirtual 74, 3) := by decide +kernel
theorem dL_law_892 : decode cL_law 892 = .ok (.iload 5, 2) := by decide +kernel
theorem dL_law_894 : decode cL_law 894 = .ok (.if_icmp .eq 5, 3) := by decide +kernel
theorem dL_law_897 : decode cL_law 897 = .ok (.iconst 0, 1) := by decide +kernel
theorem dL_law_898 : decode cL_law 898 = .ok (.ireturn, 1) := by decide +kernel
theorem dL_law_899 : decode cL_law 899 = .ok (.iload 5, 2) := by decide +kernel
theorem dL_law_901 : decode cL_law 901 = .ok (.ifCond .ne 15, 3) := by decide +kernel
theorem dL_law_904 : decode cL_law 904 = .ok (.aload_n 3, 1) := by decide +kernel
theorem dL_law_905 : decode cL_law 905 = .ok (.iconst 0, 1) := by decide +kernel
theorem dL_law_906 : decode cL_law 906 = .ok (.laload, 1) := by decide +kernel
theorem dL_law_907 : decode cL_law 907 = .ok (.iload 6, 2) := by decide +kernel
theorem dL_law_909 : decode cL_law 909 = .ok (.i2l, 1) := by decide +kernel
theorem dL_law_910 : decode cL_law 910 = .ok (.lcmp, 1) := by decide +kernel
theorem dL_law_911 : decode cL_law 911 = .ok (.ifCond .eq 5, 3) := by decide +kernel
theorem dL_law_914 : decode cL_law 914 = .ok (.iconst 0, 1) := by decide +kernel
theorem dL_law_915 : decode cL_law 915 = .ok (.ireturn, 1) := by decide +kernel
theorem dL_law_916 : decode cL_law 916 = .ok (.goto 195, 3) := by decide +kernel
theorem dL_law_919 : decode cL_law 919 = .ok (.aload_n 1, 1) := by decide +kernel
theorem dL_law_920 : decode cL_law 920 = .ok (.aload_n 0, 1) := by decide +kernel
theorem dL_law_921 : decode cL_law 921 = .ok (.iload 4, 2) := by decide +kernel
theorem dL_law_923 : decode cL_law 923 = .ok (.iconst 1, 1) := by decide +kernel
theorem dL_law_924 : decode cL_law 924 = .ok (.iadd, 1) := by decide +kernel
theorem dL_law_925 : decode cL_law 925 = .ok (.iaload, 1) := by decide +kernel
theorem dL_law_926 : decode cL_law 926 = .ok (.aload_n 3, 1) := by decide +kernel
theorem dL_law_927 : decode cL_law 927 = .ok (.invokestatic 128, 3) := by decide +kernel
theorem dL_law_930 : decode cL_law 930 = .ok (.istore 5, 2) := by decide +kernel
theorem dL_law_932 : decode cL_law 932 = .ok (.aload_n 2, 1) := by decide +kernel
theorem dL_law_933 : decode cL_law 933 = .ok (.aload_n 0, 1) := by decide +kernel
theorem dL_law_934 : decode cL_law 934 = .ok (.iload 4, 2) := by decide +kernel
theorem dL_law_936 : decode cL_law 936 = .ok (.iconst 1, 1) := by decide +kernel
theorem dL_law_937 : decode cL_law 937 = .ok (.iadd, 1) := by decide +kernel
theorem dL_law_938 : decode cL_law 938 = .ok (.iaload, 1) := by decide +kernel
theorem dL_law_939 : decode cL_law 939 = .ok (.invokevirtual 130, 3) := by decide +kernel
theorem dL_law_942 : decode cL_law 942 = .ok (.istore 6, 2) := by decide +kernel
theorem dL_law_944 : decode cL_law 944 = .ok (.aload_n 2, 1) := by decide +kernel
theorem dL_law_945 : decode cL_law 945 = .ok (.invokevirtual 74, 3) := by decide +kernel
theorem dL_law_948 : decode cL_law 948 = .ok (.iload 5, 2) := by decide +kernel
theorem dL_law_950 : decode cL_law 950 = .ok (.if_icmp .eq 5, 3) := by decide +kernel
theorem dL_law_953 : decode cL_law 953 = .ok (.iconst 0, 1) := by decide +kernel
theorem dL_law_954 : decode cL_law 954 = .ok (.ireturn, 1) := by decide +kernel
theorem dL_law_955 : decode cL_law 955 = .ok (.iload 5, 2) := by decide +kernel
theorem dL_law_957 : decode cL_law 957 = .ok (.ifCond .ne 15, 3) := by decide +kernel
theorem dL_law_960 : decode cL_law 960 = .ok (.aload_n 3, 1) := by decide +kernel
theorem dL_law_961 : decode cL_law 961 = .ok (.iconst 0, 1) := by decide +kernel
theorem dL_law_962 : decode cL_law 962 = .ok (.laload, 1) := by decide +kernel
theorem dL_law_963 : decode cL_law 963 = .ok (.iload 6, 2) := by decide +kernel
theorem dL_law_965 : decode cL_law 965 = .ok (.i2l, 1) := by decide +kernel
theorem dL_law_966 : decode cL_law 966 = .ok (.lcmp, 1) := by decide +kernel
theorem dL_law_967 : decode cL_law 967 = .ok (.ifCond .eq 5, 3) := by decide +kernel
theorem dL_law_970 : decode cL_law 970 = .ok (.iconst 0, 1) := by decide +kernel
theorem dL_law_971 : decode cL_law 971 = .ok (.ireturn, 1) := by decide +kernel
theorem dL_law_972 : decode cL_law 972 = .ok (.goto 139, 3) := by decide +kernel
theorem dL_law_975 : decode cL_law 975 = .ok (.aload_n 1, 1) := by decide +kernel
theorem dL_law_976 : decode cL_law 976 = .ok (.aload_n 0, 1) := by decide +kernel
theorem dL_law_977 : decode cL_law 977 = .ok (.iload 4, 2) := by decide +kernel
theorem dL_law_979 : decode cL_law 979 = .ok (.iconst 1, 1) := by decide +kernel
theorem dL_law_980 : decode cL_law 980 = .ok (.iadd, 1) := by decide +kernel
theorem dL_law_981 : decode cL_law 981 = .ok (.iaload, 1) := by decide +kernel
theorem dL_law_982 : decode cL_law 982 = .ok (.aload_n 0, 1) := by decide +kernel
theorem dL_law_983 : decode cL_law 983 = .ok (.iload 4, 2) := by decide +kernel
theorem dL_law_985 : decode cL_law 985 = .ok (.iconst 2, 1) := by decide +kernel
theorem dL_law_986 : decode cL_law 986 = .ok (.iadd, 1) := by decide +kernel
theorem dL_law_987 : decode cL_law 987 = .ok (.iaload, 1) := by decide +kernel
theorem dL_law_988 : decode cL_law 988 = .ok (.aload_n 3, 1) := by decide +kernel
theorem dL_law_989 : decode cL_law 989 = .ok (.invokestatic 131, 3) := by decide +kernel
theorem dL_law_992 : decode cL_law 992 = .ok (.istore 5, 2) := by decide +kernel
theorem dL_law_994 : decode cL_law 994 = .ok (.aload_n 2, 1) := by decide +kernel
theorem dL_law_995 : decode cL_law 995 = .ok (.aload_n 0, 1) := by decide +kernel
theorem dL_law_996 : decode cL_law 996 = .ok (.iload 4, 2) := by decide +kernel
theorem dL_law_998 : decode cL_law 998 = .ok (.iconst 1, 1) := by decide +kernel
theorem dL_law_999 : decode cL_law 999 = .ok (.iadd, 1) := by decide +kernel
theorem dL_law_1000 : decode cL_law 1000 = .ok (.iaload, 1) := by decide +kernel
theorem dL_law_1001 : decode cL_law 1001 = .ok (.aload_n 0, 1) := by decide +kernel
theorem dL_law_1002 : decode cL_law 1002 = .ok (.iload 4, 2) := by decide +kernel
theorem dL_law_1004 : decode cL_law 1004 = .ok (.iconst 2, 1) := by decide +kernel
theorem dL_law_1005 : decode cL_law 1005 = .ok (.iadd, 1) := by decide +kernel
theorem dL_law_1006 : decode cL_law 1006 = .ok (.iaload, 1) := by decide +kernel
theorem dL_law_1007 : decode cL_law 1007 = .ok (.invokevirtual 133, 3) := by decide +kernel
theorem dL_law_1010 : decode cL_law 1010 = .ok (.istore 6, 2) := by decide +kernel
theorem dL_law_1012 : decode cL_law 1012 = .ok (.aload_n 2, 1) := by decide +kernel
theorem dL_law_1013 : decode cL_law 1013 = .ok (.invokevirtual 74, 3) := by decide +kernel
theorem dL_law_1016 : decode cL_law 1016 = .ok (.iload 5, 2) := by decide +kernel
theorem dL_law_1018 : decode cL_law 1018 = .ok (.if_icmp .eq 5, 3) := by decide +kernel
theorem dL_law_1021 : decode cL_law 1021 = .ok (.iconst 0, 1) := by decide +kernel
theorem dL_law_1022 : decode cL_law 1022 = .ok (.ireturn, 1) := by decide +kernel
theorem dL_law_1023 : decode cL_law 1023 = .ok (.iload 5, 2) := by decide +kernel
theorem dL_law_1025 : decode cL_law 1025 = .ok (.ifCond .ne 15, 3) := by decide +kernel
theorem dL_law_1028 : decode cL_law 1028 = .ok (.aload_n 3, 1) := by decide +kernel
theorem dL_law_1029 : decode cL_law 1029 = .ok (.iconst 0, 1) := by decide +kernel
theorem dL_law_1030 : decode cL_law 1030 = .ok (.laload, 1) := by decide +kernel
theorem dL_law_1031 : decode cL_law 1031 = .ok (.iload 6, 2) := by decide +kernel
theorem dL_law_1033 : decode cL_law 1033 = .ok (.i2l, 1) := by decide +kernel
theorem dL_law_1034 : decode cL_law 1034 = .ok (.lcmp, 1) := by decide +kernel
theorem dL_law_1035 : decode cL_law 1035 = .ok (.ifCond .eq 5, 3) := by decide +kernel
theorem dL_law_1038 : decode cL_law 1038 = .ok (.iconst 0, 1) := by decide +kernel
theorem dL_law_1039 : decode cL_law 1039 = .ok (.ireturn, 1) := by decide +kernel
theorem dL_law_1040 : decode cL_law 1040 = .ok (.goto 71, 3) := by decide +kernel
theorem dL_law_1043 : decode cL_law 1043 = .ok (.aload_n 1, 1) := by decide +kernel
theorem dL_law_1044 : decode cL_law 1044 = .ok (.aload_n 0, 1) := by decide +kernel
theorem dL_law_1045 : decode cL_law 1045 = .ok (.iload 4, 2) := by decide +kernel
theorem dL_law_1047 : decode cL_law 1047 = .ok (.iconst 1, 1) := by decide +kernel
theorem dL_law_1048 : decode cL_law 1048 = .ok (.iadd, 1) := by decide +kernel
theorem dL_law_1049 : decode cL_law 1049 = .ok (.iaload, 1) := by decide +kernel
theorem dL_law_1050 : decode cL_law 1050 = .ok (.aload_n 0, 1) := by decide +kernel
theorem dL_law_1051 : decode cL_law 1051 = .ok (.iload 4, 2) := by decide +kernel
theorem dL_law_1053 : decode cL_law 1053 = .ok (.iconst 2, 1) := by decide +kernel
theorem dL_law_1054 : decode cL_law 1054 = .ok (.iadd, 1) := by decide +kernel
theorem dL_law_1055 : decode cL_law 1055 = .ok (.iaload, 1) := by decide +kernel
theorem dL_law_1056 : decode cL_law 1056 = .ok (.aload_n 3, 1) := by decide +kernel
theorem dL_law_1057 : decode cL_law 1057 = .ok (.invokestatic 134, 3) := by decide +kernel
theorem dL_law_1060 : decode cL_law 1060 = .ok (.istore 5, 2) := by decide +kernel
theorem dL_law_1062 : decode cL_law 1062 = .ok (.aload_n 2, 1) := by decide +kernel
theorem dL_law_1063 : decode cL_law 1063 = .ok (.aload_n 0, 1) := by decide +kernel
theorem dL_law_1064 : decode cL_law 1064 = .ok (.iload 4, 2) := by decide +kernel
theorem dL_law_1066 : decode cL_law 1066 = .ok (.iconst 1, 1) := by decide +kernel
theorem dL_law_1067 : decode cL_law 1067 = .ok (.iadd, 1) := by decide +kernel
theorem dL_law_1068 : decode cL_law 1068 = .ok (.iaload, 1) := by decide +kernel
theorem dL_law_1069 : decode cL_law 1069 = .ok (.aload_n 0, 1) := by decide +kernel
theorem dL_law_1070 : decode cL_law 1070 = .ok (.iload 4, 2) := by decide +kernel
theorem dL_law_1072 : decode cL_law 1072 = .ok (.iconst 2, 1) := by decide +kernel
theorem dL_law_1073 : decode cL_law 1073 = .ok (.iadd, 1) := by decide +kernel
theorem dL_law_1074 : decode cL_law 1074 = .ok (.iaload, 1) := by decide +kernel
theorem dL_law_1075 : decode cL_law 1075 = .ok (.invokevirtual 136, 3) := by decide +kernel
theorem dL_law_1078 : decode cL_law 1078 = .ok (.istore 6, 2) := by decide +kernel
theorem dL_law_1080 : decode cL_law 1080 = .ok (.aload_n 2, 1) := by decide +kernel
theorem dL_law_1081 : decode cL_law 1081 = .ok (.invokevirtual 74, 3) := by decide +kernel
theorem dL_law_1084 : decode cL_law 1084 = .ok (.iload 5, 2) := by decide +kernel
theorem dL_law_1086 : decode cL_law 1086 = .ok (.if_icmp .eq 5, 3) := by decide +kernel
theorem dL_law_1089 : decode cL_law 1089 = .ok (.iconst 0, 1) := by decide +kernel
theorem dL_law_1090 : decode cL_law 1090 = .ok (.ireturn, 1) := by decide +kernel
theorem dL_law_1091 : decode cL_law 1091 = .ok (.iload 5, 2) := by decide +kernel
theorem dL_law_1093 : decode cL_law 1093 = .ok (.ifCond .ne 15, 3) := by decide +kernel
theorem dL_law_1096 : decode cL_law 1096 = .ok (.aload_n 3, 1) := by decide +kernel
theorem dL_law_1097 : decode cL_law 1097 = .ok (.iconst 0, 1) := by decide +kernel
theorem dL_law_1098 : decode cL_law 1098 = .ok (.laload, 1) := by decide +kernel
theorem dL_law_1099 : decode cL_law 1099 = .ok (.iload 6, 2) := by decide +kernel
theorem dL_law_1101 : decode cL_law 1101 = .ok (.i2l, 1) := by decide +kernel
theorem dL_law_1102 : decode cL_law 1102 = .ok (.lcmp, 1) := by decide +kernel
theorem dL_law_1103 : decode cL_law 1103 = .ok (.ifCond .eq 5, 3) := by decide +kernel
theorem dL_law_1106 : decode cL_law 1106 = .ok (.iconst 0, 1) := by decide +kernel
theorem dL_law_1107 : decode cL_law 1107 = .ok (.ireturn, 1) := by decide +kernel
theorem dL_law_1108 : decode cL_law 1108 = .ok (.goto 3, 3) := by decide +kernel
theorem dL_law_1111 : decode cL_law 1111 = .ok (.iinc 4 3, 3) := by decide +kernel
theorem dL_law_1114 : decode cL_law 1114 = .ok (.goto (-1091), 3) := by decide +kernel
theorem dL_law_1117 : decode cL_law 1117 = .ok (.iconst 1, 1) := by decide +kernel
theorem dL_law_1118 : decode cL_law 1118 = .ok (.ireturn, 1) := by decide +kernel
end
section
/-! rows of my own: numbers by their values, calls with the frame put together -/
def nF (f : Nat → Nat) : Nat → Int32 := fun i => nI (f i)
def un (f : Nat → Nat) (j y : Nat) : Nat → Nat := fun i => if i = j then y else f i
theorem upd_nF (f : Nat → Nat) (j y : Nat) : upd (nF f) j (nI y) = nF (un f j y) := by
  funext i
  by_cases h : i = j
  · simp [upd, nF, un, h]
  · simp [upd, nF, un, h]
theorem un_s (f : Nat → Nat) (j y : Nat) : un f j y j = y := by simp [un]
theorem un_n (f : Nat → Nat) {j i : Nat} (y : Nat) (h : i ≠ j) : un f j y i = f i := by simp [un, h]
section Q1
variable {p : Program} {l : Launch} {e : Env} {R : Room} {s : State} {m : MethodId} {args : Array Value} {below : List Frame} {meth : Method} {c : Code} {H : Heap} {locs : List Loc} {cells slots : Nat} {Q : State → Prop}
variable {cc : ByteArray} {pc : Nat} {ls : Array Slot} {rest : List Value} {D : va_G} {cl : List vw_C} {A : Nat → Prop} {a : Nat} {tys : List (ClassId × FieldType)} {ws : va_W} {H0 : Heap}

theorem q_top {x y : Int32} (h : x = y) (k : W p l e R s m args below meth c H locs cells slots Q (F0 m pc ls (.int y :: rest))) : W p l e R s m args below meth c H locs cells slots Q (F0 m pc ls (.int x :: rest)) := by
  subst h
  exact k
theorem q_eqI {x y : Int32} : x = y ↔ x.toInt = y.toInt := by rw [← Int32.toInt_inj]
theorem q_ltI {x y : Int32} : x < y ↔ x.toInt < y.toInt := Int32.lt_iff_toInt_lt
theorem q_leI {x y : Int32} : x ≤ y ↔ x.toInt ≤ y.toInt := Int32.le_iff_toInt_le
theorem q_0I : (0 : Int32).toInt = 0 := rfl
theorem q_icmp_eq (hexec : p.tables.exec = Jvm.exec) (hb : c.code = cc) {x y : Int32} {u v : Int} {off : Int} {tgt : Nat} (hdg : decode cc pc = .ok (.if_icmp .eq off, 3)) (ht : (pc : Int) + off = (tgt : Int)) (hu : x.toInt = u) (hv : y.toInt = v)
    (kt : u = v → W p l e R s m args below meth c H locs cells slots Q (F0 m tgt ls rest)) (kf : u ≠ v → W p l e R s m args below meth c H locs cells slots Q (F0 m (pc + 3) ls rest)) : W p l e R s m args below meth c H locs cells slots Q (F0 m pc ls (.int y :: .int x :: rest)) := by
  subst hu
  subst hv
  exact lv_icmp_eq hexec hb hdg ht (fun h => kt (by first | exact q_eqI.mp h | exact fun z => h (q_eqI.mpr z) | (have h9 := mt q_eqI.mpr h; omega))) (fun h => kf (by first | exact q_eqI.mp h | exact fun z => h (q_eqI.mpr z) | (have h9 := mt q_eqI.mpr h; omega)))
theorem q_if_eq (hexec : p.tables.exec = Jvm.exec) (hb : c.code = cc) {x : Int32} {u : Int} {off : Int} {tgt : Nat} (hdg : decode cc pc = .ok (.ifCond .eq off, 3)) (ht : (pc : Int) + off = (tgt : Int)) (hu : x.toInt = u)
    (kt : u = 0 → W p l e R s m args below meth c H locs cells slots Q (F0 m tgt ls rest)) (kf : u ≠ 0 → W p l e R s m args below meth c H locs cells slots Q (F0 m (pc + 3) ls rest)) : W p l e R s m args below meth c H locs cells slots Q (F0 m pc ls (.int x :: rest)) := by
  subst hu
  exact lv_if_eq hexec hb hdg ht (fun h => kt (by first | exact q_eqI.mp h | exact fun z => h (q_eqI.mpr z) | (have h9 := mt q_eqI.mpr h; rw [q_0I] at h9; omega))) (fun h => kf (by first | exact q_eqI.mp h | exact fun z => h (q_eqI.mpr z) | (have h9 := mt q_eqI.mpr h; rw [q_0I] at h9; omega)))
theorem q_icmp_ne (hexec : p.tables.exec = Jvm.exec) (hb : c.code = cc) {x y : Int32} {u v : Int} {off : Int} {tgt : Nat} (hdg : decode cc pc = .ok (.if_icmp .ne off, 3)) (ht : (pc : Int) + off = (tgt : Int)) (hu : x.toInt = u) (hv : y.toInt = v)
    (kt : u ≠ v → W p l e R s m args below meth c H locs cells slots Q (F0 m tgt ls rest)) (kf : u = v → W p l e R s m args below meth c H locs cells slots Q (F0 m (pc + 3) ls rest)) : W p l e R s m args below meth c H locs cells slots Q (F0 m pc ls (.int y :: .int x :: rest)) := by
  subst hu
  subst hv
  exact lv_icmp_ne hexec hb hdg ht (fun h => kt (by first | exact q_eqI.mp h | exact fun z => h (q_eqI.mpr z) | (have h9 := mt q_eqI.mpr h; omega))) (fun h => kf (by first | exact q_eqI.mp h | exact fun z => h (q_eqI.mpr z) | (have h9 := mt q_eqI.mpr h; omega)))
theorem q_if_ne (hexec : p.tables.exec = Jvm.exec) (hb : c.code = cc) {x : Int32} {u : Int} {off : Int} {tgt : Nat} (hdg : decode cc pc = .ok (.ifCond .ne off, 3)) (ht : (pc : Int) + off = (tgt : Int)) (hu : x.toInt = u)
    (kt : u ≠ 0 → W p l e R s m args below meth c H locs cells slots Q (F0 m tgt ls rest)) (kf : u = 0 → W p l e R s m args below meth c H locs cells slots Q (F0 m (pc + 3) ls rest)) : W p l e R s m args below meth c H locs cells slots Q (F0 m pc ls (.int x :: rest)) := by
  subst hu
  exact lv_if_ne hexec hb hdg ht (fun h => kt (by first | exact q_eqI.mp h | exact fun z => h (q_eqI.mpr z) | (have h9 := mt q_eqI.mpr h; rw [q_0I] at h9; omega))) (fun h => kf (by first | exact q_eqI.mp h | exact fun z => h (q_eqI.mpr z) | (have h9 := mt q_eqI.mpr h; rw [q_0I] at h9; omega)))
theorem q_icmp_lt (hexec : p.tables.exec = Jvm.exec) (hb : c.code = cc) {x y : Int32} {u v : Int} {off : Int} {tgt : Nat} (hdg : decode cc pc = .ok (.if_icmp .lt off, 3)) (ht : (pc : Int) + off = (tgt : Int)) (hu : x.toInt = u) (hv : y.toInt = v)
    (kt : u < v → W p l e R s m args below meth c H locs cells slots Q (F0 m tgt ls rest)) (kf : v ≤ u → W p l e R s m args below meth c H locs cells slots Q (F0 m (pc + 3) ls rest)) : W p l e R s m args below meth c H locs cells slots Q (F0 m pc ls (.int y :: .int x :: rest)) := by
  subst hu
  subst hv
  exact lv_icmp_lt hexec hb hdg ht (fun h => kt (by first | exact q_ltI.mp h | exact fun z => h (q_ltI.mpr z) | (have h9 := mt q_ltI.mpr h; omega))) (fun h => kf (by first | exact q_ltI.mp h | exact fun z => h (q_ltI.mpr z) | (have h9 := mt q_ltI.mpr h; omega)))
theorem q_if_lt (hexec : p.tables.exec = Jvm.exec) (hb : c.code = cc) {x : Int32} {u : Int} {off : Int} {tgt : Nat} (hdg : decode cc pc = .ok (.ifCond .lt off, 3)) (ht : (pc : Int) + off = (tgt : Int)) (hu : x.toInt = u)
    (kt : u < 0 → W p l e R s m args below meth c H locs cells slots Q (F0 m tgt ls rest)) (kf : 0 ≤ u → W p l e R s m args below meth c H locs cells slots Q (F0 m (pc + 3) ls rest)) : W p l e R s m args below meth c H locs cells slots Q (F0 m pc ls (.int x :: rest)) := by
  subst hu
  exact lv_if_lt hexec hb hdg ht (fun h => kt (by first | exact q_ltI.mp h | exact fun z => h (q_ltI.mpr z) | (have h9 := mt q_ltI.mpr h; rw [q_0I] at h9; omega))) (fun h => kf (by first | exact q_ltI.mp h | exact fun z => h (q_ltI.mpr z) | (have h9 := mt q_ltI.mpr h; rw [q_0I] at h9; omega)))
theorem q_icmp_ge (hexec : p.tables.exec = Jvm.exec) (hb : c.code = cc) {x y : Int32} {u v : Int} {off : Int} {tgt : Nat} (hdg : decode cc pc = .ok (.if_icmp .ge off, 3)) (ht : (pc : Int) + off = (tgt : Int)) (hu : x.toInt = u) (hv : y.toInt = v)
    (kt : v ≤ u → W p l e R s m args below meth c H locs cells slots Q (F0 m tgt ls rest)) (kf : u < v → W p l e R s m args below meth c H locs cells slots Q (F0 m (pc + 3) ls rest)) : W p l e R s m args below meth c H locs cells slots Q (F0 m pc ls (.int y :: .int x :: rest)) := by
  subst hu
  subst hv
  exact lv_icmp_ge hexec hb hdg ht (fun h => kt (by first | exact q_leI.mp h | exact fun z => h (q_leI.mpr z) | (have h9 := mt q_leI.mpr h; omega))) (fun h => kf (by first | exact q_leI.mp h | exact fun z => h (q_leI.mpr z) | (have h9 := mt q_leI.mpr h; omega)))
theorem q_if_ge (hexec : p.tables.exec = Jvm.exec) (hb : c.code = cc) {x : Int32} {u : Int} {off : Int} {tgt : Nat} (hdg : decode cc pc = .ok (.ifCond .ge off, 3)) (ht : (pc : Int) + off = (tgt : Int)) (hu : x.toInt = u)
    (kt : 0 ≤ u → W p l e R s m args below meth c H locs cells slots Q (F0 m tgt ls rest)) (kf : u < 0 → W p l e R s m args below meth c H locs cells slots Q (F0 m (pc + 3) ls rest)) : W p l e R s m args below meth c H locs cells slots Q (F0 m pc ls (.int x :: rest)) := by
  subst hu
  exact lv_if_ge hexec hb hdg ht (fun h => kt (by first | exact q_leI.mp h | exact fun z => h (q_leI.mpr z) | (have h9 := mt q_leI.mpr h; rw [q_0I] at h9; omega))) (fun h => kf (by first | exact q_leI.mp h | exact fun z => h (q_leI.mpr z) | (have h9 := mt q_leI.mpr h; rw [q_0I] at h9; omega)))
theorem q_icmp_gt (hexec : p.tables.exec = Jvm.exec) (hb : c.code = cc) {x y : Int32} {u v : Int} {off : Int} {tgt : Nat} (hdg : decode cc pc = .ok (.if_icmp .gt off, 3)) (ht : (pc : Int) + off = (tgt : Int)) (hu : x.toInt = u) (hv : y.toInt = v)
    (kt : v < u → W p l e R s m args below meth c H locs cells slots Q (F0 m tgt ls rest)) (kf : u ≤ v → W p l e R s m args below meth c H locs cells slots Q (F0 m (pc + 3) ls rest)) : W p l e R s m args below meth c H locs cells slots Q (F0 m pc ls (.int y :: .int x :: rest)) := by
  subst hu
  subst hv
  exact lv_icmp_gt hexec hb hdg ht (fun h => kt (by first | exact q_ltI.mp h | exact fun z => h (q_ltI.mpr z) | (have h9 := mt q_ltI.mpr h; omega))) (fun h => kf (by first | exact q_ltI.mp h | exact fun z => h (q_ltI.mpr z) | (have h9 := mt q_ltI.mpr h; omega)))
theorem q_if_gt (hexec : p.tables.exec = Jvm.exec) (hb : c.code = cc) {x : Int32} {u : Int} {off : Int} {tgt : Nat} (hdg : decode cc pc = .ok (.ifCond .gt off, 3)) (ht : (pc : Int) + off = (tgt : Int)) (hu : x.toInt = u)
    (kt : 0 < u → W p l e R s m args below meth c H locs cells slots Q (F0 m tgt ls rest)) (kf : u ≤ 0 → W p l e R s m args below meth c H locs cells slots Q (F0 m (pc + 3) ls rest)) : W p l e R s m args below meth c H locs cells slots Q (F0 m pc ls (.int x :: rest)) := by
  subst hu
  exact lv_if_gt hexec hb hdg ht (fun h => kt (by first | exact q_ltI.mp h | exact fun z => h (q_ltI.mpr z) | (have h9 := mt q_ltI.mpr h; rw [q_0I] at h9; omega))) (fun h => kf (by first | exact q_ltI.mp h | exact fun z => h (q_ltI.mpr z) | (have h9 := mt q_ltI.mpr h; rw [q_0I] at h9; omega)))
theorem q_icmp_le (hexec : p.tables.exec = Jvm.exec) (hb : c.code = cc) {x y : Int32} {u v : Int} {off : Int} {tgt : Nat} (hdg : decode cc pc = .ok (.if_icmp .le off, 3)) (ht : (pc : Int) + off = (tgt : Int)) (hu : x.toInt = u) (hv : y.toInt = v)
    (kt : u ≤ v → W p l e R s m args below meth c H locs cells slots Q (F0 m tgt ls rest)) (kf : v < u → W p l e R s m args below meth c H locs cells slots Q (F0 m (pc + 3) ls rest)) : W p l e R s m args below meth c H locs cells slots Q (F0 m pc ls (.int y :: .int x :: rest)) := by
  subst hu
  subst hv
  exact lv_icmp_le hexec hb hdg ht (fun h => kt (by first | exact q_leI.mp h | exact fun z => h (q_leI.mpr z) | (have h9 := mt q_leI.mpr h; omega))) (fun h => kf (by first | exact q_leI.mp h | exact fun z => h (q_leI.mpr z) | (have h9 := mt q_leI.mpr h; omega)))
theorem q_if_le (hexec : p.tables.exec = Jvm.exec) (hb : c.code = cc) {x : Int32} {u : Int} {off : Int} {tgt : Nat} (hdg : decode cc pc = .ok (.ifCond .le off, 3)) (ht : (pc : Int) + off = (tgt : Int)) (hu : x.toInt = u)
    (kt : u ≤ 0 → W p l e R s m args below meth c H locs cells slots Q (F0 m tgt ls rest)) (kf : 0 < u → W p l e R s m args below meth c H locs cells slots Q (F0 m (pc + 3) ls rest)) : W p l e R s m args below meth c H locs cells slots Q (F0 m pc ls (.int x :: rest)) := by
  subst hu
  exact lv_if_le hexec hb hdg ht (fun h => kt (by first | exact q_leI.mp h | exact fun z => h (q_leI.mpr z) | (have h9 := mt q_leI.mpr h; rw [q_0I] at h9; omega))) (fun h => kf (by first | exact q_leI.mp h | exact fun z => h (q_leI.mpr z) | (have h9 := mt q_leI.mpr h; rw [q_0I] at h9; omega)))
theorem q_iald (hexec : p.tables.exec = Jvm.exec) (hb : c.code = cc) (hK : va_K D cl tys s) (hP : va_P D cl ws H) (q0 t0 : Nat) {cA : ClassId} {n j : Nat} {f : Nat → Nat} (ha : ws[q0]? = some (a, .inl (cA, n, .inl (nF f)))) (ht : tys[t0]? = some (cA, .int)) (hj : j < n) (hn : n < 2 ^ 31) (hdg : decode cc pc = .ok (.iaload, 1))
    (kk : W p l e R s m args below meth c H locs cells slots Q (F0 m (pc + 1) ls (.int (nI (f j)) :: rest))) : W p l e R s m args below meth c H locs cells slots Q (F0 m pc ls (.int (nI j) :: .ref a :: rest)) := by
  refine va_iald hexec hb hK hP q0 t0 ha ht (vp_in_nI hj hn) hdg ?_
  rw [nI_clamp (by omega)]
  exact kk
theorem q_zald (hexec : p.tables.exec = Jvm.exec) (hb : c.code = cc) (hK : va_K D cl tys s) (hP : va_P D cl ws H) (q0 t0 : Nat) {cA : ClassId} {n j : Nat} {f : Nat → Nat} (ha : ws[q0]? = some (a, .inl (cA, n, .inl (nF f)))) (ht : tys[t0]? = some (cA, .boolean)) (hj : j < n) (hn : n < 2 ^ 31) (hdg : decode cc pc = .ok (.baload, 1))
    (kk : W p l e R s m args below meth c H locs cells slots Q (F0 m (pc + 1) ls (.int (nI (f j)) :: rest))) : W p l e R s m args below meth c H locs cells slots Q (F0 m pc ls (.int (nI j) :: .ref a :: rest)) := by
  refine va_zald hexec hb hK hP q0 t0 ha ht (vp_in_nI hj hn) hdg ?_
  rw [nI_clamp (by omega)]
  exact kk
theorem q_iast (hexec : p.tables.exec = Jvm.exec) (hb : c.code = cc) (hK : va_K D cl tys s) (hP : va_P D cl ws H) (hD : va_D A ws) (hS : va_S A H0 H locs) (q0 t0 : Nat) {cA : ClassId} {n j y : Nat} {f : Nat → Nat} (ha : ws[q0]? = some (a, .inl (cA, n, .inl (nF f)))) (ht : tys[t0]? = some (cA, .int)) (hj : j < n) (hn : n < 2 ^ 31) (hdg : decode cc pc = .ok (.iastore, 1))
    (kk : ∀ (H1 : Heap) (locs1 : List Loc), va_P D cl (ws.set q0 (a, .inl (cA, n, .inl (nF (un f j y))))) H1 → va_D A (ws.set q0 (a, .inl (cA, n, .inl (nF (un f j y))))) → va_S A H0 H1 locs1 → W p l e R s m args below meth c H1 locs1 cells slots Q (F0 m (pc + 1) ls rest)) : W p l e R s m args below meth c H locs cells slots Q (F0 m pc ls (.int (nI y) :: .int (nI j) :: .ref a :: rest)) := by
  refine va_iast hexec hb hK hP hD hS q0 t0 ha ht (vp_in_nI hj hn) hdg ?_
  rw [nI_clamp (by omega), upd_nF]
  exact kk
theorem q_nar (y : Nat) (h : y ≤ 1) : vp_nar .boolean (nI y) = nI y := by
  rcases (show y = 0 ∨ y = 1 by omega) with rfl | rfl <;> rfl
theorem q_narZ (y : Nat) (h : y ≤ 1) : narrow .boolean (.int (nI y)) = .int (nI y) := by
  rcases (show y = 0 ∨ y = 1 by omega) with rfl | rfl <;> rfl
theorem q_zast (hexec : p.tables.exec = Jvm.exec) (hb : c.code = cc) (hK : va_K D cl tys s) (hP : va_P D cl ws H) (hD : va_D A ws) (hS : va_S A H0 H locs) (q0 t0 : Nat) {cA : ClassId} {n j y : Nat} {f : Nat → Nat} (ha : ws[q0]? = some (a, .inl (cA, n, .inl (nF f)))) (ht : tys[t0]? = some (cA, .boolean)) (hj : j < n) (hn : n < 2 ^ 31) (hy : y ≤ 1) (hdg : decode cc pc = .ok (.bastore, 1))
    (kk : ∀ (H1 : Heap) (locs1 : List Loc), va_P D cl (ws.set q0 (a, .inl (cA, n, .inl (nF (un f j y))))) H1 → va_D A (ws.set q0 (a, .inl (cA, n, .inl (nF (un f j y))))) → va_S A H0 H1 locs1 → W p l e R s m args below meth c H1 locs1 cells slots Q (F0 m (pc + 1) ls rest)) : W p l e R s m args below meth c H locs cells slots Q (F0 m pc ls (.int (nI y) :: .int (nI j) :: .ref a :: rest)) := by
  refine va_zast hexec hb hK hP hD hS q0 t0 ha ht (vp_in_nI hj hn) hdg ?_
  rw [nI_clamp (by omega), q_nar y hy, upd_nF]
  exact kk
theorem q_aald (hexec : p.tables.exec = Jvm.exec) (hb : c.code = cc) (hK : va_K D cl tys s) (hP : va_P D cl ws H) (q0 t0 : Nat) {cA : ClassId} {n j b : Nat} {f : Nat → Option Nat} (ha : ws[q0]? = some (a, .inl (cA, n, .inr (.inr (.inr (.inr f)))))) (ht : tys[t0]? = some (cA, .array .int)) (hj : j < n) (hn : n < 2 ^ 31) (hf : f j = some b) (hdg : decode cc pc = .ok (.aaload, 1))
    (kk : W p l e R s m args below meth c H locs cells slots Q (F0 m (pc + 1) ls (.ref b :: rest))) : W p l e R s m args below meth c H locs cells slots Q (F0 m pc ls (.int (nI j) :: .ref a :: rest)) := by
  have hin : vp_in (nI j) n := vp_in_nI hj hn
  have hc : (nI j).toNatClampNeg = j := nI_clamp (by omega)
  exact W.aald (v := .ref b) (ty := .array .int) hexec hb (hP q0 _ ha) ((hK.2 t0 _ ht).1 n (fun j => va_rf (f j))) rfl (fun q => by cases q) (by show ¬ ((nI j) < 0 ∨ (arrV _ _ _).slots.size ≤ _); rw [arrV_size]; exact hin) (by show (arrV _ _ _).slots[_]? = _; rw [hc, arrV_read _ _ hj, hf]; rfl) rfl rfl hdg kk
end Q1
section Q2
variable {p : Program} {l : Launch} {e : Env} {R : Room} {s : State} {m : MethodId} {args : Array Value} {below : List Frame} {meth : Method} {c : Code} {H : Heap} {locs : List Loc} {cells slots : Nat} {Q : State → Prop}
variable {cc : ByteArray} {pc : Nat} {ls : Array Slot} {rest st0 : List Value} {D : va_G} {cl : List vw_C} {A A0 : Nat → Prop} {a : Array Value} {tys : List (ClassId × FieldType)} {H0 : Heap} {mc ms : Nat}

/-- a call that only reads -/
theorem q_csi {post : Int32 → Prop} (hr : va_Run p l e R s m args below meth c H locs cells slots 0 0 (F0 m pc ls st0) rest (vp_Si post a) (fun _ => False))
    (kk : ∀ r : Int32, post r → W p l e R s m args below meth c H locs cells slots Q (F0 m (pc + 3) ls (.int r :: rest))) : W p l e R s m args below meth c H locs cells slots Q (F0 m pc ls st0) := by
  intro T hT X
  obtain ⟨v, st₀, t, T', L, h0, X', hL, e1, -, ⟨r, hv, hp, hh⟩, st⟩ := hr T hT X
  cases hv
  obtain ⟨t2, a1, b1⟩ := kk r hp T' (by rw [e1, hh, h0]) (Stand.forget X' (fun q h => (hL q h).elim))
  exact ⟨t2, st t2 a1, b1⟩
/-- a call that writes, void: the rest stays -/
theorem q_cv {S : Type} {post : S → Prop} {ws wc wr : va_W} {w1 : S → va_W} (hr : va_Run p l e R s m args below meth c H locs cells slots mc ms (F0 m pc ls st0) rest (va_Qv post (fun u t => va_P D cl (w1 u) t.heap ∧ va_D (va_A wc H.size) (w1 u)) (va_A wc H.size) a) (va_A wc H.size))
    (hP : va_P D cl ws H) (hD : va_D A0 ws) (hS : va_S A0 H0 H locs) (hA : ∀ q, H0.size ≤ q → A0 q) (isC isR : List Nat) (hC : isC.map (fun i => ws[i]?) = wc.map some) (hR : isR.map (fun i => ws[i]?) = wr.map some) (hn : va_nd isR = true) (hdis : ∀ i ∈ isR, i ∉ isC)
    (kk : ∀ (u : S) (H1 : Heap) (locs1 : List Loc), post u → va_P D cl (wr ++ w1 u) H1 → va_D A0 (wr ++ w1 u) → va_S A0 H0 H1 locs1 → W p l e R s m args below meth c H1 locs1 (cells + mc) (slots + ms) Q (F0 m (pc + 3) ls rest)) : W p l e R s m args below meth c H locs cells slots Q (F0 m pc ls st0) := by
  have hF : ∀ q, va_A wc H.size q → A0 q := va_free hD hS hA isC hC
  refine va_callv hr hS (fun q _ h => hF q h) hF (fun u t H1 locs1 ht hvm hw hB hz1 hk1 hS1 => ?_)
  obtain ⟨hP1, hD1⟩ := hB
  rw [ht] at hP1
  obtain ⟨hP2, hD2⟩ := va_join hP hD isC isR hC hR hn hdis hk1 hF hP1 hD1
  exact kk u H1 locs1 hw hP2 hD2 hS1
/-- .. with an int -/
theorem q_ci {S : Type} {post : Int32 → S → Prop} {ws wc wr : va_W} {w1 : S → va_W} (hr : va_Run p l e R s m args below meth c H locs cells slots mc ms (F0 m pc ls st0) rest (va_Qi post (fun u t => va_P D cl (w1 u) t.heap ∧ va_D (va_A wc H.size) (w1 u)) (va_A wc H.size) a) (va_A wc H.size))
    (hP : va_P D cl ws H) (hD : va_D A0 ws) (hS : va_S A0 H0 H locs) (hA : ∀ q, H0.size ≤ q → A0 q) (isC isR : List Nat) (hC : isC.map (fun i => ws[i]?) = wc.map some) (hR : isR.map (fun i => ws[i]?) = wr.map some) (hn : va_nd isR = true) (hdis : ∀ i ∈ isR, i ∉ isC)
    (kk : ∀ (r : Int32) (u : S) (H1 : Heap) (locs1 : List Loc), post r u → va_P D cl (wr ++ w1 u) H1 → va_D A0 (wr ++ w1 u) → va_S A0 H0 H1 locs1 → W p l e R s m args below meth c H1 locs1 (cells + mc) (slots + ms) Q (F0 m (pc + 3) ls (.int r :: rest))) : W p l e R s m args below meth c H locs cells slots Q (F0 m pc ls st0) := by
  have hF : ∀ q, va_A wc H.size q → A0 q := va_free hD hS hA isC hC
  refine va_calli hr hS (fun q _ h => hF q h) hF (fun r u t H1 locs1 ht hvm hw hB hz1 hk1 hS1 => ?_)
  obtain ⟨hP1, hD1⟩ := hB
  rw [ht] at hP1
  obtain ⟨hP2, hD2⟩ := va_join hP hD isC isR hC hR hn hdis hk1 hF hP1 hD1
  exact kk r u H1 locs1 hw hP2 hD2 hS1
end Q2
/-- the words that nest mates need -/
def nestW : List Cond := [.methodLinkNest RX3 9 yX2_init "RepairSender", .fieldLinkNest RX0 23 "RepairSender$Points" "places" "[I" "RepairSender", .fieldLinkNest RX0 33 "RepairSender$Points" "values" "[I" "RepairSender", .fieldLinkNest RX3 75 "RepairSender$Points" "values" "[I" "RepairSender", .fieldLinkNest RX0 16 "RepairSender$Points" "count" "I" "RepairSender", .fieldLinkNest RX3 160 "RepairSender$Points" "count" "I" "RepairSender", .methodLinkNest RX3 38 yX0_init "RepairSender", .methodLinkNest RX3 167 yX2_clear "RepairSender", .methodLinkNest RX3 170 yX2_add "RepairSender", .methodLinkNest RX3 123 yX1_product "RepairSender", .methodLinkNest RX3 134 yX2_polynomialAt "RepairSender", .methodLinkNest RX2 26 yX1_product "RepairSender", .methodLinkNest RX2 31 yX1_inverse "RepairSender", .methodLinkNest RX3 146 yX0_write "RepairSender", .methodLinkNest RX0 27 yX1_product "RepairSender", .methodLinkNest RX3 150 yX0_solve "RepairSender", .methodLinkNest RX0 36 yX1_inverse "RepairSender", .methodLinkNest RX3 153 yX0_polynomialAt "RepairSender"]
def NK (U : State) : Prop := ∀ w ∈ nestW, va_Nw w U
theorem NK_call {U : State} (g : JFrame) (mk : MethodId) (a : Array Value) (h : NK U) : NK (U.calling g mk a) := by
  have key : ∀ w ∈ nestW, w.onTables = true := by decide +kernel
  exact fun w hw => va_Nw.same (u := U) (U := U.calling g mk a) (key w hw) rfl (h w hw)
theorem NK_warm {s U : State} (hW : s.WarmedH U.vm) (h : NK s) : NK U := by
  have key : ∀ w ∈ nestW, va_Nw w s → va_Nw w U := List.forall_mem_cons.mpr ⟨va_Nw.warmM hW, List.forall_mem_cons.mpr ⟨va_Nw.warmF hW, List.forall_mem_cons.mpr ⟨va_Nw.warmF hW, List.forall_mem_cons.mpr ⟨va_Nw.warmF hW, List.forall_mem_cons.mpr ⟨va_Nw.warmF hW, List.forall_mem_cons.mpr ⟨va_Nw.warmF hW, List.forall_mem_cons.mpr ⟨va_Nw.warmM hW, List.forall_mem_cons.mpr ⟨va_Nw.warmM hW, List.forall_mem_cons.mpr ⟨va_Nw.warmM hW, List.forall_mem_cons.mpr ⟨va_Nw.warmM hW, List.forall_mem_cons.mpr ⟨va_Nw.warmM hW, List.forall_mem_cons.mpr ⟨va_Nw.warmM hW, List.forall_mem_cons.mpr ⟨va_Nw.warmM hW, List.forall_mem_cons.mpr ⟨va_Nw.warmM hW, List.forall_mem_cons.mpr ⟨va_Nw.warmM hW, List.forall_mem_cons.mpr ⟨va_Nw.warmM hW, List.forall_mem_cons.mpr ⟨va_Nw.warmM hW, List.forall_mem_cons.mpr ⟨va_Nw.warmM hW, fun _ h => absurd h List.not_mem_nil⟩⟩⟩⟩⟩⟩⟩⟩⟩⟩⟩⟩⟩⟩⟩⟩⟩⟩
  exact fun w hw => key w hw (h w hw)
def PW (D : va_G) (tys : List (ClassId × FieldType)) (ws : va_W) (sz : Nat) (av : List Value) : Array Value → State → Prop :=
  va_Pc av (fun U => U.heap.size = sz ∧ va_P D vwCl ws U.heap ∧ va_K D vwCl tys U ∧ va_D (fun _ => True) ws ∧ NK U)
theorem PW_b {D : va_G} {tys : List (ClassId × FieldType)} {ws : va_W} {sz : Nat} {av : List Value} : FrameBlind (PW D tys ws sz av) := fun a U g mk q => by
  obtain ⟨q0, q1, qP, qK, qD, qN⟩ := q
  exact ⟨q0, q1, qP, va_K.moved (u := U) (U := U.calling g mk a) (Vm.Alike.refl U.vm) qK, qD, NK_call g mk a qN⟩
theorem PW_s {D : va_G} {tys : List (ClassId × FieldType)} {ws : va_W} {A : Nat → Prop} {s : State} {H : Heap} {As : List Value} (hP : va_P D vwCl ws H) (hK : va_K D vwCl tys s) (hD : va_D A ws) (hN : NK s) : PreS s H (PW D tys ws H.size As) As :=
  ⟨PW_b, fun U hU hW => ⟨rfl, by rw [hU], by rw [hU]; exact hP, va_K.moved hW.alike hK, hD.weaken (fun _ _ _ _ => trivial), NK_warm hW hN⟩⟩
theorem PW_v {D : va_G} {tys : List (ClassId × FieldType)} {ws : va_W} {A : Nat → Prop} {s : State} {H : Heap} {As : List Value} {b q0 ci : Nat} {q : vw_C} {fs : List Value} (hP : va_P D vwCl ws H) (hK : va_K D vwCl tys s) (hD : va_D A ws) (hN : NK s) (hc : vwCl[ci]? = some q) (he : ws[q0]? = some (b, .inr (ci, fs))) : PreV s H q.1 b (PW D tys ws H.size (.ref b :: As)) As :=
  ⟨PW_b, va_recv hK hP hc he, (PW_s hP hK hD hN).2⟩
/-- no world -/
def P0 (av : List Value) : Array Value → State → Prop := va_Pc av (fun _ => True)
theorem P0_s {s : State} {H : Heap} {As : List Value} : PreS s H (P0 As) As := ⟨fun a U g mk q => q, fun U hU hW => ⟨rfl, trivial⟩⟩
/-- what throwing needs of the machine -/
def strW : List (Nat × String) := [(103, "more than 9992 packets have been sent"), (121, "a or b is not 0 to 255"), (131, "no such packet"), (154, "losses is not 0 to 2047"), (156, "wait is not 0 to 20"), (158, "no such receiver"), (163, "no such place"), (165, "the receiver is not complete"), (49, "k is not 1 to 8"), (54, "patience is not 1 to 20"), (68, "value is not 0 to 255"), (72, "something was sent"), (87, "there are 6 receivers"), (92, "many is not 1 to 16"), (94, "more than 10000 packets would have been sent")]
def ncW : List (String × String) := [("java/lang/IllegalArgumentException", "java/lang/IllegalStateException"), ("java/lang/IllegalArgumentException", "java/lang/IndexOutOfBoundsException"), ("java/lang/IllegalStateException", "java/lang/IllegalArgumentException"), ("java/lang/IllegalStateException", "java/lang/IndexOutOfBoundsException"), ("java/lang/IndexOutOfBoundsException", "java/lang/IllegalArgumentException"), ("java/lang/IndexOutOfBoundsException", "java/lang/IllegalStateException")]
def cstW : List Cond := [.castable "java/lang/IllegalArgumentException" "java/lang/IllegalArgumentException", .castable "java/lang/IllegalStateException" "java/lang/IllegalStateException", .castable "java/lang/IndexOutOfBoundsException" "java/lang/IndexOutOfBoundsException", .declares (Bundle.initS "java/lang/RuntimeException"), .declares (Bundle.initS "java/lang/Exception"), .declares (Bundle.initS "java/lang/Throwable")]
def XK (b0 : Nat) (U : State) : Prop := vx_Zq Bundle.tN "UNASSIGNED_STACK" Bundle.steD (fun q => b0 ≤ q) U U.heap ∧ vx_Zq Bundle.tN "SUPPRESSED_SENTINEL" Bundle.listD (fun q => b0 ≤ q) U U.heap ∧ (∀ q ∈ strW, ∃ sa : Nat, vk_R RX3 q.1 q.2 sa U) ∧ (∀ q ∈ ncW, va_Nc q.1 q.2 U) ∧ (∀ w ∈ cstW, va_Nw w U)
theorem va_Nc_moved {C T : String} {u U : State} (hvm : u.vm.Alike U.vm) (h : va_Nc C T u) : va_Nc C T U := by
  obtain ⟨c, t, h1, h2, h3⟩ := h
  exact ⟨c, t, by rw [hvm.findClass]; exact h1, by rw [hvm.findClass]; exact h2, by rw [hvm.assignable]; exact h3⟩
theorem XK_call {b0 : Nat} {U : State} (g : JFrame) (mk : MethodId) (a : Array Value) (h : XK b0 U) : XK b0 (U.calling g mk a) := by
  obtain ⟨h1, h2, h3, h4, h5⟩ := h
  refine ⟨vx_Zq.moved (u := U) (U := U.calling g mk a) (Vm.Alike.refl U.vm) h1, vx_Zq.moved (u := U) (U := U.calling g mk a) (Vm.Alike.refl U.vm) h2, fun q hq => ?_, fun q hq => va_Nc_moved (u := U) (U := U.calling g mk a) (Vm.Alike.refl U.vm) (h4 q hq), fun w hw => ?_⟩
  · obtain ⟨sa, h⟩ := h3 q hq
    exact ⟨sa, vk_R.same rfl h⟩
  · have key : ∀ w ∈ cstW, w.onTables = true := by decide +kernel
    exact va_Nw.same (u := U) (U := U.calling g mk a) (key w hw) rfl (h5 w hw)
theorem XK_warm {b0 : Nat} {s U : State} (hW : s.WarmedH U.vm) (hH : ∀ q : Nat, q < s.heap.size → ¬ (b0 ≤ q) → U.heap[q]? = s.heap[q]?) (h : XK b0 s) : XK b0 U := by
  obtain ⟨h1, h2, h3, h4, h5⟩ := h
  refine ⟨vx_Zq.moved hW.alike (vx_Zq.kept h1 hH), vx_Zq.moved hW.alike (vx_Zq.kept h2 hH), fun q hq => ?_, fun q hq => va_Nc_moved hW.alike (h4 q hq), fun w hw => ?_⟩
  · obtain ⟨sa, h⟩ := h3 q hq
    exact ⟨sa, vk_R.warm hW h⟩
  · have key : ∀ w ∈ cstW, va_Nw w s → va_Nw w U := List.forall_mem_cons.mpr ⟨va_Nw.warmC hW, List.forall_mem_cons.mpr ⟨va_Nw.warmC hW, List.forall_mem_cons.mpr ⟨va_Nw.warmC hW, List.forall_mem_cons.mpr ⟨va_Nw.warmD hW, List.forall_mem_cons.mpr ⟨va_Nw.warmD hW, List.forall_mem_cons.mpr ⟨va_Nw.warmD hW, fun _ h => absurd h List.not_mem_nil⟩⟩⟩⟩⟩⟩
    exact key w hw (h5 w hw)
def PX (b0 : Nat) (D : va_G) (tys : List (ClassId × FieldType)) (ws : va_W) (sz : Nat) (av : List Value) : Array Value → State → Prop :=
  va_Pc av (fun U => U.heap.size = sz ∧ va_P D vwCl ws U.heap ∧ va_K D vwCl tys U ∧ va_D (fun _ => True) ws ∧ NK U ∧ XK b0 U)
theorem PX_b {b0 : Nat} {D : va_G} {tys : List (ClassId × FieldType)} {ws : va_W} {sz : Nat} {av : List Value} : FrameBlind (PX b0 D tys ws sz av) := fun a U g mk q => by
  obtain ⟨q0, q1, qP, qK, qD, qN, qX⟩ := q
  exact ⟨q0, q1, qP, va_K.moved (u := U) (U := U.calling g mk a) (Vm.Alike.refl U.vm) qK, qD, NK_call g mk a qN, XK_call g mk a qX⟩
theorem PX_s {b0 : Nat} {D : va_G} {tys : List (ClassId × FieldType)} {ws : va_W} {A : Nat → Prop} {s : State} {H : Heap} {As : List Value} (hP : va_P D vwCl ws H) (hK : va_K D vwCl tys s) (hD : va_D A ws) (hN : NK s) (hX : XK b0 s) (hH : ∀ q : Nat, q < s.heap.size → ¬ (b0 ≤ q) → H[q]? = s.heap[q]?) : PreS s H (PX b0 D tys ws H.size As) As :=
  ⟨PX_b, fun U hU hW => ⟨rfl, by rw [hU], by rw [hU]; exact hP, va_K.moved hW.alike hK, hD.weaken (fun _ _ _ _ => trivial), NK_warm hW hN, XK_warm hW (by rw [hU]; exact hH) hX⟩⟩
theorem PX_v {b0 : Nat} {D : va_G} {tys : List (ClassId × FieldType)} {ws : va_W} {A : Nat → Prop} {s : State} {H : Heap} {As : List Value} {b q0 ci : Nat} {q : vw_C} {fs : List Value} (hP : va_P D vwCl ws H) (hK : va_K D vwCl tys s) (hD : va_D A ws) (hN : NK s) (hX : XK b0 s) (hH : ∀ q : Nat, q < s.heap.size → ¬ (b0 ≤ q) → H[q]? = s.heap[q]?) (hc : vwCl[ci]? = some q) (he : ws[q0]? = some (b, .inr (ci, fs))) : PreV s H q.1 b (PX b0 D tys ws H.size (.ref b :: As)) As :=
  ⟨PX_b, va_recv hK hP hc he, (PX_s hP hK hD hN hX hH).2⟩
/-- no world, throwing -/
def P0X (b0 : Nat) (av : List Value) : Array Value → State → Prop := va_Pc av (fun U => XK b0 U)
theorem P0X_s {b0 : Nat} {s : State} {H : Heap} {As : List Value} (hX : XK b0 s) (hH : ∀ q : Nat, q < s.heap.size → ¬ (b0 ≤ q) → H[q]? = s.heap[q]?) : PreS s H (P0X b0 As) As :=
  ⟨fun a U g mk q => ⟨q.1, XK_call g mk a q.2⟩, fun U hU hW => ⟨rfl, XK_warm hW (by rw [hU]; exact hH) hX⟩⟩
/-- which exceptions a method may throw -/
abbrev XC (exc : String → Prop) : String → State → State → Prop := vx_X (fun _ : Unit => True) (fun E _ _ => exc E) (fun _ => False)

section Q3
variable {p : Program} {l : Launch} {e : Env} {R : Room} {s : State} {m : MethodId} {args : Array Value} {below : List Frame} {meth : Method} {c : Code} {H : Heap} {locs : List Loc} {cells slots : Nat} {Q : State → Prop}
variable {cc : ByteArray} {pc : Nat} {ls : Array Slot} {rest st0 : List Value} {D : va_G} {cl : List vw_C} {A A0 : Nat → Prop} {a : Array Value} {tys : List (ClassId × FieldType)} {H0 : Heap} {mc ms k1 k2 : Nat}

/-- a call that reads or throws; what is thrown goes on to the caller -/
theorem q_xv {post : Unit → Prop} {exc1 exc : String → Prop} {Qc : Array Value → State → Outcome → State → Prop} {free : Addr → Prop} (hr : vx_Run p l e R s m args below meth c s.heap [] cells slots k1 k2 (F0 m pc ls st0) rest (va_Sv post a) (XC exc1) (fun _ => False))
    (htab : ∀ x ∈ c.exceptionTable.toList, False) (hlocks : meth.locks = false) (he : ∀ E, exc1 E → exc E) (h1 : cells + k1 ≤ mc) (h2 : slots + k2 ≤ ms)
    (kk : post () → W p l e R s m args below meth c s.heap [] (cells + k1) (slots + k2) (vx_MQ below Qc (XC exc) args s mc ms free) (F0 m (pc + 3) ls rest)) : W p l e R s m args below meth c s.heap [] cells slots (vx_MQ below Qc (XC exc) args s mc ms free) (F0 m pc ls st0) := by
  intro T hT X
  rcases hr T hT X with ⟨v, st₀, t, T', L, h0, X', hL, e1, e2, ⟨hv, hp, hh⟩, st⟩ | ⟨q, st₀, t, T', L, E, ce, h0, X', hL, e1, e2, ⟨u, hp, hb, hF⟩, hce, hcv, hcl, st⟩
  · cases hv
    obtain ⟨t2, a1, b1⟩ := kk hp T' (by rw [e1, hh, h0]) (Stand.forget X' (fun q h => (hL q h).elim))
    exact ⟨t2, st t2 a1, b1⟩
  · have hk : ∀ q : Nat, q < s.heap.size → ¬ (fun _ => False : Nat → Prop) q → T'.heap[q]? = s.heap[q]? := fun q hq _ => by
      rw [e1, ← h0]
      exact hF.2 q (by rw [h0]; exact hq) (fun h => h)
    have hz : s.heap.size ≤ T'.heap.size := by rw [e1, ← h0]; exact hF.1
    obtain ⟨t2, a1, b1⟩ := (vx_out (Qc := Qc) (XC := XC exc) (free := free) (rest := rest) (pc := pc) (ls := ls) (fun x hx => (htab x hx).elim) hlocks (by rw [e1]; exact hce) hcv hcl (fun t9 ht9 _ => ⟨(), trivial, he E hb, by rw [ht9]; exact hz, fun q hq hn => by rw [ht9]; exact hk q hq hn⟩) (fun z hz => by cases hz) h1 h2) T' rfl (Stand.forget X' (fun q h => (hL q h).elim))
    exact ⟨t2, st.trans a1, b1⟩
/-- .. that answers an int, and writes nothing -/
theorem q_xi {post : Int32 → Prop} {exc1 exc : String → Prop} {Qc : Array Value → State → Outcome → State → Prop} {free : Addr → Prop} (hr : vx_Run p l e R s m args below meth c s.heap [] cells slots k1 k2 (F0 m pc ls st0) rest (vp_Si post a) (XC exc1) (fun _ => False))
    (htab : ∀ x ∈ c.exceptionTable.toList, False) (hlocks : meth.locks = false) (he : ∀ E, exc1 E → exc E) (h1 : cells + k1 ≤ mc) (h2 : slots + k2 ≤ ms)
    (kk : ∀ r, post r → W p l e R s m args below meth c s.heap [] (cells + k1) (slots + k2) (vx_MQ below Qc (XC exc) args s mc ms free) (F0 m (pc + 3) ls (.int r :: rest))) : W p l e R s m args below meth c s.heap [] cells slots (vx_MQ below Qc (XC exc) args s mc ms free) (F0 m pc ls st0) := by
  intro T hT X
  rcases hr T hT X with ⟨v, st₀, t, T', L, h0, X', hL, e1, e2, ⟨r, hv, hp, hh⟩, st⟩ | ⟨q, st₀, t, T', L, E, ce, h0, X', hL, e1, e2, ⟨u, hp, hb, hF⟩, hce, hcv, hcl, st⟩
  · cases hv
    obtain ⟨t2, a1, b1⟩ := kk r hp T' (by rw [e1, hh, h0]) (Stand.forget X' (fun q h => (hL q h).elim))
    exact ⟨t2, st t2 a1, b1⟩
  · have hk : ∀ q : Nat, q < s.heap.size → ¬ (fun _ => False : Nat → Prop) q → T'.heap[q]? = s.heap[q]? := fun q hq _ => by
      rw [e1, ← h0]
      exact hF.2 q (by rw [h0]; exact hq) (fun h => h)
    have hz : s.heap.size ≤ T'.heap.size := by rw [e1, ← h0]; exact hF.1
    obtain ⟨t2, a1, b1⟩ := (vx_out (Qc := Qc) (XC := XC exc) (free := free) (rest := rest) (pc := pc) (ls := ls) (fun x hx => (htab x hx).elim) hlocks (by rw [e1]; exact hce) hcv hcl (fun t9 ht9 _ => ⟨(), trivial, he E hb, by rw [ht9]; exact hz, fun q hq hn => by rw [ht9]; exact hk q hq hn⟩) (fun z hz => by cases hz) h1 h2) T' rfl (Stand.forget X' (fun q h => (hL q h).elim))
    exact ⟨t2, st.trans a1, b1⟩
theorem cstW_on : ∀ w ∈ cstW, w.onTables = true := by decide +kernel
theorem vx_fit0 : ∀ n ∈ ["java/lang/RuntimeException", "java/lang/Exception"], Bundle.fit n = true := by decide +kernel
/-- new E("text"), thrown out of this method -/
theorem q_throw (hexec : p.tables.exec = Jvm.exec) (hb : c.code = cc) (hl : l.stackTraces = false) {cls text : String} {ik is ic b0 : Nat} {exc : String → Prop} {Qc : Array Value → State → Outcome → State → Prop} {free : Addr → Prop} {Ts : List Cond}
    (hown : s.vm.findClass RX3 = some m.cls) (hcls : Bundle.fit cls = true) (hts : ∀ w ∈ Ts, w.before args s = true)
    (hk : Cond.classLink RX3 ik cls ∈ Ts) (hini : Cond.initialized cls ∈ Ts) (hX : XK b0 s) (hstr : (is, text) ∈ strW)
    (hat : ∀ w ∈ (vx_atS RX3 ic cls ["java/lang/RuntimeException", "java/lang/Exception"]).filter goodWord, w ∈ Ts) (hat2 : ∀ w ∈ (vx_atS RX3 ic cls ["java/lang/RuntimeException", "java/lang/Exception"]).filter (fun w => !goodWord w), w ∈ cstW)
    (hgood : ∀ w ∈ Cond.classLink RX3 ik cls :: Cond.initialized cls :: vx_atS RX3 ic cls ["java/lang/RuntimeException", "java/lang/Exception"], vx_ot w = true)
    (hsize : ls.size = c.maxLocals)
    (d0 : decode cc pc = .ok (.new ik, 3)) (d3 : decode cc (pc + 3) = .ok (.dup, 1)) (d4 : decode cc (pc + 4) = .ok (.ldc is, 2)) (d6 : decode cc (pc + 6) = .ok (.invokespecial ic, 3)) (d9 : decode cc (pc + 9) = .ok (.athrow, 1))
    (htab : ∀ x ∈ c.exceptionTable.toList, False) (hRframes : 5 < R.frames) (hRlocals : (rest.map fun v => v.category).sum + 82 ≤ R.locals) (hRcells : cells + 1 ≤ R.cells) (hRslots : slots + 6 ≤ R.slots) (hlocks : meth.locks = false)
    (he : exc cls) (hc : cells + 1 ≤ mc) (hs : slots + 6 ≤ ms) : W p l e R s m args below meth c s.heap [] cells slots (vx_MQ below Qc (XC exc) args s mc ms free) (F0 m pc ls rest) := by
  obtain ⟨hU, hN, hst, -, hcw⟩ := hX
  obtain ⟨sa, hsa⟩ := hst _ hstr
  exact vx_throwS (names := ["java/lang/RuntimeException", "java/lang/Exception"]) hexec hb hl hown hcls vx_fit0 (hts _ hk) (hts _ hini) hsa (vx_hat (fun w hw => hts w (hat w hw)) (B := cstW) hat2 (fun w hw => va_Nw.use (cstW_on w hw) (hcw w hw))) hgood hU hN va_S.rf hsize d0 d3 d4 d6 d9 (fun x hx => (htab x hx).elim) hRframes hRlocals hRcells hRslots hlocks (fun t _ hz hk2 => ⟨(), trivial, he, hz, fun q hq _ => hk2 q hq⟩) (fun z hz => by cases hz) hc hs
end Q3
end
section
/-! the field of 256 numbers, polynomials over it, elimination: pure facts -/
abbrev B8 : Type := BitVec 8
def bI (x : B8) : Int32 := nI x.toNat
/-- one step of the shifting -/
def gx (a : Nat) : Nat := if 255 < a * 2 then (a * 2) ^^^ 285 else a * 2
def gsh (a : Nat) : Nat → Nat
  | 0 => a
  | i + 1 => gx (gsh a i)
def gsu (a b : Nat) : Nat → Nat
  | 0 => 0
  | i + 1 => if b / 2 ^ i % 2 = 1 then gsu a b i ^^^ gsh a i else gsu a b i
/-- the product -/
def fm (a b : B8) : B8 := BitVec.ofNat 8 (gsu a.toNat b.toNat 8)
theorem gx_lt : ∀ a, a < 256 → gx a < 256 := by decide +kernel
theorem gsh_lt {a : Nat} (h : a < 256) : ∀ i, gsh a i < 256
  | 0 => h
  | i + 1 => gx_lt _ (gsh_lt h i)
theorem gsu_lt {a : Nat} (b : Nat) (h : a < 256) : ∀ i, gsu a b i < 256
  | 0 => by show (0 : Nat) < 256; decide
  | i + 1 => by
    unfold gsu
    split
    · exact Nat.xor_lt_two_pow (n := 8) (gsu_lt b h i) (gsh_lt h i)
    · exact gsu_lt b h i
theorem fm_nat (a b : B8) : (fm a b).toNat = gsu a.toNat b.toNat 8 := by
  unfold fm
  rw [BitVec.toNat_ofNat]
  exact Nat.mod_eq_of_lt (gsu_lt _ a.isLt 8)
theorem b_all {P : B8 → Prop} (h : ∀ n, n < 256 → P (BitVec.ofNat 8 n)) (b : B8) : P b := by
  have h1 := h b.toNat b.isLt
  rw [BitVec.ofNat_toNat, BitVec.setWidth_eq] at h1
  exact h1
theorem nat_xor_mod2 (a b : Nat) : (a ^^^ b) % 2 = (a % 2 + b % 2) % 2 := by
  have h1 : (a ^^^ b) % 2 = (a % 2) ^^^ (b % 2) := by
    have := Nat.xor_mod_two_pow (a := a) (b := b) (n := 1)
    simpa using this
  rw [h1]
  rcases Nat.mod_two_eq_zero_or_one a with h | h <;> rcases Nat.mod_two_eq_zero_or_one b with h2 | h2 <;> rw [h, h2] <;> rfl
theorem nat_xor_div (a b i : Nat) : (a ^^^ b) / 2 ^ i = a / 2 ^ i ^^^ b / 2 ^ i := by
  rw [← Nat.shiftRight_eq_div_pow, ← Nat.shiftRight_eq_div_pow, ← Nat.shiftRight_eq_div_pow, Nat.shiftRight_xor_distrib]
theorem nat_xor4 (a b c d : Nat) : (a ^^^ b) ^^^ (c ^^^ d) = (a ^^^ c) ^^^ (b ^^^ d) := by
  rw [Nat.xor_assoc, Nat.xor_assoc, ← Nat.xor_assoc b, Nat.xor_comm b c, Nat.xor_assoc c]
theorem gsu_addR (a b c : Nat) : ∀ i, gsu a (b ^^^ c) i = gsu a b i ^^^ gsu a c i
  | 0 => (Nat.xor_self 0).symm
  | i + 1 => by
    have ih := gsu_addR a b c i
    show (if (b ^^^ c) / 2 ^ i % 2 = 1 then gsu a (b ^^^ c) i ^^^ gsh a i else gsu a (b ^^^ c) i) = (if b / 2 ^ i % 2 = 1 then gsu a b i ^^^ gsh a i else gsu a b i) ^^^ (if c / 2 ^ i % 2 = 1 then gsu a c i ^^^ gsh a i else gsu a c i)
    rw [nat_xor_div, nat_xor_mod2, ih]
    rcases Nat.mod_two_eq_zero_or_one (b / 2 ^ i) with h | h <;> rcases Nat.mod_two_eq_zero_or_one (c / 2 ^ i) with h2 | h2 <;> rw [h, h2]
    · simp
    · simp [Nat.xor_assoc]
    · rw [if_pos (by decide), if_pos (by decide), if_neg (by decide), Nat.xor_assoc, Nat.xor_comm (gsu a c i), ← Nat.xor_assoc]
    · rw [if_neg (by decide), if_pos (by decide), if_pos (by decide), nat_xor4, Nat.xor_self, Nat.xor_zero]
theorem fm_addR (a b c : B8) : fm a (b ^^^ c) = fm a b ^^^ fm a c := by
  apply BitVec.eq_of_toNat_eq
  rw [BitVec.toNat_xor, fm_nat, fm_nat, fm_nat, BitVec.toNat_xor, gsu_addR]
/-- an additive function is known by its values at the bits -/
def bsum (f : B8 → B8) (b : B8) : B8 := (if b.toNat / 1 % 2 = 1 then f 1 else 0) ^^^ (if b.toNat / 2 % 2 = 1 then f 2 else 0) ^^^ (if b.toNat / 4 % 2 = 1 then f 4 else 0) ^^^ (if b.toNat / 8 % 2 = 1 then f 8 else 0) ^^^ (if b.toNat / 16 % 2 = 1 then f 16 else 0) ^^^ (if b.toNat / 32 % 2 = 1 then f 32 else 0) ^^^ (if b.toNat / 64 % 2 = 1 then f 64 else 0) ^^^ (if b.toNat / 128 % 2 = 1 then f 128 else 0)
theorem bsum_id : ∀ n, n < 256 → bsum (fun x => x) (BitVec.ofNat 8 n) = BitVec.ofNat 8 n := by decide +kernel
theorem add0 {f : B8 → B8} (h : ∀ a b, f (a ^^^ b) = f a ^^^ f b) : f 0 = 0 := by
  have h1 := h 0 0
  rw [BitVec.xor_self, BitVec.xor_self] at h1
  exact h1
theorem add_ite {f : B8 → B8} (h : ∀ a b, f (a ^^^ b) = f a ^^^ f b) (c : Prop) [Decidable c] (x : B8) : f (if c then x else 0) = if c then f x else 0 := by
  split
  · rfl
  · exact add0 h
theorem add_bsum {f : B8 → B8} (h : ∀ a b, f (a ^^^ b) = f a ^^^ f b) (b : B8) : f b = bsum f b := by
  have hb : bsum (fun x => x) b = b := b_all (P := fun b => bsum (fun x => x) b = b) bsum_id b
  have h1 : f (bsum (fun x => x) b) = bsum f b := by
    unfold bsum
    rw [h, h, h, h, h, h, h, add_ite h, add_ite h, add_ite h, add_ite h, add_ite h, add_ite h, add_ite h, add_ite h]
  rw [hb] at h1
  exact h1
theorem add_eq {f g : B8 → B8} (hf : ∀ a b, f (a ^^^ b) = f a ^^^ f b) (hg : ∀ a b, g (a ^^^ b) = g a ^^^ g b) (h1 : f 1 = g 1) (h2 : f 2 = g 2) (h4 : f 4 = g 4) (h8 : f 8 = g 8) (h16 : f 16 = g 16) (h32 : f 32 = g 32) (h64 : f 64 = g 64) (h128 : f 128 = g 128) (b : B8) : f b = g b := by
  rw [add_bsum hf, add_bsum hg]
  unfold bsum
  rw [h1, h2, h4, h8, h16, h32, h64, h128]
/-- the shifting as a function of the field -/
def fx (a : B8) : B8 := BitVec.ofNat 8 (gx a.toNat)
theorem fx_nat (a : B8) : (fx a).toNat = gx a.toNat := by
  unfold fx
  rw [BitVec.toNat_ofNat]
  exact Nat.mod_eq_of_lt (gx_lt _ a.isLt)
theorem fx_2 : ∀ n, n < 256 → fx (BitVec.ofNat 8 n) = fm (BitVec.ofNat 8 n) 2 := by decide +kernel
theorem fx_mul (a : B8) : fx a = fm a 2 := b_all (P := fun a => fx a = fm a 2) fx_2 a
theorem fx_bits : ∀ n, n < 256 → fx (BitVec.ofNat 8 n) = bsum fx (BitVec.ofNat 8 n) := by decide +kernel
theorem bsum_add (f : B8 → B8) (a b : B8) : bsum f (a ^^^ b) = bsum f a ^^^ bsum f b := by
  have key : ∀ (i : Nat) (x : B8), (if (a ^^^ b).toNat / 2 ^ i % 2 = 1 then x else 0) = (if a.toNat / 2 ^ i % 2 = 1 then x else 0) ^^^ (if b.toNat / 2 ^ i % 2 = 1 then x else 0) := by
    intro i x
    rw [BitVec.toNat_xor, nat_xor_div, nat_xor_mod2]
    rcases Nat.mod_two_eq_zero_or_one (a.toNat / 2 ^ i) with h | h <;> rcases Nat.mod_two_eq_zero_or_one (b.toNat / 2 ^ i) with h2 | h2 <;> rw [h, h2] <;> simp
  have x4 : ∀ a b c d : B8, (a ^^^ b) ^^^ (c ^^^ d) = (a ^^^ c) ^^^ (b ^^^ d) := by
    intro a b c d
    rw [BitVec.xor_assoc, BitVec.xor_assoc, ← BitVec.xor_assoc b, BitVec.xor_comm b c, BitVec.xor_assoc c]
  have k0 := key 0 (f 1)
  have k1 := key 1 (f 2)
  have k2 := key 2 (f 4)
  have k3 := key 3 (f 8)
  have k4 := key 4 (f 16)
  have k5 := key 5 (f 32)
  have k6 := key 6 (f 64)
  have k7 := key 7 (f 128)
  simp only [Nat.reducePow] at k0 k1 k2 k3 k4 k5 k6 k7
  unfold bsum
  rw [k0, k1, k2, k3, k4, k5, k6, k7]
  ac_rfl
theorem fx_add (a b : B8) : fx (a ^^^ b) = fx a ^^^ fx b := by
  have h : ∀ x, fx x = bsum fx x := b_all (P := fun x => fx x = bsum fx x) fx_bits
  rw [h, h a, h b, bsum_add]
theorem gsh_add {a b : Nat} (ha : a < 256) (hb : b < 256) : ∀ i, gsh (a ^^^ b) i = gsh a i ^^^ gsh b i
  | 0 => rfl
  | i + 1 => by
    have ih := gsh_add ha hb i
    have h1 := fx_add (BitVec.ofNat 8 (gsh a i)) (BitVec.ofNat 8 (gsh b i))
    have h2 := congrArg BitVec.toNat h1
    rw [BitVec.toNat_xor, fx_nat, fx_nat, fx_nat, BitVec.toNat_xor, BitVec.toNat_ofNat, BitVec.toNat_ofNat, Nat.mod_eq_of_lt (gsh_lt ha i), Nat.mod_eq_of_lt (gsh_lt hb i)] at h2
    show gx (gsh (a ^^^ b) i) = gx (gsh a i) ^^^ gx (gsh b i)
    rw [ih, h2]
theorem gsu_addL {a b : Nat} (ha : a < 256) (hb : b < 256) (c : Nat) : ∀ i, gsu (a ^^^ b) c i = gsu a c i ^^^ gsu b c i
  | 0 => (Nat.xor_self 0).symm
  | i + 1 => by
    have ih := gsu_addL ha hb c i
    show (if c / 2 ^ i % 2 = 1 then gsu (a ^^^ b) c i ^^^ gsh (a ^^^ b) i else gsu (a ^^^ b) c i) = (if c / 2 ^ i % 2 = 1 then gsu a c i ^^^ gsh a i else gsu a c i) ^^^ (if c / 2 ^ i % 2 = 1 then gsu b c i ^^^ gsh b i else gsu b c i)
    split
    · rw [ih, gsh_add ha hb, nat_xor4]
    · exact ih
theorem fm_addL (a b c : B8) : fm (a ^^^ b) c = fm a c ^^^ fm b c := by
  apply BitVec.eq_of_toNat_eq
  rw [BitVec.toNat_xor, fm_nat, fm_nat, fm_nat, BitVec.toNat_xor, gsu_addL a.isLt b.isLt]
theorem fm_c1 : ∀ n, n < 256 → (fm (BitVec.ofNat 8 n) 1 = fm 1 (BitVec.ofNat 8 n) ∧ fm (BitVec.ofNat 8 n) 2 = fm 2 (BitVec.ofNat 8 n) ∧ fm (BitVec.ofNat 8 n) 4 = fm 4 (BitVec.ofNat 8 n) ∧ fm (BitVec.ofNat 8 n) 8 = fm 8 (BitVec.ofNat 8 n) ∧ fm (BitVec.ofNat 8 n) 16 = fm 16 (BitVec.ofNat 8 n) ∧ fm (BitVec.ofNat 8 n) 32 = fm 32 (BitVec.ofNat 8 n) ∧ fm (BitVec.ofNat 8 n) 64 = fm 64 (BitVec.ofNat 8 n) ∧ fm (BitVec.ofNat 8 n) 128 = fm 128 (BitVec.ofNat 8 n)) := by decide +kernel
theorem fm_comm (a b : B8) : fm a b = fm b a := by
  obtain ⟨h1, h2, h4, h8, h16, h32, h64, h128⟩ := b_all (P := fun a => fm a 1 = fm 1 a ∧ fm a 2 = fm 2 a ∧ fm a 4 = fm 4 a ∧ fm a 8 = fm 8 a ∧ fm a 16 = fm 16 a ∧ fm a 32 = fm 32 a ∧ fm a 64 = fm 64 a ∧ fm a 128 = fm 128 a) fm_c1 a
  exact add_eq (f := fun b => fm a b) (g := fun b => fm b a) (fun x y => fm_addR a x y) (fun x y => fm_addL x y a) h1 h2 h4 h8 h16 h32 h64 h128 b
/-- x (a b) = a (x b) -/
theorem fm_a1 : ∀ n, n < 256 → (fm (BitVec.ofNat 8 n) (fx 1) = fx (fm (BitVec.ofNat 8 n) 1) ∧ fm (BitVec.ofNat 8 n) (fx 2) = fx (fm (BitVec.ofNat 8 n) 2) ∧ fm (BitVec.ofNat 8 n) (fx 4) = fx (fm (BitVec.ofNat 8 n) 4) ∧ fm (BitVec.ofNat 8 n) (fx 8) = fx (fm (BitVec.ofNat 8 n) 8) ∧ fm (BitVec.ofNat 8 n) (fx 16) = fx (fm (BitVec.ofNat 8 n) 16) ∧ fm (BitVec.ofNat 8 n) (fx 32) = fx (fm (BitVec.ofNat 8 n) 32) ∧ fm (BitVec.ofNat 8 n) (fx 64) = fx (fm (BitVec.ofNat 8 n) 64) ∧ fm (BitVec.ofNat 8 n) (fx 128) = fx (fm (BitVec.ofNat 8 n) 128)) := by decide +kernel
theorem fm_fx (a b : B8) : fm a (fx b) = fx (fm a b) := by
  obtain ⟨h1, h2, h4, h8, h16, h32, h64, h128⟩ := b_all (P := fun a => fm a (fx 1) = fx (fm a 1) ∧ fm a (fx 2) = fx (fm a 2) ∧ fm a (fx 4) = fx (fm a 4) ∧ fm a (fx 8) = fx (fm a 8) ∧ fm a (fx 16) = fx (fm a 16) ∧ fm a (fx 32) = fx (fm a 32) ∧ fm a (fx 64) = fx (fm a 64) ∧ fm a (fx 128) = fx (fm a 128)) fm_a1 a
  exact add_eq (f := fun b => fm a (fx b)) (g := fun b => fx (fm a b)) (fun x y => by rw [fx_add, fm_addR]) (fun x y => by rw [fm_addR, fx_add]) h1 h2 h4 h8 h16 h32 h64 h128 b
theorem fm_one1 : ∀ n, n < 256 → fm (BitVec.ofNat 8 n) 1 = BitVec.ofNat 8 n := by decide +kernel
theorem fm_1 (a : B8) : fm a 1 = a := b_all (P := fun a => fm a 1 = a) fm_one1 a
theorem fm_0 (a : B8) : fm a 0 = 0 := add0 (f := fun b => fm a b) (fun x y => fm_addR a x y)
theorem fm_0l (a : B8) : fm 0 a = 0 := by rw [fm_comm, fm_0]
theorem fm_1l (a : B8) : fm 1 a = a := by rw [fm_comm, fm_1]
def fxp : Nat → B8
  | 0 => 1
  | i + 1 => fx (fxp i)
theorem fm_fxp (a b : B8) : ∀ i, fm (fm a b) (fxp i) = fm a (fm b (fxp i))
  | 0 => by rw [show fxp 0 = 1 from rfl, fm_1, fm_1]
  | i + 1 => by rw [show fxp (i + 1) = fx (fxp i) from rfl, fm_fx, fm_fx, fm_fx, fm_fxp a b i]
theorem fm_assoc (a b c : B8) : fm (fm a b) c = fm a (fm b c) :=
  add_eq (f := fun c => fm (fm a b) c) (g := fun c => fm a (fm b c)) (fun x y => fm_addR _ x y) (fun x y => by rw [fm_addR, fm_addR])
    (fm_fxp a b 0) (fm_fxp a b 1) (fm_fxp a b 2) (fm_fxp a b 3) (fm_fxp a b 4) (fm_fxp a b 5) (fm_fxp a b 6) (fm_fxp a b 7) c
/-- the inverse as the class finds it: power and square -/
def fps (a : B8) : Nat → B8 × B8
  | 0 => (1, a)
  | i + 1 => (fm (fps a i).1 (fm (fps a i).2 (fps a i).2), fm (fps a i).2 (fps a i).2)
def finv (a : B8) : B8 := (fps a 7).1
theorem fm_inv1 : ∀ n, n < 256 → (BitVec.ofNat 8 n = 0 ∨ fm (BitVec.ofNat 8 n) (finv (BitVec.ofNat 8 n)) = 1) := by decide +kernel
theorem fm_inv {a : B8} (h : a ≠ 0) : fm a (finv a) = 1 := by
  rcases b_all (P := fun a => a = 0 ∨ fm a (finv a) = 1) fm_inv1 a with h1 | h1
  · exact absurd h1 h
  · exact h1
theorem fm_cancel {a b c : B8} (h : a ≠ 0) (e : fm a b = fm a c) : b = c := by
  have h1 : fm (finv a) (fm a b) = fm (finv a) (fm a c) := by rw [e]
  rw [← fm_assoc, ← fm_assoc, fm_comm (finv a), fm_inv h, fm_1l, fm_1l] at h1
  exact h1
theorem fm_ne {a b : B8} (ha : a ≠ 0) (hb : b ≠ 0) : fm a b ≠ 0 := fun h => hb (fm_cancel ha (by rw [h, fm_0]))
theorem fm_inv_un {a b : B8} (e : fm a b = 1) : b = finv a := by
  have h : a ≠ 0 := fun h => by
    rw [h, fm_0l] at e
    exact absurd e (by decide)
  exact fm_cancel h (by rw [e, fm_inv h])
theorem x_s (a : B8) : a ^^^ a = 0 := BitVec.xor_self
theorem x_z (a : B8) : a ^^^ 0 = a := BitVec.xor_zero
theorem z_x (a : B8) : 0 ^^^ a = a := BitVec.zero_xor
theorem x_eq {a b : B8} (h : a ^^^ b = 0) : a = b := by
  have h1 : (a ^^^ b) ^^^ b = 0 ^^^ b := by rw [h]
  rw [BitVec.xor_assoc, x_s, x_z, z_x] at h1
  exact h1
theorem x_ne {a b : B8} (h : a ≠ b) : a ^^^ b ≠ 0 := fun e => h (x_eq e)
theorem x4 (a b c d : B8) : (a ^^^ b) ^^^ (c ^^^ d) = (a ^^^ c) ^^^ (b ^^^ d) := by
  rw [BitVec.xor_assoc, BitVec.xor_assoc, ← BitVec.xor_assoc b, BitVec.xor_comm b c, BitVec.xor_assoc c]
end
section
/-! sums, polynomials -/
def fs (n : Nat) (g : Nat → B8) : B8 := match n with
  | 0 => 0
  | n + 1 => fs n g ^^^ g n
theorem fs_s (n : Nat) (g : Nat → B8) : fs (n + 1) g = fs n g ^^^ g n := rfl
theorem fs_congr {n : Nat} {g h : Nat → B8} (e : ∀ i, i < n → g i = h i) : fs n g = fs n h := by
  induction n with
  | zero => rfl
  | succ n ih => rw [fs_s, fs_s, ih (fun i hi => e i (by omega)), e n (by omega)]
theorem fs_add (n : Nat) (g h : Nat → B8) : fs n (fun i => g i ^^^ h i) = fs n g ^^^ fs n h := by
  induction n with
  | zero => exact (x_s 0).symm
  | succ n ih => rw [fs_s, fs_s, fs_s, ih, x4]
theorem fs_mul (n : Nat) (c : B8) (g : Nat → B8) : fs n (fun i => fm c (g i)) = fm c (fs n g) := by
  induction n with
  | zero => exact (fm_0 c).symm
  | succ n ih => rw [fs_s, fs_s, ih, fm_addR]
theorem fs_0 {n : Nat} {g : Nat → B8} (e : ∀ i, i < n → g i = 0) : fs n g = 0 := by
  induction n with
  | zero => rfl
  | succ n ih => rw [fs_s, ih (fun i hi => e i (by omega)), e n (by omega)]; rfl
theorem fs_one {n m : Nat} {g : Nat → B8} (hm : m < n) (e : ∀ i, i < n → i ≠ m → g i = 0) : fs n g = g m := by
  induction n with
  | zero => omega
  | succ n ih =>
    rw [fs_s]
    by_cases h : m = n
    · subst h
      rw [fs_0 (fun i hi => e i (by omega) (by omega)), z_x]
    · rw [ih (by omega) (fun i hi h2 => e i (by omega) h2), e n (by omega) (fun q => h q.symm), x_z]
theorem fs_swap (n m : Nat) (g : Nat → Nat → B8) : fs n (fun i => fs m (fun j => g i j)) = fs m (fun j => fs n (fun i => g i j)) := by
  induction n with
  | zero => exact (fs_0 (fun i _ => rfl)).symm
  | succ n ih =>
    rw [fs_s, ih, ← fs_add]
    rfl
theorem fs_shift (n : Nat) (g : Nat → B8) : fs (n + 1) g = g 0 ^^^ fs n (fun i => g (i + 1)) := by
  induction n with
  | zero => rw [fs_s]; exact BitVec.xor_comm _ _
  | succ n ih => rw [fs_s, ih, fs_s, BitVec.xor_assoc]
def fpw (x : B8) : Nat → B8
  | 0 => 1
  | n + 1 => fm (fpw x n) x
def sh1 (g : Nat → B8) : Nat → B8
  | 0 => 0
  | j + 1 => g j
def pe (n : Nat) (a : Nat → B8) (x : B8) : B8 := fs n (fun j => fm (a j) (fpw x j))
def IsP (n : Nat) (g : B8 → B8) : Prop := ∃ a : Nat → B8, ∀ x, g x = pe n a x
theorem IsP_mono {n m : Nat} {g : B8 → B8} (h : IsP n g) (hm : n ≤ m) : IsP m g := by
  obtain ⟨a, ha⟩ := h
  refine ⟨fun j => if j < n then a j else 0, fun x => ?_⟩
  rw [ha x]
  clear ha
  induction m with
  | zero =>
    obtain rfl : n = 0 := by omega
    rfl
  | succ m ih =>
    by_cases e : n = m + 1
    · subst e
      unfold pe
      exact fs_congr (fun i hi => by show fm (a i) _ = fm (if i < m + 1 then a i else 0) _; rw [if_pos hi])
    · rw [ih (by omega)]
      show pe m _ x = pe m _ x ^^^ fm (if m < n then a m else 0) (fpw x m)
      rw [if_neg (by omega), fm_0l, x_z]
theorem IsP_zero (n : Nat) : IsP n (fun _ => 0) := ⟨fun _ => 0, fun x => (fs_0 (fun i _ => fm_0l _)).symm⟩
theorem IsP_const (c : B8) : IsP 1 (fun _ => c) := ⟨fun _ => c, fun x => by
  show c = 0 ^^^ fm c 1
  rw [fm_1, z_x]⟩
theorem IsP_add {n : Nat} {g h : B8 → B8} (hg : IsP n g) (hh : IsP n h) : IsP n (fun x => g x ^^^ h x) := by
  obtain ⟨a, ha⟩ := hg
  obtain ⟨b, hb⟩ := hh
  refine ⟨fun j => a j ^^^ b j, fun x => ?_⟩
  show g x ^^^ h x = _
  rw [ha, hb]
  unfold pe
  rw [← fs_add]
  exact fs_congr (fun i _ => (fm_addL _ _ _).symm)
theorem IsP_smul {n : Nat} {g : B8 → B8} (c : B8) (hg : IsP n g) : IsP n (fun x => fm c (g x)) := by
  obtain ⟨a, ha⟩ := hg
  refine ⟨fun j => fm c (a j), fun x => ?_⟩
  show fm c (g x) = _
  rw [ha]
  unfold pe
  rw [← fs_mul]
  exact fs_congr (fun i _ => (fm_assoc _ _ _).symm)
theorem IsP_sum {n m : Nat} {g : Nat → B8 → B8} (h : ∀ i, i < m → IsP n (g i)) : IsP n (fun x => fs m (fun i => g i x)) := by
  induction m with
  | zero => exact IsP_zero n
  | succ m ih => exact IsP_add (ih (fun i hi => h i (by omega))) (h m (by omega))
theorem IsP_mulX {n : Nat} {g : B8 → B8} (r : B8) (hg : IsP n g) : IsP (n + 1) (fun x => fm (g x) (x ^^^ r)) := by
  obtain ⟨a, ha⟩ := hg
  have h1 : IsP (n + 1) (fun x => fm (g x) x) := by
    refine ⟨sh1 a, fun x => ?_⟩
    show fm (g x) x = _
    rw [ha]
    unfold pe
    rw [fs_shift]
    show _ = fm 0 (fpw x 0) ^^^ _
    rw [fm_0l, z_x, fm_comm, ← fs_mul]
    refine fs_congr (fun i _ => ?_)
    show fm x (fm (a i) (fpw x i)) = fm (a i) (fm (fpw x i) x)
    rw [fm_comm x, fm_assoc]
  have h2 : IsP (n + 1) (fun x => fm r (g x)) := IsP_mono (IsP_smul r ⟨a, ha⟩) (by omega)
  obtain ⟨b, hb⟩ := IsP_add h1 h2
  refine ⟨b, fun x => ?_⟩
  rw [← hb]
  show fm (g x) (x ^^^ r) = fm (g x) x ^^^ fm r (g x)
  rw [fm_addR, fm_comm r]
/-- powers: x^m + r^m = (x + r) q(x) -/
theorem pw_div (r : B8) (m : Nat) : ∃ q : B8 → B8, IsP m q ∧ ∀ x, fpw x m ^^^ fpw r m = fm (q x) (x ^^^ r) := by
  induction m with
  | zero => exact ⟨fun _ => 0, IsP_zero 0, fun x => by show (1 : B8) ^^^ 1 = _; rw [fm_0l, x_s]⟩
  | succ m ih =>
    obtain ⟨q, hq, he⟩ := ih
    refine ⟨fun x => fm (q x) x ^^^ fpw r m, IsP_add ?_ (IsP_mono (IsP_const _) (by omega)), fun x => ?_⟩
    · have h0 := IsP_mulX 0 hq
      obtain ⟨b, hb⟩ := h0
      exact ⟨b, fun x => by rw [← hb]; show fm (q x) x = fm (q x) (x ^^^ 0); rw [x_z]⟩
    · have e1 : fpw x (m + 1) ^^^ fpw r (m + 1) = fm (fpw x m ^^^ fpw r m) x ^^^ fm (fpw r m) (x ^^^ r) := by
        show fm (fpw x m) x ^^^ fm (fpw r m) r = _
        rw [fm_addL, fm_addR, BitVec.xor_assoc, ← BitVec.xor_assoc (fm (fpw r m) x), x_s, z_x]
      rw [e1, he, fm_addL]
      congr 1
      rw [fm_assoc, fm_assoc, fm_comm (x ^^^ r)]
theorem IsP_div {n : Nat} {g : B8 → B8} (r : B8) (hg : IsP (n + 1) g) (h0 : g r = 0) : ∃ h : B8 → B8, IsP n h ∧ ∀ x, g x = fm (h x) (x ^^^ r) := by
  obtain ⟨a, ha⟩ := hg
  have hq : ∀ j, ∃ q : B8 → B8, IsP j q ∧ ∀ x, fpw x j ^^^ fpw r j = fm (q x) (x ^^^ r) := fun j => pw_div r j
  refine ⟨fun x => fs (n + 1) (fun j => fm (a j) ((hq j).choose x)), IsP_sum (fun i hi => IsP_smul (a i) (IsP_mono (hq i).choose_spec.1 (by omega))), fun x => ?_⟩
  have e1 : g x = g x ^^^ g r := by rw [h0, x_z]
  rw [e1, ha, ha]
  unfold pe
  rw [← fs_add, fm_comm, ← fs_mul]
  refine fs_congr (fun j _ => ?_)
  rw [← fm_addR, (hq j).choose_spec.2 x, fm_comm (x ^^^ r), fm_assoc]
/-- a polynomial of a degree below n with n roots is 0 -/
theorem IsP_roots : ∀ (n : Nat) (g : B8 → B8) (p : Nat → B8), IsP n g → (∀ i j, i < n → j < n → p i = p j → i = j) → (∀ i, i < n → g (p i) = 0) → ∀ x, g x = 0
  | 0, g, p, hg, _, _, x => by
    obtain ⟨a, ha⟩ := hg
    rw [ha]
    rfl
  | n + 1, g, p, hg, hp, h0, x => by
    obtain ⟨h, hh, he⟩ := IsP_div (p n) hg (h0 n (by omega))
    have h1 : ∀ i, i < n → h (p i) = 0 := by
      intro i hi
      have h2 := h0 i (by omega)
      rw [he] at h2
      by_cases q : h (p i) = 0
      · exact q
      · exact absurd h2 (fm_ne q (x_ne (fun z => by have := hp i n (by omega) (by omega) z; omega)))
    rw [he, IsP_roots n h p hh (fun i j hi hj => hp i j (by omega) (by omega)) h1 x, fm_0l]
/-! the polynomial through points, as the class finds it -/
def wab (p : Nat → B8) (i : Nat) (x : B8) : Nat → B8
  | 0 => 1
  | j + 1 => if j = i then wab p i x j else fm (wab p i x j) (x ^^^ p j)
def wgt (k : Nat) (p : Nat → B8) (i : Nat) (x : B8) : B8 := fm (wab p i x k) (finv (wab p i (p i) k))
def lag (k : Nat) (p v : Nat → B8) (x : B8) : B8 := fs k (fun i => fm (v i) (wgt k p i x))
theorem wab_P (p : Nat → B8) (i : Nat) : ∀ j, IsP (if i < j then j else j + 1) (fun x => wab p i x j)
  | 0 => by rw [if_neg (by omega)]; exact IsP_const 1
  | j + 1 => by
    have ih := wab_P p i j
    show IsP _ (fun x => if j = i then wab p i x j else fm (wab p i x j) (x ^^^ p j))
    by_cases h : j = i
    · subst h
      rw [if_neg (by omega)] at ih
      rw [if_pos (by omega)]
      simpa using ih
    · simp only [if_neg h]
      have := IsP_mulX (p j) ih
      by_cases h2 : i < j
      · rw [if_pos h2] at this
        rw [if_pos (by omega)]
        exact this
      · rw [if_neg h2] at this
        rw [if_neg (by omega)]
        exact this
theorem wgt_P {k i : Nat} (p : Nat → B8) (hi : i < k) : IsP k (fun x => wgt k p i x) := by
  have h := wab_P p i k
  rw [if_pos hi] at h
  obtain ⟨b, hb⟩ := IsP_smul (finv (wab p i (p i) k)) h
  exact ⟨b, fun x => by rw [← hb]; exact fm_comm _ _⟩
theorem lag_P (k : Nat) (p v : Nat → B8) : IsP k (fun x => lag k p v x) := IsP_sum (fun i hi => IsP_smul (v i) (wgt_P p hi))
theorem wab_ne {k i : Nat} {p : Nat → B8} (hp : ∀ a b, a < k → b < k → p a = p b → a = b) (hi : i < k) : ∀ j, j ≤ k → wab p i (p i) j ≠ 0
  | 0, _ => by show (1 : B8) ≠ 0; decide
  | j + 1, hj => by
    show (if j = i then wab p i (p i) j else fm (wab p i (p i) j) (p i ^^^ p j)) ≠ 0
    split
    · exact wab_ne hp hi j (by omega)
    · rename_i h
      exact fm_ne (wab_ne hp hi j (by omega)) (x_ne (fun z => h (hp i j hi (by omega) z).symm))
theorem wab_0 {p : Nat → B8} {i m : Nat} (h : m ≠ i) : ∀ j, m < j → wab p i (p m) j = 0
  | 0, hm => by omega
  | j + 1, hm => by
    show (if j = i then wab p i (p m) j else fm (wab p i (p m) j) (p m ^^^ p j)) = 0
    by_cases e : m = j
    · subst e
      rw [if_neg h, x_s, fm_0]
    · have ih := wab_0 (p := p) h j (by omega)
      split
      · exact ih
      · rw [ih, fm_0l]
theorem wgt_at {k i m : Nat} {p : Nat → B8} (hp : ∀ a b, a < k → b < k → p a = p b → a = b) (hi : i < k) (hm : m < k) : wgt k p i (p m) = if m = i then 1 else 0 := by
  unfold wgt
  by_cases h : m = i
  · subst h
    rw [if_pos rfl]
    exact fm_inv (wab_ne hp hi k (Nat.le_refl k))
  · rw [if_neg h, wab_0 h k hm, fm_0l]
theorem lag_at {k m : Nat} {p v : Nat → B8} (hp : ∀ a b, a < k → b < k → p a = p b → a = b) (hm : m < k) : lag k p v (p m) = v m := by
  unfold lag
  rw [fs_one hm (fun i hi h => by rw [wgt_at hp hi hm, if_neg (fun q => h q.symm), fm_0]), wgt_at hp hm hm, if_pos rfl, fm_1]
/-- k points of a polynomial of a degree below k give it again -/
theorem lag_re {k : Nat} {p v : Nat → B8} {f : B8 → B8} (hf : IsP k f) (hp : ∀ a b, a < k → b < k → p a = p b → a = b) (hv : ∀ i, i < k → v i = f (p i)) (x : B8) : lag k p v x = f x := by
  have h := IsP_roots k (fun x => lag k p v x ^^^ f x) p (IsP_add (lag_P k p v) hf) hp (fun i hi => by show lag k p v (p i) ^^^ f (p i) = 0; rw [lag_at hp hi, hv i hi, x_s]) x
  exact x_eq h
theorem lag_congr {k : Nat} {p p' v v' : Nat → B8} (hp : ∀ i, i < k → p i = p' i) (hv : ∀ i, i < k → v i = v' i) (x : B8) : lag k p v x = lag k p' v' x := by
  have hw : ∀ (i : Nat) (y : B8) (j : Nat), j ≤ k → wab p i y j = wab p' i y j := by
    intro i y j
    induction j with
    | zero => intro _; rfl
    | succ j ih =>
      intro hj
      show (if j = i then wab p i y j else fm (wab p i y j) (y ^^^ p j)) = (if j = i then wab p' i y j else fm (wab p' i y j) (y ^^^ p' j))
      rw [ih (by omega), hp j (by omega)]
  unfold lag
  refine fs_congr (fun i hi => ?_)
  unfold wgt
  rw [hv i hi, hw i x k (Nat.le_refl k), hw i (p i) k (Nat.le_refl k), hp i hi]
/-! elimination -/
/-- scaling row c, then adding it to all others -/
def elS (n c : Nat) (M : Nat → Nat → B8) : Nat → Nat → B8 := fun r j => if j ≤ n then (if r = c then fm (M c j) (finv (M c c)) else if r < n then M r j ^^^ fm (fm (M c j) (finv (M c c))) (M r c) else M r j) else M r j
def elN (n : Nat) (M : Nat → Nat → B8) : Nat → Nat → Nat → B8
  | 0 => M
  | c + 1 => elS n c (elN n M c)
def dotp (n : Nat) (r q : Nat → B8) : B8 := fs n (fun j => fm (r j) (q j))
theorem dotp_scale (n : Nat) (r q : Nat → B8) (c : B8) : dotp n (fun j => fm (r j) c) q = fm c (dotp n r q) := by
  unfold dotp
  rw [← fs_mul]
  exact fs_congr (fun i _ => by show fm (fm (r i) c) (q i) = fm c (fm (r i) (q i)); rw [fm_comm (r i) c, fm_assoc])
theorem dotp_add (n : Nat) (r r' q : Nat → B8) : dotp n (fun j => r j ^^^ r' j) q = dotp n r q ^^^ dotp n r' q := by
  unfold dotp
  rw [← fs_add]
  exact fs_congr (fun i _ => fm_addL _ _ _)
theorem dotp_congr {n : Nat} {r r' q : Nat → B8} (h : ∀ j, j < n → r j = r' j) : dotp n r q = dotp n r' q := fs_congr (fun i hi => by rw [h i hi])
/-- a polynomial of degree c exactly, with head 1, and roots p 0 .. p (c - 1) -/
def rt (p : Nat → B8) : Nat → Nat → B8
  | 0 => fun j => if j = 0 then 1 else 0
  | c + 1 => fun j => sh1 (rt p c) j ^^^ fm (p c) (rt p c j)
theorem rt_hi (p : Nat → B8) : ∀ c j, c < j → rt p c j = 0
  | 0, j, h => if_neg (by omega)
  | c + 1, j, h => by
    obtain ⟨j', rfl⟩ : ∃ j', j = j' + 1 := ⟨j - 1, by omega⟩
    show rt p c j' ^^^ fm (p c) (rt p c (j' + 1)) = 0
    rw [rt_hi p c j' (by omega), rt_hi p c (j' + 1) (by omega), fm_0, x_s]
theorem rt_1 (p : Nat → B8) : ∀ c, rt p c c = 1
  | 0 => rfl
  | c + 1 => by
    show rt p c c ^^^ fm (p c) (rt p c (c + 1)) = 1
    rw [rt_1 p c, rt_hi p c (c + 1) (by omega), fm_0, x_z]
def rprod (p : Nat → B8) (x : B8) : Nat → B8
  | 0 => 1
  | c + 1 => fm (rprod p x c) (x ^^^ p c)
theorem rt_eval (p : Nat → B8) (x : B8) : ∀ (c n : Nat), c < n → pe n (rt p c) x = rprod p x c
  | 0, n, h => by
    unfold pe
    rw [fs_one (m := 0) h (fun i _ hi => by rw [show rt p 0 i = 0 from if_neg hi, fm_0l])]
    show fm 1 1 = 1
    exact fm_1 1
  | c + 1, n, h => by
    obtain ⟨n', rfl⟩ : ∃ n', n = n' + 1 := ⟨n - 1, by omega⟩
    have i1 := rt_eval p x c n' (by omega)
    have i2 := rt_eval p x c (n' + 1) (by omega)
    have e : pe (n' + 1) (rt p (c + 1)) x = fm x (pe n' (rt p c) x) ^^^ fm (p c) (pe (n' + 1) (rt p c) x) := by
      unfold pe
      rw [← fs_mul, ← fs_mul]
      have e1 : fs (n' + 1) (fun j => fm (rt p (c + 1) j) (fpw x j)) = fs (n' + 1) (fun j => fm (sh1 (rt p c) j) (fpw x j)) ^^^ fs (n' + 1) (fun j => fm (p c) (fm (rt p c j) (fpw x j))) := by
        rw [← fs_add]
        refine fs_congr (fun j _ => ?_)
        show fm (sh1 (rt p c) j ^^^ fm (p c) (rt p c j)) (fpw x j) = _
        rw [fm_addL, fm_assoc]
      rw [e1]
      congr 1
      rw [fs_shift]
      show fm 0 _ ^^^ _ = _
      rw [fm_0l, z_x]
      refine fs_congr (fun j _ => ?_)
      show fm (rt p c j) (fm (fpw x j) x) = _
      rw [fm_comm x, fm_assoc]
    rw [e, i1, i2]
    show _ = fm (rprod p x c) (x ^^^ p c)
    rw [fm_addR, fm_comm x, fm_comm (p c)]
theorem rprod_0 (p : Nat → B8) {i : Nat} : ∀ c, i < c → rprod p (p i) c = 0
  | 0, h => by omega
  | c + 1, h => by
    show fm (rprod p (p i) c) (p i ^^^ p c) = 0
    by_cases e : i = c
    · subst e
      rw [x_s, fm_0]
    · rw [rprod_0 p c (by omega), fm_0l]
theorem rprod_ne {n : Nat} {p : Nat → B8} (hp : ∀ a b, a < n → b < n → p a = p b → a = b) {m : Nat} (hm : m < n) : ∀ c, c ≤ m → rprod p (p m) c ≠ 0
  | 0, _ => by show (1 : B8) ≠ 0; decide
  | c + 1, h => fm_ne (rprod_ne hp hm c (by omega)) (x_ne (fun z => by have := hp m c hm (by omega) z; omega))
/-- what holds ahead of column c -/
def elI (n : Nat) (p a : Nat → B8) (c : Nat) (M : Nat → Nat → B8) : Prop :=
  (∀ r j, r < n → j < c → M r j = if r = j then 1 else 0) ∧ (∀ r, r < n → dotp n (M r) a = M r n) ∧
  (∀ q : Nat → B8, (∀ i, i < c → pe n q (p i) = 0) → (∀ r, r < c → dotp n (M r) q = 0) ∧ (∀ r, c ≤ r → r < n → dotp n (M r) q = pe n q (p r)))
theorem el_pivot {n c : Nat} {p a : Nat → B8} {M : Nat → Nat → B8} (hp : ∀ x y, x < n → y < n → p x = p y → x = y) (hI : elI n p a c M) (hc : c < n) : M c c ≠ 0 := by
  obtain ⟨h1, -, h3⟩ := hI
  obtain ⟨-, h4⟩ := h3 (rt p c) (fun i hi => by rw [rt_eval p _ c n hc]; exact rprod_0 p c hi)
  have e := h4 c (Nat.le_refl c) hc
  rw [rt_eval p _ c n hc] at e
  have e2 : dotp n (M c) (rt p c) = M c c := by
    unfold dotp
    rw [fs_one hc (fun i hi hne => ?_), rt_1, fm_1]
    rcases Nat.lt_or_ge i c with h | h
    · rw [h1 c i hc h, if_neg (by omega), fm_0l]
    · rw [rt_hi p c i (by omega), fm_0]
  rw [← e2, e]
  exact rprod_ne hp hc c (Nat.le_refl c)
theorem el_step {n c : Nat} {p a : Nat → B8} {M : Nat → Nat → B8} (hp : ∀ x y, x < n → y < n → p x = p y → x = y) (hI : elI n p a c M) (hc : c < n) : elI n p a (c + 1) (elS n c M) := by
  have hpv := el_pivot hp hI hc
  obtain ⟨h1, h2, h3⟩ := hI
  have rowc : ∀ j, j ≤ n → elS n c M c j = fm (M c j) (finv (M c c)) := fun j hj => by unfold elS; rw [if_pos hj, if_pos rfl]
  have rowr : ∀ r, r ≠ c → r < n → ∀ j, j ≤ n → elS n c M r j = M r j ^^^ fm (fm (M c j) (finv (M c c))) (M r c) := fun r hr hn j hj => by unfold elS; rw [if_pos hj, if_neg hr, if_pos hn]
  have dc : ∀ q, dotp n (elS n c M c) q = fm (finv (M c c)) (dotp n (M c) q) := fun q => by
    rw [dotp_congr (r' := fun j => fm (M c j) (finv (M c c))) (fun j hj => rowc j (by omega)), dotp_scale]
  have dr : ∀ r, r ≠ c → r < n → ∀ q, dotp n (elS n c M r) q = dotp n (M r) q ^^^ fm (M r c) (fm (finv (M c c)) (dotp n (M c) q)) := fun r hr hn q => by
    rw [dotp_congr (r' := fun j => M r j ^^^ fm (fm (M c j) (finv (M c c))) (M r c)) (fun j hj => rowr r hr hn j (by omega)), dotp_add, dotp_scale, dotp_scale]
  refine ⟨fun r j hr hj => ?_, fun r hr => ?_, fun q hq => ⟨fun r hr => ?_, fun r hr hn => ?_⟩⟩
  · by_cases e : r = c
    · subst e
      rw [rowc j (by omega)]
      rcases Nat.lt_or_ge j r with h | h
      · rw [h1 r j hr h, if_neg (by omega), fm_0l]
      · obtain rfl : j = r := by omega
        rw [if_pos rfl, fm_inv hpv]
    · rw [rowr r e hr j (by omega)]
      rcases Nat.lt_or_ge j c with h | h
      · rw [h1 r j hr h, h1 c j hc h, if_neg (show ¬ c = j by omega), fm_0l, fm_0l, x_z]
      · obtain rfl : j = c := by omega
        rw [if_neg e, fm_inv hpv, fm_1l, x_s]
  · by_cases e : r = c
    · subst e
      rw [dc, h2 r hr, rowc n (Nat.le_refl n), fm_comm]
    · rw [dr r e hr, h2 r hr, h2 c hc, rowr r e hr n (Nat.le_refl n), fm_comm (M r c), fm_comm (finv _)]
  · obtain ⟨g1, g2⟩ := h3 q (fun i hi => hq i (by omega))
    have hcz : dotp n (M c) q = 0 := by rw [g2 c (Nat.le_refl c) hc]; exact hq c (by omega)
    by_cases e : r = c
    · subst e
      rw [dc, hcz, fm_0]
    · rw [dr r e (by omega), g1 r (by omega), hcz, fm_0, fm_0, x_s]
  · obtain ⟨g1, g2⟩ := h3 q (fun i hi => hq i (by omega))
    have hcz : dotp n (M c) q = 0 := by rw [g2 c (Nat.le_refl c) hc]; exact hq c (by omega)
    rw [dr r (by omega) hn, g2 r (by omega) hn, hcz, fm_0, fm_0, x_z]
theorem el_all {n : Nat} {p a : Nat → B8} {M : Nat → Nat → B8} (hp : ∀ x y, x < n → y < n → p x = p y → x = y) (hI : elI n p a 0 M) : ∀ c, c ≤ n → elI n p a c (elN n M c)
  | 0, _ => hI
  | c + 1, h => el_step hp (el_all hp hI c (by omega)) (by omega)
/-- the coefficients, found by elimination over k points, are those of the polynomial -/
theorem el_sol {n : Nat} {p v a : Nat → B8} {M : Nat → Nat → B8} (hp : ∀ x y, x < n → y < n → p x = p y → x = y) (hM : ∀ r j, r < n → j < n → M r j = fpw (p r) j) (hV : ∀ r, r < n → M r n = v r) (hv : ∀ r, r < n → v r = pe n a (p r)) {r : Nat} (hr : r < n) : elN n M n r n = a r := by
  have h0 : elI n p a 0 M := by
    have hd : ∀ q r, r < n → dotp n (M r) q = pe n q (p r) := fun q r hr => by
      unfold dotp pe
      exact fs_congr (fun j hj => by rw [hM r j hr hj, fm_comm])
    exact ⟨fun r j _ hj => absurd hj (Nat.not_lt_zero _), fun r hr => by rw [hd a r hr, hV r hr, hv r hr], fun q _ => ⟨fun r hr => absurd hr (Nat.not_lt_zero _), fun r _ hn => hd q r hn⟩⟩
  obtain ⟨h1, h2, -⟩ := el_all hp h0 n (Nat.le_refl n)
  rw [← h2 r hr]
  unfold dotp
  rw [fs_one hr (fun i hi hne => by rw [h1 r i hr hi, if_neg (fun q => hne q.symm), fm_0l]), h1 r r hr hr, if_pos rfl, fm_1l]
/-- Horner's way, from the highest coefficient on: what is left are i of them -/
def hor (n : Nat) (a : Nat → B8) (x : B8) : Nat → B8
  | 0 => 0
  | i + 1 => fm (hor n a x i) x ^^^ a (n - 1 - i)
theorem hor_pe (n : Nat) (a : Nat → B8) (x : B8) : ∀ i, i ≤ n → hor n a x i = fs i (fun j => fm (a (n - i + j)) (fpw x j))
  | 0, _ => rfl
  | i + 1, h => by
    show fm (hor n a x i) x ^^^ a (n - 1 - i) = _
    rw [hor_pe n a x i (by omega), fs_shift, BitVec.xor_comm]
    congr 1
    · show a (n - 1 - i) = fm (a (n - (i + 1) + 0)) 1
      rw [fm_1]
      congr 1
      omega
    · rw [fm_comm, ← fs_mul]
      refine fs_congr (fun j _ => ?_)
      show fm x (fm (a (n - i + j)) (fpw x j)) = fm (a (n - (i + 1) + (j + 1))) (fm (fpw x j) x)
      rw [show n - (i + 1) + (j + 1) = n - i + j by omega, fm_comm x, fm_assoc]
theorem hor_all (n : Nat) (a : Nat → B8) (x : B8) : hor n a x n = pe n a x := by
  rw [hor_pe n a x n (Nat.le_refl n)]
  unfold pe
  refine fs_congr (fun j _ => ?_)
  rw [show n - n + j = j by omega]
/-! the model's way -/
def mab (k : Nat) (d0 : B8) (x : B8) (i : Nat) : Nat → B8
  | 0 => d0
  | j + 1 => if j = i then mab k d0 x i j else fm (mab k d0 x i j) (x ^^^ BitVec.ofNat 8 j)
theorem mab_wab (k : Nat) (d0 x : B8) (i : Nat) : ∀ j, mab k d0 x i j = fm d0 (wab (fun j => BitVec.ofNat 8 j) i x j)
  | 0 => (fm_1 d0).symm
  | j + 1 => by
    show (if j = i then mab k d0 x i j else fm (mab k d0 x i j) (x ^^^ BitVec.ofNat 8 j)) = fm d0 (if j = i then wab _ i x j else fm (wab _ i x j) (x ^^^ BitVec.ofNat 8 j))
    split
    · exact mab_wab k d0 x i j
    · rw [mab_wab k d0 x i j, fm_assoc]
def lagM (k : Nat) (d : Nat → B8) (x : B8) : B8 := fs k (fun i => fm (mab k (d i) x i k) (finv (mab k 1 (BitVec.ofNat 8 i) i k)))
theorem lagM_lag (k : Nat) (d : Nat → B8) (x : B8) : lagM k d x = lag k (fun j => BitVec.ofNat 8 j) d x := by
  unfold lagM lag
  refine fs_congr (fun i _ => ?_)
  unfold wgt
  rw [mab_wab, mab_wab, fm_1l, fm_assoc]
theorem ofn_inj {k : Nat} (hk : k ≤ 256) : ∀ a b, a < k → b < k → BitVec.ofNat 8 a = BitVec.ofNat 8 b → a = b := by
  intro a b ha hb h
  have h1 := congrArg BitVec.toNat h
  rw [BitVec.toNat_ofNat, BitVec.toNat_ofNat, Nat.mod_eq_of_lt (by omega), Nat.mod_eq_of_lt (by omega)] at h1
  exact h1
/-- the class's packets are the model's -/
theorem lag_packet {k : Nat} (hk : k ≤ 8) (d : Nat → B8) (x : Nat) : lag k (fun j => BitVec.ofNat 8 j) d (BitVec.ofNat 8 x) = if x < k then d x else lagM k d (BitVec.ofNat 8 x) := by
  split
  · rename_i h
    exact lag_at (p := fun j => BitVec.ofNat 8 j) (ofn_inj (by omega)) h
  · exact (lagM_lag k d _).symm
/-- k packets give the data, by the polynomial through them -/
theorem lag_back {k : Nat} (hk : k ≤ 8) {d : Nat → B8} {p v : Nat → B8} (hp : ∀ a b, a < k → b < k → p a = p b → a = b) (hv : ∀ i, i < k → v i = lag k (fun j => BitVec.ofNat 8 j) d (p i)) {x : Nat} (hx : x < k) : lag k p v (BitVec.ofNat 8 x) = d x := by
  rw [lag_re (lag_P k (fun j => BitVec.ofNat 8 j) d) hp hv]
  exact lag_at (p := fun j => BitVec.ofNat 8 j) (ofn_inj (by omega)) hx
/-- .. by elimination -/
theorem el_back {k : Nat} (hk : k ≤ 8) {d : Nat → B8} {p v : Nat → B8} {M : Nat → Nat → B8} (hp : ∀ a b, a < k → b < k → p a = p b → a = b) (hv : ∀ i, i < k → v i = lag k (fun j => BitVec.ofNat 8 j) d (p i)) (hM : ∀ r j, r < k → j < k → M r j = fpw (p r) j) (hV : ∀ r, r < k → M r k = v r) {x : Nat} (hx : x < k) : hor k (fun r => elN k M k r k) (BitVec.ofNat 8 x) k = d x := by
  obtain ⟨a, ha⟩ := lag_P k (fun j => BitVec.ofNat 8 j) d
  have e : ∀ r, r < k → elN k M k r k = a r := fun r hr => el_sol hp hM hV (fun i hi => by rw [hv i hi]; exact ha (p i)) hr
  rw [hor_all]
  have e2 : pe k (fun r => elN k M k r k) (BitVec.ofNat 8 x) = pe k a (BitVec.ofNat 8 x) := by
    unfold pe
    exact fs_congr (fun j hj => by show fm (elN k M k j k) _ = _; rw [e j hj])
  rw [e2, ← ha]
  exact lag_at (p := fun j => BitVec.ofNat 8 j) (ofn_inj (by omega)) hx
end
section
/-! numbers: what the machine's operations are on them -/
theorem nI_bv (n : Nat) : (nI n).toBitVec = BitVec.ofNat 32 n := rfl
theorem i_inj {x y : Int32} (h : x.toBitVec = y.toBitVec) : x = y := Int32.toBitVec_inj.mp h
theorem nI_xor (a b : Nat) : nI a ^^^ nI b = nI (a ^^^ b) := i_inj (by
  show (nI a).toBitVec ^^^ (nI b).toBitVec = BitVec.ofNat 32 (a ^^^ b)
  rw [nI_bv, nI_bv]
  apply BitVec.eq_of_toNat_eq
  simp [Nat.xor_mod_two_pow])
theorem nI_and (a b : Nat) : nI a &&& nI b = nI (a &&& b) := i_inj (by
  show (nI a).toBitVec &&& (nI b).toBitVec = BitVec.ofNat 32 (a &&& b)
  rw [nI_bv, nI_bv]
  apply BitVec.eq_of_toNat_eq
  simp [Nat.and_mod_two_pow])
theorem nI_or (a b : Nat) : nI a ||| nI b = nI (a ||| b) := i_inj (by
  show (nI a).toBitVec ||| (nI b).toBitVec = BitVec.ofNat 32 (a ||| b)
  rw [nI_bv, nI_bv]
  apply BitVec.eq_of_toNat_eq
  simp [Nat.or_mod_two_pow])
theorem nI_and1 (a : Nat) : nI a &&& nI 1 = nI (a % 2) := by rw [nI_and, Nat.and_one_is_mod]
theorem nI_s31 : ∀ k, k < 32 → ((nI k &&& 31).toBitVec.smod 32).toNat = k := by decide +kernel
theorem nI_shl {n k : Nat} (hk : k < 32) (h : n * 2 ^ k < 2 ^ 32) : nI n <<< (nI k &&& 31) = nI (n * 2 ^ k) := pk_shlN _ k (nI_s31 k hk) h
theorem nI_shl1 {n : Nat} (h : n < 2 ^ 31) : nI n <<< (nI 1 &&& 31) = nI (n * 2) := by
  have := nI_shl (n := n) (k := 1) (by decide) (by omega)
  rw [this]
theorem nI_shl2 {k : Nat} (hk : k < 31) : nI 1 <<< (nI k &&& 31) = nI (2 ^ k) := by
  have h2 : (2 : Nat) ^ k ≤ 2 ^ 30 := Nat.pow_le_pow_right (by decide) (by omega)
  have := nI_shl (n := 1) (k := k) (by omega) (by omega)
  rw [this, Nat.one_mul]
theorem nI_shr {n k : Nat} (hn : n < 2 ^ 31) (hk : k < 32) : nI n >>> (nI k &&& 31) = nI (n / 2 ^ k) := pk_shrN hn _ k (nI_s31 k hk)
theorem nI_u31 : ∀ k, k < 32 → (((nI k).toUInt32 &&& Int32.toUInt32 31).toBitVec % 32).toNat = k := by decide +kernel
theorem nI_ushr {n k : Nat} (hn : n < 2 ^ 32) (hk : k < 32) : ((nI n).toUInt32 >>> ((nI k).toUInt32 &&& Int32.toUInt32 31)).toInt32 = nI (n / 2 ^ k) := pk_ushrN hn _ k (nI_u31 k hk)
theorem bI_lt (x : B8) : x.toNat < 256 := x.isLt
theorem bI_toInt (x : B8) : (bI x).toInt = ((x.toNat : Nat) : Int) := nI_toInt (by have := x.isLt; omega)
theorem bI_xor (x y : B8) : bI x ^^^ bI y = bI (x ^^^ y) := by
  unfold bI
  rw [nI_xor, BitVec.toNat_xor]
theorem bI_of {n : Nat} (h : n < 256) : nI n = bI (BitVec.ofNat 8 n) := by
  unfold bI
  rw [BitVec.toNat_ofNat, Nat.mod_eq_of_lt (by omega)]
theorem bI_inj {x y : B8} (h : bI x = bI y) : x = y := by
  have h1 := congrArg Int32.toInt h
  rw [bI_toInt, bI_toInt] at h1
  exact BitVec.eq_of_toNat_eq (by omega)
def bF (f : Nat → B8) : Nat → Int32 := fun i => bI (f i)
def ub (f : Nat → B8) (j : Nat) (y : B8) : Nat → B8 := fun i => if i = j then y else f i
def um (M : Nat → Nat → B8) (r : Nat) (g : Nat → B8) : Nat → Nat → B8 := fun i => if i = r then g else M i
theorem bF_nF (f : Nat → B8) : bF f = nF (fun i => (f i).toNat) := rfl
theorem upd_bF (f : Nat → B8) (j : Nat) (y : B8) : upd (bF f) j (bI y) = bF (ub f j y) := by
  funext i
  by_cases h : i = j
  · simp [upd, bF, ub, h]
  · simp [upd, bF, ub, h]
theorem ub_s (f : Nat → B8) (j : Nat) (y : B8) : ub f j y j = y := by simp [ub]
theorem ub_n (f : Nat → B8) {j i : Nat} (y : B8) (h : i ≠ j) : ub f j y i = f i := by simp [ub, h]
abbrev TY (cI cZ cQ cL : ClassId) : List (ClassId × FieldType) := [(cI, .int), (cZ, .boolean), (cQ, .array .int), (cL, .long)]
abbrev QV {S : Type} (D : va_G) (A : Nat → Prop) (post : S → Prop) (w1 : S → va_W) : Array Value → State → Outcome → State → Prop := va_Qv post (fun u t => va_P D vwCl (w1 u) t.heap ∧ va_D A (w1 u)) A
abbrev QI {S : Type} (D : va_G) (A : Nat → Prop) (post : Int32 → S → Prop) (w1 : S → va_W) : Array Value → State → Outcome → State → Prop := va_Qi post (fun u t => va_P D vwCl (w1 u) t.heap ∧ va_D A (w1 u)) A
/-! the worlds -/
abbrev wPt (cI : ClassId) (a0 a1 a2 n : Nat) (p v : Nat → B8) : va_W := [(a0, .inr (1, [.ref a1, .ref a2, .int (nI n)])), (a1, .inl (cI, 8, .inl (bF p))), (a2, .inl (cI, 8, .inl (bF v)))]
def eqR (cI : ClassId) (ra : Nat → Nat) (M : Nat → Nat → B8) : va_W := (List.range 8).map (fun r => (ra r, .inl (cI, 9, .inl (bF (M r)))))
abbrev wEq (cI cQ : ClassId) (a0 a1 : Nat) (ra : Nat → Nat) (n : Nat) (M : Nat → Nat → B8) : va_W := [(a0, .inr (0, [.ref a1, .int (nI n)])), (a1, .inl (cQ, 8, .inr (.inr (.inr (.inr (fun i => if i < 8 then some (ra i) else none))))))] ++ eqR cI ra M
abbrev wEP (cI cQ : ClassId) (a0 a1 : Nat) (ra : Nat → Nat) (b0 b1 b2 pn : Nat) (pp pv : Nat → B8) (n : Nat) (M : Nat → Nat → B8) : va_W := [(b0, .inr (1, [.ref b1, .ref b2, .int (nI pn)])), (b1, .inl (cI, 8, .inl (bF pp))), (b2, .inl (cI, 8, .inl (bF pv))), (a0, .inr (0, [.ref a1, .int (nI n)])), (a1, .inl (cQ, 8, .inr (.inr (.inr (.inr (fun i => if i < 8 then some (ra i) else none))))))] ++ eqR cI ra M
abbrev wA (cI cZ : ClassId) (ad : Nat → Nat) (pat sent rep kept rc : Nat) (los wai set bad gon : Nat → Nat) (bk : Nat) (bp bv : Nat → B8) : va_W := [(ad 0, .inr (2, [.ref (ad 6), .int (nI pat), .int (nI sent), .int (nI rep), .int (nI kept), .int (nI rc), .ref (ad 1), .ref (ad 2), .ref (ad 3), .ref (ad 4), .ref (ad 5), .ref (ad 9), .ref (ad 12)])),
  (ad 1, .inl (cI, 6, .inl (nF los))), (ad 2, .inl (cI, 6, .inl (nF wai))), (ad 3, .inl (cI, 6, .inl (nF set))), (ad 4, .inl (cI, 6, .inl (nF bad))), (ad 5, .inl (cZ, 6, .inl (nF gon))),
  (ad 6, .inr (1, [.ref (ad 7), .ref (ad 8), .int (nI bk)])), (ad 7, .inl (cI, 8, .inl (bF bp))), (ad 8, .inl (cI, 8, .inl (bF bv)))]
abbrev wF (cI cZ cQ : ClassId) (ad : Nat → Nat) (pat sent rep kept rc : Nat) (los wai set bad gon : Nat → Nat) (bk : Nat) (bp bv : Nat → B8) (ck : Nat) (cp cv : Nat → B8) (ek : Nat) (em : Nat → Nat → B8) : va_W := [(ad 0, .inr (2, [.ref (ad 6), .int (nI pat), .int (nI sent), .int (nI rep), .int (nI kept), .int (nI rc), .ref (ad 1), .ref (ad 2), .ref (ad 3), .ref (ad 4), .ref (ad 5), .ref (ad 9), .ref (ad 12)])),
  (ad 1, .inl (cI, 6, .inl (nF los))), (ad 2, .inl (cI, 6, .inl (nF wai))), (ad 3, .inl (cI, 6, .inl (nF set))), (ad 4, .inl (cI, 6, .inl (nF bad))), (ad 5, .inl (cZ, 6, .inl (nF gon))),
  (ad 6, .inr (1, [.ref (ad 7), .ref (ad 8), .int (nI bk)])), (ad 7, .inl (cI, 8, .inl (bF bp))), (ad 8, .inl (cI, 8, .inl (bF bv))),
  (ad 9, .inr (1, [.ref (ad 10), .ref (ad 11), .int (nI ck)])), (ad 10, .inl (cI, 8, .inl (bF cp))), (ad 11, .inl (cI, 8, .inl (bF cv))),
  (ad 12, .inr (0, [.ref (ad 13), .int (nI ek)])), (ad 13, .inl (cQ, 8, .inr (.inr (.inr (.inr (fun i => if i < 8 then some (ad (14 + i)) else none))))))] ++ eqR cI (fun i => ad (14 + i)) em
abbrev wM (cI cZ : ClassId) (am : Nat → Nat) (k pat : Nat) (dat : Nat → B8) (sent rc : Nat) (los wai set bad gon : Nat → Nat) (rep sil thr : Nat) (na : Nat → Nat) : va_W := [(am 0, .inr (3, [.int (nI k), .int (nI pat), .ref (am 1), .int (nI sent), .int (nI rc), .ref (am 2), .ref (am 3), .ref (am 4), .ref (am 5), .ref (am 6), .int (nI rep), .int (nI sil), .int (nI thr), .ref (am 7)])),
  (am 1, .inl (cI, 8, .inl (bF dat))), (am 2, .inl (cI, 6, .inl (nF los))), (am 3, .inl (cI, 6, .inl (nF wai))), (am 4, .inl (cI, 6, .inl (nF set))), (am 5, .inl (cI, 6, .inl (nF bad))), (am 6, .inl (cZ, 6, .inl (nF gon))), (am 7, .inl (cI, 6, .inl (nF na)))]
theorem eq_row {X : va_W} {cI : ClassId} {ra : Nat → Nat} {M : Nat → Nat → B8} {r : Nat} (h : r < 8) : (X ++ eqR cI ra M)[X.length + r]? = some (ra r, .inl (cI, 9, .inl (bF (M r)))) := by
  rw [List.getElem?_append_right (by omega), Nat.add_sub_cancel_left]
  simp [eqR, h]
theorem eq_set {X : va_W} {cI : ClassId} {ra : Nat → Nat} {M : Nat → Nat → B8} {r : Nat} {g : Nat → B8} (h : r < 8) : (X ++ eqR cI ra M).set (X.length + r) (ra r, .inl (cI, 9, .inl (bF g))) = X ++ eqR cI ra (um M r g) := by
  rw [List.set_append_right _ _ (by omega), Nat.add_sub_cancel_left]
  congr 1
  apply List.ext_getElem?
  intro i
  rw [List.getElem?_set]
  by_cases e : r = i
  · subst e
    rw [if_pos rfl]
    simp [eqR, h, um]
  · rw [if_neg e]
    simp only [eqR, List.getElem?_map]
    rcases Nat.lt_or_ge i 8 with h2 | h2
    · rw [List.getElem?_range h2]
      simp only [Option.map_some, um, if_neg (fun q : i = r => e q.symm)]
    · simp [List.getElem?_eq_none, h2]
section Q4
variable {p : Program} {l : Launch} {e : Env} {R : Room} {s : State} {m : MethodId} {args : Array Value} {below : List Frame} {meth : Method} {c : Code} {H : Heap} {locs : List Loc} {cells slots : Nat} {Q : State → Prop}
variable {cc : ByteArray} {pc : Nat} {ls : Array Slot} {rest : List Value} {D : va_G} {cl : List vw_C} {A : Nat → Prop} {a : Nat} {tys : List (ClassId × FieldType)} {ws : va_W} {H0 : Heap}
theorem q_ialdB (hexec : p.tables.exec = Jvm.exec) (hb : c.code = cc) (hK : va_K D cl tys s) (hP : va_P D cl ws H) (q0 t0 : Nat) {cA : ClassId} {n j : Nat} {f : Nat → B8} (ha : ws[q0]? = some (a, .inl (cA, n, .inl (bF f)))) (ht : tys[t0]? = some (cA, .int)) (hj : j < n) (hn : n < 2 ^ 31) (hdg : decode cc pc = .ok (.iaload, 1))
    (kk : W p l e R s m args below meth c H locs cells slots Q (F0 m (pc + 1) ls (.int (bI (f j)) :: rest))) : W p l e R s m args below meth c H locs cells slots Q (F0 m pc ls (.int (nI j) :: .ref a :: rest)) :=
  q_iald (f := fun i => (f i).toNat) hexec hb hK hP q0 t0 ha ht hj hn hdg kk
theorem q_iastB (hexec : p.tables.exec = Jvm.exec) (hb : c.code = cc) (hK : va_K D cl tys s) (hP : va_P D cl ws H) (hD : va_D A ws) (hS : va_S A H0 H locs) (q0 t0 : Nat) {cA : ClassId} {n j : Nat} {y : B8} {f : Nat → B8} (ha : ws[q0]? = some (a, .inl (cA, n, .inl (bF f)))) (ht : tys[t0]? = some (cA, .int)) (hj : j < n) (hn : n < 2 ^ 31) (hdg : decode cc pc = .ok (.iastore, 1))
    (kk : ∀ (H1 : Heap) (locs1 : List Loc), va_P D cl (ws.set q0 (a, .inl (cA, n, .inl (bF (ub f j y))))) H1 → va_D A (ws.set q0 (a, .inl (cA, n, .inl (bF (ub f j y))))) → va_S A H0 H1 locs1 → W p l e R s m args below meth c H1 locs1 cells slots Q (F0 m (pc + 1) ls rest)) : W p l e R s m args below meth c H locs cells slots Q (F0 m pc ls (.int (bI y) :: .int (nI j) :: .ref a :: rest)) := by
  refine va_iast hexec hb hK hP hD hS q0 t0 ha ht (vp_in_nI hj hn) hdg ?_
  rw [nI_clamp (by omega), upd_bF]
  exact kk
end Q4
theorem vx_bad_51 : ∀ w ∈ (vx_atS RX3 51 "java/lang/IllegalArgumentException" ["java/lang/RuntimeException", "java/lang/Exception"]).filter (fun w => !goodWord w), w ∈ cstW := by decide +kernel
theorem vx_good_51 : ∀ w ∈ Cond.classLink RX3 47 "java/lang/IllegalArgumentException" :: Cond.initialized "java/lang/IllegalArgumentException" :: vx_atS RX3 51 "java/lang/IllegalArgumentException" ["java/lang/RuntimeException", "java/lang/Exception"], vx_ot w = true := by decide +kernel
theorem vx_bad_74 : ∀ w ∈ (vx_atS RX3 74 "java/lang/IllegalStateException" ["java/lang/RuntimeException", "java/lang/Exception"]).filter (fun w => !goodWord w), w ∈ cstW := by decide +kernel
theorem vx_good_74 : ∀ w ∈ Cond.classLink RX3 70 "java/lang/IllegalStateException" :: Cond.initialized "java/lang/IllegalStateException" :: vx_atS RX3 74 "java/lang/IllegalStateException" ["java/lang/RuntimeException", "java/lang/Exception"], vx_ot w = true := by decide +kernel
theorem vx_bad_133 : ∀ w ∈ (vx_atS RX3 133 "java/lang/IndexOutOfBoundsException" ["java/lang/RuntimeException", "java/lang/Exception"]).filter (fun w => !goodWord w), w ∈ cstW := by decide +kernel
theorem vx_good_133 : ∀ w ∈ Cond.classLink RX3 129 "java/lang/IndexOutOfBoundsException" :: Cond.initialized "java/lang/IndexOutOfBoundsException" :: vx_atS RX3 133 "java/lang/IndexOutOfBoundsException" ["java/lang/RuntimeException", "java/lang/Exception"], vx_ot w = true := by decide +kernel
theorem hd_X0_init : yX0_init.cls ≠ "java/lang/invoke/MethodHandle" ∧ yX0_init.cls ≠ "java/lang/invoke/VarHandle" ∧ (parseMethodDescriptor yX0_init.desc).map (fun d => d.parameters.length) = some 0 := by decide +kernel
theorem hd_X0_write : yX0_write.cls ≠ "java/lang/invoke/MethodHandle" ∧ yX0_write.cls ≠ "java/lang/invoke/VarHandle" ∧ (parseMethodDescriptor yX0_write.desc).map (fun d => d.parameters.length) = some 1 := by decide +kernel
theorem hd_X0_solve : yX0_solve.cls ≠ "java/lang/invoke/MethodHandle" ∧ yX0_solve.cls ≠ "java/lang/invoke/VarHandle" ∧ (parseMethodDescriptor yX0_solve.desc).map (fun d => d.parameters.length) = some 0 := by decide +kernel
theorem hd_X0_scaleRow : yX0_scaleRow.cls ≠ "java/lang/invoke/MethodHandle" ∧ yX0_scaleRow.cls ≠ "java/lang/invoke/VarHandle" ∧ (parseMethodDescriptor yX0_scaleRow.desc).map (fun d => d.parameters.length) = some 2 := by decide +kernel
theorem hd_X0_addMultiple : yX0_addMultiple.cls ≠ "java/lang/invoke/MethodHandle" ∧ yX0_addMultiple.cls ≠ "java/lang/invoke/VarHandle" ∧ (parseMethodDescriptor yX0_addMultiple.desc).map (fun d => d.parameters.length) = some 3 := by decide +kernel
theorem hd_X0_polynomialAt : yX0_polynomialAt.cls ≠ "java/lang/invoke/MethodHandle" ∧ yX0_polynomialAt.cls ≠ "java/lang/invoke/VarHandle" ∧ (parseMethodDescriptor yX0_polynomialAt.desc).map (fun d => d.parameters.length) = some 1 := by decide +kernel
theorem hd_X1_product : yX1_product.cls ≠ "java/lang/invoke/MethodHandle" ∧ yX1_product.cls ≠ "java/lang/invoke/VarHandle" ∧ (parseMethodDescriptor yX1_product.desc).map (fun d => d.parameters.length) = some 2 := by decide +kernel
theorem hd_X1_inverse : yX1_inverse.cls ≠ "java/lang/invoke/MethodHandle" ∧ yX1_inverse.cls ≠ "java/lang/invoke/VarHandle" ∧ (parseMethodDescriptor yX1_inverse.desc).map (fun d => d.parameters.length) = some 1 := by decide +kernel
theorem hd_X2_init : yX2_init.cls ≠ "java/lang/invoke/MethodHandle" ∧ yX2_init.cls ≠ "java/lang/invoke/VarHandle" ∧ (parseMethodDescriptor yX2_init.desc).map (fun d => d.parameters.length) = some 0 := by decide +kernel
theorem hd_X2_clear : yX2_clear.cls ≠ "java/lang/invoke/MethodHandle" ∧ yX2_clear.cls ≠ "java/lang/invoke/VarHandle" ∧ (parseMethodDescriptor yX2_clear.desc).map (fun d => d.parameters.length) = some 0 := by decide +kernel
theorem hd_X2_add : yX2_add.cls ≠ "java/lang/invoke/MethodHandle" ∧ yX2_add.cls ≠ "java/lang/invoke/VarHandle" ∧ (parseMethodDescriptor yX2_add.desc).map (fun d => d.parameters.length) = some 2 := by decide +kernel
theorem hd_X2_polynomialAt : yX2_polynomialAt.cls ≠ "java/lang/invoke/MethodHandle" ∧ yX2_polynomialAt.cls ≠ "java/lang/invoke/VarHandle" ∧ (parseMethodDescriptor yX2_polynomialAt.desc).map (fun d => d.parameters.length) = some 1 := by decide +kernel
theorem hd_X2_weight : yX2_weight.cls ≠ "java/lang/invoke/MethodHandle" ∧ yX2_weight.cls ≠ "java/lang/invoke/VarHandle" ∧ (parseMethodDescriptor yX2_weight.desc).map (fun d => d.parameters.length) = some 2 := by decide +kernel
theorem hd_X3_init : yX3_init.cls ≠ "java/lang/invoke/MethodHandle" ∧ yX3_init.cls ≠ "java/lang/invoke/VarHandle" ∧ (parseMethodDescriptor yX3_init.desc).map (fun d => d.parameters.length) = some 0 := by decide +kernel
theorem hd_X3_begin : yX3_begin.cls ≠ "java/lang/invoke/MethodHandle" ∧ yX3_begin.cls ≠ "java/lang/invoke/VarHandle" ∧ (parseMethodDescriptor yX3_begin.desc).map (fun d => d.parameters.length) = some 2 := by decide +kernel
theorem hd_X3_setDatum : yX3_setDatum.cls ≠ "java/lang/invoke/MethodHandle" ∧ yX3_setDatum.cls ≠ "java/lang/invoke/VarHandle" ∧ (parseMethodDescriptor yX3_setDatum.desc).map (fun d => d.parameters.length) = some 2 := by decide +kernel
theorem hd_X3_join : yX3_join.cls ≠ "java/lang/invoke/MethodHandle" ∧ yX3_join.cls ≠ "java/lang/invoke/VarHandle" ∧ (parseMethodDescriptor yX3_join.desc).map (fun d => d.parameters.length) = some 2 := by decide +kernel
theorem hd_X3_setLosses : yX3_setLosses.cls ≠ "java/lang/invoke/MethodHandle" ∧ yX3_setLosses.cls ≠ "java/lang/invoke/VarHandle" ∧ (parseMethodDescriptor yX3_setLosses.desc).map (fun d => d.parameters.length) = some 2 := by decide +kernel
theorem hd_X3_setWait : yX3_setWait.cls ≠ "java/lang/invoke/MethodHandle" ∧ yX3_setWait.cls ≠ "java/lang/invoke/VarHandle" ∧ (parseMethodDescriptor yX3_setWait.desc).map (fun d => d.parameters.length) = some 2 := by decide +kernel
theorem hd_X3_send : yX3_send.cls ≠ "java/lang/invoke/MethodHandle" ∧ yX3_send.cls ≠ "java/lang/invoke/VarHandle" ∧ (parseMethodDescriptor yX3_send.desc).map (fun d => d.parameters.length) = some 1 := by decide +kernel
theorem hd_X3_round : yX3_round.cls ≠ "java/lang/invoke/MethodHandle" ∧ yX3_round.cls ≠ "java/lang/invoke/VarHandle" ∧ (parseMethodDescriptor yX3_round.desc).map (fun d => d.parameters.length) = some 0 := by decide +kernel
theorem hd_X3_sent : yX3_sent.cls ≠ "java/lang/invoke/MethodHandle" ∧ yX3_sent.cls ≠ "java/lang/invoke/VarHandle" ∧ (parseMethodDescriptor yX3_sent.desc).map (fun d => d.parameters.length) = some 0 := by decide +kernel
theorem hd_X3_receivers : yX3_receivers.cls ≠ "java/lang/invoke/MethodHandle" ∧ yX3_receivers.cls ≠ "java/lang/invoke/VarHandle" ∧ (parseMethodDescriptor yX3_receivers.desc).map (fun d => d.parameters.length) = some 0 := by decide +kernel
theorem hd_X3_reports : yX3_reports.cls ≠ "java/lang/invoke/MethodHandle" ∧ yX3_reports.cls ≠ "java/lang/invoke/VarHandle" ∧ (parseMethodDescriptor yX3_reports.desc).map (fun d => d.parameters.length) = some 0 := by decide +kernel
theorem hd_X3_keptBack : yX3_keptBack.cls ≠ "java/lang/invoke/MethodHandle" ∧ yX3_keptBack.cls ≠ "java/lang/invoke/VarHandle" ∧ (parseMethodDescriptor yX3_keptBack.desc).map (fun d => d.parameters.length) = some 0 := by decide +kernel
theorem hd_X3_has : yX3_has.cls ≠ "java/lang/invoke/MethodHandle" ∧ yX3_has.cls ≠ "java/lang/invoke/VarHandle" ∧ (parseMethodDescriptor yX3_has.desc).map (fun d => d.parameters.length) = some 1 := by decide +kernel
theorem hd_X3_need : yX3_need.cls ≠ "java/lang/invoke/MethodHandle" ∧ yX3_need.cls ≠ "java/lang/invoke/VarHandle" ∧ (parseMethodDescriptor yX3_need.desc).map (fun d => d.parameters.length) = some 1 := by decide +kernel
theorem hd_X3_isDropped : yX3_isDropped.cls ≠ "java/lang/invoke/MethodHandle" ∧ yX3_isDropped.cls ≠ "java/lang/invoke/VarHandle" ∧ (parseMethodDescriptor yX3_isDropped.desc).map (fun d => d.parameters.length) = some 1 := by decide +kernel
theorem hd_X3_badRounds : yX3_badRounds.cls ≠ "java/lang/invoke/MethodHandle" ∧ yX3_badRounds.cls ≠ "java/lang/invoke/VarHandle" ∧ (parseMethodDescriptor yX3_badRounds.desc).map (fun d => d.parameters.length) = some 1 := by decide +kernel
theorem hd_X3_times : yX3_times.cls ≠ "java/lang/invoke/MethodHandle" ∧ yX3_times.cls ≠ "java/lang/invoke/VarHandle" ∧ (parseMethodDescriptor yX3_times.desc).map (fun d => d.parameters.length) = some 2 := by decide +kernel
theorem hd_X3_packet : yX3_packet.cls ≠ "java/lang/invoke/MethodHandle" ∧ yX3_packet.cls ≠ "java/lang/invoke/VarHandle" ∧ (parseMethodDescriptor yX3_packet.desc).map (fun d => d.parameters.length) = some 1 := by decide +kernel
theorem hd_X3_rebuilt : yX3_rebuilt.cls ≠ "java/lang/invoke/MethodHandle" ∧ yX3_rebuilt.cls ≠ "java/lang/invoke/VarHandle" ∧ (parseMethodDescriptor yX3_rebuilt.desc).map (fun d => d.parameters.length) = some 2 := by decide +kernel
theorem hd_X3_rebuiltByElimination : yX3_rebuiltByElimination.cls ≠ "java/lang/invoke/MethodHandle" ∧ yX3_rebuiltByElimination.cls ≠ "java/lang/invoke/VarHandle" ∧ (parseMethodDescriptor yX3_rebuiltByElimination.desc).map (fun d => d.parameters.length) = some 2 := by decide +kernel
theorem hd_X3_isFieldNumber : yX3_isFieldNumber.cls ≠ "java/lang/invoke/MethodHandle" ∧ yX3_isFieldNumber.cls ≠ "java/lang/invoke/VarHandle" ∧ (parseMethodDescriptor yX3_isFieldNumber.desc).map (fun d => d.parameters.length) = some 1 := by decide +kernel
theorem hd_X3_demandLosses : yX3_demandLosses.cls ≠ "java/lang/invoke/MethodHandle" ∧ yX3_demandLosses.cls ≠ "java/lang/invoke/VarHandle" ∧ (parseMethodDescriptor yX3_demandLosses.desc).map (fun d => d.parameters.length) = some 1 := by decide +kernel
theorem hd_X3_demandWait : yX3_demandWait.cls ≠ "java/lang/invoke/MethodHandle" ∧ yX3_demandWait.cls ≠ "java/lang/invoke/VarHandle" ∧ (parseMethodDescriptor yX3_demandWait.desc).map (fun d => d.parameters.length) = some 1 := by decide +kernel
theorem hd_X3_demandReceiver : yX3_demandReceiver.cls ≠ "java/lang/invoke/MethodHandle" ∧ yX3_demandReceiver.cls ≠ "java/lang/invoke/VarHandle" ∧ (parseMethodDescriptor yX3_demandReceiver.desc).map (fun d => d.parameters.length) = some 1 := by decide +kernel
theorem hd_X3_demandPlace : yX3_demandPlace.cls ≠ "java/lang/invoke/MethodHandle" ∧ yX3_demandPlace.cls ≠ "java/lang/invoke/VarHandle" ∧ (parseMethodDescriptor yX3_demandPlace.desc).map (fun d => d.parameters.length) = some 1 := by decide +kernel
theorem hd_X3_demandRebuilding : yX3_demandRebuilding.cls ≠ "java/lang/invoke/MethodHandle" ∧ yX3_demandRebuilding.cls ≠ "java/lang/invoke/VarHandle" ∧ (parseMethodDescriptor yX3_demandRebuilding.desc).map (fun d => d.parameters.length) = some 2 := by decide +kernel
theorem hd_X3_startBlock : yX3_startBlock.cls ≠ "java/lang/invoke/MethodHandle" ∧ yX3_startBlock.cls ≠ "java/lang/invoke/VarHandle" ∧ (parseMethodDescriptor yX3_startBlock.desc).map (fun d => d.parameters.length) = some 2 := by decide +kernel
theorem hd_X3_needOf : yX3_needOf.cls ≠ "java/lang/invoke/MethodHandle" ∧ yX3_needOf.cls ≠ "java/lang/invoke/VarHandle" ∧ (parseMethodDescriptor yX3_needOf.desc).map (fun d => d.parameters.length) = some 1 := by decide +kernel
theorem hd_X3_isLiveAndLacks : yX3_isLiveAndLacks.cls ≠ "java/lang/invoke/MethodHandle" ∧ yX3_isLiveAndLacks.cls ≠ "java/lang/invoke/VarHandle" ∧ (parseMethodDescriptor yX3_isLiveAndLacks.desc).map (fun d => d.parameters.length) = some 1 := by decide +kernel
theorem hd_X3_completeCount : yX3_completeCount.cls ≠ "java/lang/invoke/MethodHandle" ∧ yX3_completeCount.cls ≠ "java/lang/invoke/VarHandle" ∧ (parseMethodDescriptor yX3_completeCount.desc).map (fun d => d.parameters.length) = some 0 := by decide +kernel
theorem hd_X3_sendPackets : yX3_sendPackets.cls ≠ "java/lang/invoke/MethodHandle" ∧ yX3_sendPackets.cls ≠ "java/lang/invoke/VarHandle" ∧ (parseMethodDescriptor yX3_sendPackets.desc).map (fun d => d.parameters.length) = some 1 := by decide +kernel
theorem hd_X3_sendNextPacket : yX3_sendNextPacket.cls ≠ "java/lang/invoke/MethodHandle" ∧ yX3_sendNextPacket.cls ≠ "java/lang/invoke/VarHandle" ∧ (parseMethodDescriptor yX3_sendNextPacket.desc).map (fun d => d.parameters.length) = some 0 := by decide +kernel
theorem hd_X3_hearReports : yX3_hearReports.cls ≠ "java/lang/invoke/MethodHandle" ∧ yX3_hearReports.cls ≠ "java/lang/invoke/VarHandle" ∧ (parseMethodDescriptor yX3_hearReports.desc).map (fun d => d.parameters.length) = some 0 := by decide +kernel
theorem hd_X3_hearReportsAt : yX3_hearReportsAt.cls ≠ "java/lang/invoke/MethodHandle" ∧ yX3_hearReportsAt.cls ≠ "java/lang/invoke/VarHandle" ∧ (parseMethodDescriptor yX3_hearReportsAt.desc).map (fun d => d.parameters.length) = some 2 := by decide +kernel
theorem hd_X3_countBadRounds : yX3_countBadRounds.cls ≠ "java/lang/invoke/MethodHandle" ∧ yX3_countBadRounds.cls ≠ "java/lang/invoke/VarHandle" ∧ (parseMethodDescriptor yX3_countBadRounds.desc).map (fun d => d.parameters.length) = some 0 := by decide +kernel
theorem hd_X3_chooseLowest : yX3_chooseLowest.cls ≠ "java/lang/invoke/MethodHandle" ∧ yX3_chooseLowest.cls ≠ "java/lang/invoke/VarHandle" ∧ (parseMethodDescriptor yX3_chooseLowest.desc).map (fun d => d.parameters.length) = some 1 := by decide +kernel
theorem hd_X3_chooseHighest : yX3_chooseHighest.cls ≠ "java/lang/invoke/MethodHandle" ∧ yX3_chooseHighest.cls ≠ "java/lang/invoke/VarHandle" ∧ (parseMethodDescriptor yX3_chooseHighest.desc).map (fun d => d.parameters.length) = some 1 := by decide +kernel
theorem hd_X3_chooseIfWanted : yX3_chooseIfWanted.cls ≠ "java/lang/invoke/MethodHandle" ∧ yX3_chooseIfWanted.cls ≠ "java/lang/invoke/VarHandle" ∧ (parseMethodDescriptor yX3_chooseIfWanted.desc).map (fun d => d.parameters.length) = some 2 := by decide +kernel
theorem hd_X4_init : yX4_init.cls ≠ "java/lang/invoke/MethodHandle" ∧ yX4_init.cls ≠ "java/lang/invoke/VarHandle" ∧ (parseMethodDescriptor yX4_init.desc).map (fun d => d.parameters.length) = some 0 := by decide +kernel
theorem hd_X4_thrown : yX4_thrown.cls ≠ "java/lang/invoke/MethodHandle" ∧ yX4_thrown.cls ≠ "java/lang/invoke/VarHandle" ∧ (parseMethodDescriptor yX4_thrown.desc).map (fun d => d.parameters.length) = some 0 := by decide +kernel
theorem hd_X4_in : yX4_in.cls ≠ "java/lang/invoke/MethodHandle" ∧ yX4_in.cls ≠ "java/lang/invoke/VarHandle" ∧ (parseMethodDescriptor yX4_in.desc).map (fun d => d.parameters.length) = some 3 := by decide +kernel
theorem hd_X4_isReceiver : yX4_isReceiver.cls ≠ "java/lang/invoke/MethodHandle" ∧ yX4_isReceiver.cls ≠ "java/lang/invoke/VarHandle" ∧ (parseMethodDescriptor yX4_isReceiver.desc).map (fun d => d.parameters.length) = some 1 := by decide +kernel
theorem hd_X4_begin : yX4_begin.cls ≠ "java/lang/invoke/MethodHandle" ∧ yX4_begin.cls ≠ "java/lang/invoke/VarHandle" ∧ (parseMethodDescriptor yX4_begin.desc).map (fun d => d.parameters.length) = some 2 := by decide +kernel
theorem hd_X4_setDatum : yX4_setDatum.cls ≠ "java/lang/invoke/MethodHandle" ∧ yX4_setDatum.cls ≠ "java/lang/invoke/VarHandle" ∧ (parseMethodDescriptor yX4_setDatum.desc).map (fun d => d.parameters.length) = some 2 := by decide +kernel
theorem hd_X4_join : yX4_join.cls ≠ "java/lang/invoke/MethodHandle" ∧ yX4_join.cls ≠ "java/lang/invoke/VarHandle" ∧ (parseMethodDescriptor yX4_join.desc).map (fun d => d.parameters.length) = some 2 := by decide +kernel
theorem hd_X4_setLosses : yX4_setLosses.cls ≠ "java/lang/invoke/MethodHandle" ∧ yX4_setLosses.cls ≠ "java/lang/invoke/VarHandle" ∧ (parseMethodDescriptor yX4_setLosses.desc).map (fun d => d.parameters.length) = some 2 := by decide +kernel
theorem hd_X4_setWait : yX4_setWait.cls ≠ "java/lang/invoke/MethodHandle" ∧ yX4_setWait.cls ≠ "java/lang/invoke/VarHandle" ∧ (parseMethodDescriptor yX4_setWait.desc).map (fun d => d.parameters.length) = some 2 := by decide +kernel
theorem hd_X4_needOf : yX4_needOf.cls ≠ "java/lang/invoke/MethodHandle" ∧ yX4_needOf.cls ≠ "java/lang/invoke/VarHandle" ∧ (parseMethodDescriptor yX4_needOf.desc).map (fun d => d.parameters.length) = some 1 := by decide +kernel
theorem hd_X4_sendOne : yX4_sendOne.cls ≠ "java/lang/invoke/MethodHandle" ∧ yX4_sendOne.cls ≠ "java/lang/invoke/VarHandle" ∧ (parseMethodDescriptor yX4_sendOne.desc).map (fun d => d.parameters.length) = some 0 := by decide +kernel
theorem hd_X4_send : yX4_send.cls ≠ "java/lang/invoke/MethodHandle" ∧ yX4_send.cls ≠ "java/lang/invoke/VarHandle" ∧ (parseMethodDescriptor yX4_send.desc).map (fun d => d.parameters.length) = some 1 := by decide +kernel
theorem hd_X4_layNeeds : yX4_layNeeds.cls ≠ "java/lang/invoke/MethodHandle" ∧ yX4_layNeeds.cls ≠ "java/lang/invoke/VarHandle" ∧ (parseMethodDescriptor yX4_layNeeds.desc).map (fun d => d.parameters.length) = some 0 := by decide +kernel
theorem hd_X4_report : yX4_report.cls ≠ "java/lang/invoke/MethodHandle" ∧ yX4_report.cls ≠ "java/lang/invoke/VarHandle" ∧ (parseMethodDescriptor yX4_report.desc).map (fun d => d.parameters.length) = some 2 := by decide +kernel
theorem hd_X4_round : yX4_round.cls ≠ "java/lang/invoke/MethodHandle" ∧ yX4_round.cls ≠ "java/lang/invoke/VarHandle" ∧ (parseMethodDescriptor yX4_round.desc).map (fun d => d.parameters.length) = some 0 := by decide +kernel
theorem hd_X4_sent : yX4_sent.cls ≠ "java/lang/invoke/MethodHandle" ∧ yX4_sent.cls ≠ "java/lang/invoke/VarHandle" ∧ (parseMethodDescriptor yX4_sent.desc).map (fun d => d.parameters.length) = some 0 := by decide +kernel
theorem hd_X4_receivers : yX4_receivers.cls ≠ "java/lang/invoke/MethodHandle" ∧ yX4_receivers.cls ≠ "java/lang/invoke/VarHandle" ∧ (parseMethodDescriptor yX4_receivers.desc).map (fun d => d.parameters.length) = some 0 := by decide +kernel
theorem hd_X4_reports : yX4_reports.cls ≠ "java/lang/invoke/MethodHandle" ∧ yX4_reports.cls ≠ "java/lang/invoke/VarHandle" ∧ (parseMethodDescriptor yX4_reports.desc).map (fun d => d.parameters.length) = some 0 := by decide +kernel
theorem hd_X4_keptBack : yX4_keptBack.cls ≠ "java/lang/invoke/MethodHandle" ∧ yX4_keptBack.cls ≠ "java/lang/invoke/VarHandle" ∧ (parseMethodDescriptor yX4_keptBack.desc).map (fun d => d.parameters.length) = some 0 := by decide +kernel
theorem hd_X4_asksFor : yX4_asksFor.cls ≠ "java/lang/invoke/MethodHandle" ∧ yX4_asksFor.cls ≠ "java/lang/invoke/VarHandle" ∧ (parseMethodDescriptor yX4_asksFor.desc).map (fun d => d.parameters.length) = some 1 := by decide +kernel
theorem hd_X4_has : yX4_has.cls ≠ "java/lang/invoke/MethodHandle" ∧ yX4_has.cls ≠ "java/lang/invoke/VarHandle" ∧ (parseMethodDescriptor yX4_has.desc).map (fun d => d.parameters.length) = some 1 := by decide +kernel
theorem hd_X4_need : yX4_need.cls ≠ "java/lang/invoke/MethodHandle" ∧ yX4_need.cls ≠ "java/lang/invoke/VarHandle" ∧ (parseMethodDescriptor yX4_need.desc).map (fun d => d.parameters.length) = some 1 := by decide +kernel
theorem hd_X4_isDropped : yX4_isDropped.cls ≠ "java/lang/invoke/MethodHandle" ∧ yX4_isDropped.cls ≠ "java/lang/invoke/VarHandle" ∧ (parseMethodDescriptor yX4_isDropped.desc).map (fun d => d.parameters.length) = some 1 := by decide +kernel
theorem hd_X4_badRounds : yX4_badRounds.cls ≠ "java/lang/invoke/MethodHandle" ∧ yX4_badRounds.cls ≠ "java/lang/invoke/VarHandle" ∧ (parseMethodDescriptor yX4_badRounds.desc).map (fun d => d.parameters.length) = some 1 := by decide +kernel
theorem hd_X4_product : yX4_product.cls ≠ "java/lang/invoke/MethodHandle" ∧ yX4_product.cls ≠ "java/lang/invoke/VarHandle" ∧ (parseMethodDescriptor yX4_product.desc).map (fun d => d.parameters.length) = some 2 := by decide +kernel
theorem hd_X4_inverse : yX4_inverse.cls ≠ "java/lang/invoke/MethodHandle" ∧ yX4_inverse.cls ≠ "java/lang/invoke/VarHandle" ∧ (parseMethodDescriptor yX4_inverse.desc).map (fun d => d.parameters.length) = some 1 := by decide +kernel
theorem hd_X4_times : yX4_times.cls ≠ "java/lang/invoke/MethodHandle" ∧ yX4_times.cls ≠ "java/lang/invoke/VarHandle" ∧ (parseMethodDescriptor yX4_times.desc).map (fun d => d.parameters.length) = some 2 := by decide +kernel
theorem hd_X4_packet : yX4_packet.cls ≠ "java/lang/invoke/MethodHandle" ∧ yX4_packet.cls ≠ "java/lang/invoke/VarHandle" ∧ (parseMethodDescriptor yX4_packet.desc).map (fun d => d.parameters.length) = some 1 := by decide +kernel
theorem hd_X4_rebuilt : yX4_rebuilt.cls ≠ "java/lang/invoke/MethodHandle" ∧ yX4_rebuilt.cls ≠ "java/lang/invoke/VarHandle" ∧ (parseMethodDescriptor yX4_rebuilt.desc).map (fun d => d.parameters.length) = some 2 := by decide +kernel
theorem hd_X4_rebuiltByElimination : yX4_rebuiltByElimination.cls ≠ "java/lang/invoke/MethodHandle" ∧ yX4_rebuiltByElimination.cls ≠ "java/lang/invoke/VarHandle" ∧ (parseMethodDescriptor yX4_rebuiltByElimination.desc).map (fun d => d.parameters.length) = some 2 := by decide +kernel
theorem hd_J6_bitCount_0f7a4 : yJ6_bitCount_0f7a4.cls ≠ "java/lang/invoke/MethodHandle" ∧ yJ6_bitCount_0f7a4.cls ≠ "java/lang/invoke/VarHandle" ∧ (parseMethodDescriptor yJ6_bitCount_0f7a4.desc).map (fun d => d.parameters.length) = some 1 := by decide +kernel
theorem hd_L_begin : yL_begin.cls ≠ "java/lang/invoke/MethodHandle" ∧ yL_begin.cls ≠ "java/lang/invoke/VarHandle" ∧ (parseMethodDescriptor yL_begin.desc).map (fun d => d.parameters.length) = some 4 := by decide +kernel
theorem hd_L_setDatum : yL_setDatum.cls ≠ "java/lang/invoke/MethodHandle" ∧ yL_setDatum.cls ≠ "java/lang/invoke/VarHandle" ∧ (parseMethodDescriptor yL_setDatum.desc).map (fun d => d.parameters.length) = some 4 := by decide +kernel
theorem hd_L_join : yL_join.cls ≠ "java/lang/invoke/MethodHandle" ∧ yL_join.cls ≠ "java/lang/invoke/VarHandle" ∧ (parseMethodDescriptor yL_join.desc).map (fun d => d.parameters.length) = some 4 := by decide +kernel
theorem hd_L_setLosses : yL_setLosses.cls ≠ "java/lang/invoke/MethodHandle" ∧ yL_setLosses.cls ≠ "java/lang/invoke/VarHandle" ∧ (parseMethodDescriptor yL_setLosses.desc).map (fun d => d.parameters.length) = some 4 := by decide +kernel
theorem hd_L_setWait : yL_setWait.cls ≠ "java/lang/invoke/MethodHandle" ∧ yL_setWait.cls ≠ "java/lang/invoke/VarHandle" ∧ (parseMethodDescriptor yL_setWait.desc).map (fun d => d.parameters.length) = some 4 := by decide +kernel
theorem hd_L_send : yL_send.cls ≠ "java/lang/invoke/MethodHandle" ∧ yL_send.cls ≠ "java/lang/invoke/VarHandle" ∧ (parseMethodDescriptor yL_send.desc).map (fun d => d.parameters.length) = some 3 := by decide +kernel
theorem hd_L_round : yL_round.cls ≠ "java/lang/invoke/MethodHandle" ∧ yL_round.cls ≠ "java/lang/invoke/VarHandle" ∧ (parseMethodDescriptor yL_round.desc).map (fun d => d.parameters.length) = some 2 := by decide +kernel
theorem hd_L_has : yL_has.cls ≠ "java/lang/invoke/MethodHandle" ∧ yL_has.cls ≠ "java/lang/invoke/VarHandle" ∧ (parseMethodDescriptor yL_has.desc).map (fun d => d.parameters.length) = some 3 := by decide +kernel
theorem hd_L_need : yL_need.cls ≠ "java/lang/invoke/MethodHandle" ∧ yL_need.cls ≠ "java/lang/invoke/VarHandle" ∧ (parseMethodDescriptor yL_need.desc).map (fun d => d.parameters.length) = some 3 := by decide +kernel
theorem hd_L_isDropped : yL_isDropped.cls ≠ "java/lang/invoke/MethodHandle" ∧ yL_isDropped.cls ≠ "java/lang/invoke/VarHandle" ∧ (parseMethodDescriptor yL_isDropped.desc).map (fun d => d.parameters.length) = some 3 := by decide +kernel
theorem hd_L_badRounds : yL_badRounds.cls ≠ "java/lang/invoke/MethodHandle" ∧ yL_badRounds.cls ≠ "java/lang/invoke/VarHandle" ∧ (parseMethodDescriptor yL_badRounds.desc).map (fun d => d.parameters.length) = some 3 := by decide +kernel
theorem hd_L_times : yL_times.cls ≠ "java/lang/invoke/MethodHandle" ∧ yL_times.cls ≠ "java/lang/invoke/VarHandle" ∧ (parseMethodDescriptor yL_times.desc).map (fun d => d.parameters.length) = some 4 := by decide +kernel
theorem hd_L_packet : yL_packet.cls ≠ "java/lang/invoke/MethodHandle" ∧ yL_packet.cls ≠ "java/lang/invoke/VarHandle" ∧ (parseMethodDescriptor yL_packet.desc).map (fun d => d.parameters.length) = some 3 := by decide +kernel
theorem hd_L_rebuilt : yL_rebuilt.cls ≠ "java/lang/invoke/MethodHandle" ∧ yL_rebuilt.cls ≠ "java/lang/invoke/VarHandle" ∧ (parseMethodDescriptor yL_rebuilt.desc).map (fun d => d.parameters.length) = some 4 := by decide +kernel
theorem hd_L_rebuiltByElimination : yL_rebuiltByElimination.cls ≠ "java/lang/invoke/MethodHandle" ∧ yL_rebuiltByElimination.cls ≠ "java/lang/invoke/VarHandle" ∧ (parseMethodDescriptor yL_rebuiltByElimination.desc).map (fun d => d.parameters.length) = some 4 := by decide +kernel
end
section
set_option maxHeartbeats 4000000 in
set_option maxRecDepth 100000 in
theorem c_X1_product (l : Launch) (a : B8) (b : B8) : Met l yX1_product wsX1_product ({ frames := 0, cells := 0, slots := 0, locals := 0 } : Room) (P0 [.int (bI (a)), .int (bI (b))]) (vp_Si (fun r => r = bI (fm a b))) 0 0 (fun _ => False) := by
  refine Met.ofW (cc := cX1_product) (maxL := 5) (ret := (some .int)) (by decide) rfl ?_
  intro p e s m args below meth c s₁ B hml hv
  obtain ⟨rfl, -⟩ := hv
  have hx := B.exec
  have hb := B.bytes
  have hr := B.returns
  have hts := atoms_spec (ws := wsX1_product) B.pre
  have hown : s.vm.findClass RX1 = some m.cls := findClass_of_methodNamed B.named
  have hlocks := B.notSynchronized
  have hl := lv_entry ([.int (bI (a)), .int (bI (b))]) (n := 5) (Nat.le_of_ble_eq_true rfl)
  rw [lg_entry_eq]
  generalize (lg_sl ([.int (bI (a)), .int (bI (b))]) ++ List.replicate (5 - (lg_sl ([.int (bI (a)), .int (bI (b))])).length) Slot.unset).toArray = ls at hl ⊢
  have hl : lv_has ls 5 [(0, .int (bI (a))), (1, .int (bI (b)))] := hl
  refine lv_iconst (v := nI (0)) hx hb dX1_product_0 (by decide) ?_
  refine lv_istore_n (lv' := [(2, .int (nI (0))), (0, .int (bI (a))), (1, .int (bI (b)))]) hx hb dX1_product_1 rfl hl (by decide) rfl (fun ls hl => ?_)
  refine lv_iload_n hx hb dX1_product_2 rfl (lv_at hl 1 rfl) ?_
  refine lv_istore_n (lv' := [(3, .int (bI (a))), (2, .int (nI (0))), (0, .int (bI (a))), (1, .int (bI (b)))]) hx hb dX1_product_3 rfl hl (by decide) rfl (fun ls hl => ?_)
  refine lv_iconst (v := nI (0)) hx hb dX1_product_4 (by decide) ?_
  refine lv_istore (lv' := [(4, .int (nI (0))), (3, .int (bI (a))), (2, .int (nI (0))), (0, .int (bI (a))), (1, .int (bI (b)))]) hx hb dX1_product_5 hl (by decide) rfl (fun ls hl => ?_)
  have L7_1 : ∀ (n7_1 : Nat) (i : Nat), 8 - i < n7_1 → (i ≤ 8) → ∀ (ls : Array Slot), lv_has ls 5 [(0, .int (bI (a))), (1, .int (bI (b))), (2, .int (nI (gsu a.toNat b.toNat i))), (3, .int (nI (gsh a.toNat i))), (4, .int (nI (i)))] → W p l e (headSpec wsX1_product ({ frames := 0, cells := 0, slots := 0, locals := 0 } : Room)).room s m ([.int (bI (a)), .int (bI (b))] : List Value).toArray below meth c s.heap [] 0 0 (MQ below (vp_Si (fun r => r = bI (fm a b))) ([.int (bI (a)), .int (bI (b))] : List Value).toArray s 0 0 (fun _ => False)) (F0 m 7 ls []) := by
    intro n7_1
    induction n7_1 with
    | zero =>
      intro i hn7_1
      exact absurd hn7_1 (Nat.not_lt_zero _)
    | succ n7_1 ih7_1 =>
      intro i hn7_1 hi ls hl
      refine lv_iload hx hb dX1_product_7 (lv_at hl 4 rfl) ?_
      refine lv_bipush (v := nI (8)) hx hb dX1_product_9 (by decide) ?_
      refine q_icmp_ge (u := ((i : Nat) : Int)) (v := ((8 : Nat) : Int)) (tgt := 50) hx hb dX1_product_11 (by decide) (nI_toInt (by omega)) (nI_toInt (by omega)) (fun c_11 => ?_) (fun c_11 => ?_)
      · obtain rfl : 8 = i := by omega
        refine lv_iload_n hx hb dX1_product_50 rfl (lv_at hl 2 rfl) ?_
        exact W.iret (v := nI (gsu a.toNat b.toNat 8)) hx hb hr (fun t ht hW => ⟨_, rfl, (by show nI _ = bI _; unfold bI; rw [fm_nat]), ht⟩) (fun q h => by cases h) dX1_product_51
      · skip
        have hsh := gsh_lt (bI_lt a) i
        refine lv_iload_n hx hb dX1_product_14 rfl (lv_at hl 1 rfl) ?_
        refine lv_iload hx hb dX1_product_15 (lv_at hl 4 rfl) ?_
        refine lv_ishr hx hb dX1_product_17 ?_
        refine q_top (show (bI (b) >>> (nI (i) &&& 31)) = nI (((b).toNat) / 2 ^ (i)) from nI_shr (by have := bI_lt b; omega) (by omega)) ?_
        refine lv_iconst (v := nI (1)) hx hb dX1_product_18 (by decide) ?_
        refine lv_iand hx hb dX1_product_19 ?_
        refine q_top (show (nI (((b).toNat) / 2 ^ (i)) &&& nI (1)) = nI ((((b).toNat) / 2 ^ (i)) % 2) from nI_and1 _) ?_
        refine q_if_eq (u := (((((b).toNat) / 2 ^ (i)) % 2 : Nat) : Int)) (tgt := 27) hx hb dX1_product_20 (by decide) (nI_toInt (by omega)) (fun c_20 => ?_) (fun c_20 => ?_)
        · have e2 : gsu a.toNat b.toNat (i + 1) = gsu a.toNat b.toNat i := if_neg (by omega)
          refine lv_iload_n hx hb dX1_product_27 rfl (lv_at hl 3 rfl) ?_
          refine lv_iconst (v := nI (1)) hx hb dX1_product_28 (by decide) ?_
          refine lv_ishl hx hb dX1_product_29 ?_
          refine q_top (show (nI (gsh a.toNat i) <<< (nI (1) &&& 31)) = nI ((gsh a.toNat i) * 2) from nI_shl1 (by omega)) ?_
          refine lv_istore_n (lv' := [(3, .int (nI ((gsh a.toNat i) * 2))), (0, .int (bI (a))), (1, .int (bI (b))), (2, .int (nI (gsu a.toNat b.toNat i))), (4, .int (nI (i)))]) hx hb dX1_product_30 rfl hl (by decide) rfl (fun ls hl => ?_)
          refine lv_iload_n hx hb dX1_product_31 rfl (lv_at hl 0 rfl) ?_
          refine lv_sipush (v := nI (255)) hx hb dX1_product_32 (by decide) ?_
          refine q_icmp_le (u := (((gsh a.toNat i) * 2 : Nat) : Int)) (v := ((255 : Nat) : Int)) (tgt := 44) hx hb dX1_product_35 (by decide) (nI_toInt (by omega)) (nI_toInt (by omega)) (fun c_35 => ?_) (fun c_35 => ?_)
          · have e3 : gsh a.toNat (i + 1) = (gsh a.toNat i) * 2 := if_neg (by omega)
            refine lv_iinc (v := nI (i + 1)) (lv' := [(4, .int (nI (i + 1))), (3, .int (nI ((gsh a.toNat i) * 2))), (0, .int (bI (a))), (1, .int (bI (b))), (2, .int (nI (gsu a.toNat b.toNat i)))]) hx hb dX1_product_44 hl (k := 4) rfl (show nI (i) + Int32.ofInt 1 = nI (i + 1) from nI_add (i) 1) (by decide) rfl (fun ls hl => ?_)
            refine lv_goto (tgt := 7) hx hb dX1_product_47 (by decide) ?_
            exact ih7_1 (i + 1) (by omega) (by omega) ls (lv_sub hl [2, 3, 4, 1, 0] (by rw [e2, e3]; rfl))
          · have e3 : gsh a.toNat (i + 1) = ((gsh a.toNat i) * 2) ^^^ 285 := if_pos (by omega)
            refine lv_iload_n hx hb dX1_product_38 rfl (lv_at hl 0 rfl) ?_
            refine lv_sipush (v := nI (285)) hx hb dX1_product_39 (by decide) ?_
            refine lv_ixor hx hb dX1_product_42 ?_
            refine q_top (show (nI ((gsh a.toNat i) * 2) ^^^ nI (285)) = nI (((gsh a.toNat i) * 2) ^^^ (285)) from nI_xor _ _) ?_
            refine lv_istore_n (lv' := [(3, .int (nI (((gsh a.toNat i) * 2) ^^^ (285)))), (0, .int (bI (a))), (1, .int (bI (b))), (2, .int (nI (gsu a.toNat b.toNat i))), (4, .int (nI (i)))]) hx hb dX1_product_43 rfl hl (by decide) rfl (fun ls hl => ?_)
            refine lv_iinc (v := nI (i + 1)) (lv' := [(4, .int (nI (i + 1))), (3, .int (nI (((gsh a.toNat i) * 2) ^^^ (285)))), (0, .int (bI (a))), (1, .int (bI (b))), (2, .int (nI (gsu a.toNat b.toNat i)))]) hx hb dX1_product_44 hl (k := 4) rfl (show nI (i) + Int32.ofInt 1 = nI (i + 1) from nI_add (i) 1) (by decide) rfl (fun ls hl => ?_)
            refine lv_goto (tgt := 7) hx hb dX1_product_47 (by decide) ?_
            exact ih7_1 (i + 1) (by omega) (by omega) ls (lv_sub hl [2, 3, 4, 1, 0] (by rw [e2, e3]; rfl))
        · have e2 : gsu a.toNat b.toNat (i + 1) = (gsu a.toNat b.toNat i) ^^^ (gsh a.toNat i) := if_pos (by omega)
          refine lv_iload_n hx hb dX1_product_23 rfl (lv_at hl 2 rfl) ?_
          refine lv_iload_n hx hb dX1_product_24 rfl (lv_at hl 3 rfl) ?_
          refine lv_ixor hx hb dX1_product_25 ?_
          refine q_top (show (nI (gsu a.toNat b.toNat i) ^^^ nI (gsh a.toNat i)) = nI ((gsu a.toNat b.toNat i) ^^^ (gsh a.toNat i)) from nI_xor _ _) ?_
          refine lv_istore_n (lv' := [(2, .int (nI ((gsu a.toNat b.toNat i) ^^^ (gsh a.toNat i)))), (0, .int (bI (a))), (1, .int (bI (b))), (3, .int (nI (gsh a.toNat i))), (4, .int (nI (i)))]) hx hb dX1_product_26 rfl hl (by decide) rfl (fun ls hl => ?_)
          refine lv_iload_n hx hb dX1_product_27 rfl (lv_at hl 3 rfl) ?_
          refine lv_iconst (v := nI (1)) hx hb dX1_product_28 (by decide) ?_
          refine lv_ishl hx hb dX1_product_29 ?_
          refine q_top (show (nI (gsh a.toNat i) <<< (nI (1) &&& 31)) = nI ((gsh a.toNat i) * 2) from nI_shl1 (by omega)) ?_
          refine lv_istore_n (lv' := [(3, .int (nI ((gsh a.toNat i) * 2))), (2, .int (nI ((gsu a.toNat b.toNat i) ^^^ (gsh a.toNat i)))), (0, .int (bI (a))), (1, .int (bI (b))), (4, .int (nI (i)))]) hx hb dX1_product_30 rfl hl (by decide) rfl (fun ls hl => ?_)
          refine lv_iload_n hx hb dX1_product_31 rfl (lv_at hl 0 rfl) ?_
          refine lv_sipush (v := nI (255)) hx hb dX1_product_32 (by decide) ?_
          refine q_icmp_le (u := (((gsh a.toNat i) * 2 : Nat) : Int)) (v := ((255 : Nat) : Int)) (tgt := 44) hx hb dX1_product_35 (by decide) (nI_toInt (by omega)) (nI_toInt (by omega)) (fun c_35 => ?_) (fun c_35 => ?_)
          · have e3 : gsh a.toNat (i + 1) = (gsh a.toNat i) * 2 := if_neg (by omega)
            refine lv_iinc (v := nI (i + 1)) (lv' := [(4, .int (nI (i + 1))), (3, .int (nI ((gsh a.toNat i) * 2))), (2, .int (nI ((gsu a.toNat b.toNat i) ^^^ (gsh a.toNat i)))), (0, .int (bI (a))), (1, .int (bI (b)))]) hx hb dX1_product_44 hl (k := 4) rfl (show nI (i) + Int32.ofInt 1 = nI (i + 1) from nI_add (i) 1) (by decide) rfl (fun ls hl => ?_)
            refine lv_goto (tgt := 7) hx hb dX1_product_47 (by decide) ?_
            exact ih7_1 (i + 1) (by omega) (by omega) ls (lv_sub hl [3, 4, 2, 1, 0] (by rw [e2, e3]; rfl))
          · have e3 : gsh a.toNat (i + 1) = ((gsh a.toNat i) * 2) ^^^ 285 := if_pos (by omega)
            refine lv_iload_n hx hb dX1_product_38 rfl (lv_at hl 0 rfl) ?_
            refine lv_sipush (v := nI (285)) hx hb dX1_product_39 (by decide) ?_
            refine lv_ixor hx hb dX1_product_42 ?_
            refine q_top (show (nI ((gsh a.toNat i) * 2) ^^^ nI (285)) = nI (((gsh a.toNat i) * 2) ^^^ (285)) from nI_xor _ _) ?_
            refine lv_istore_n (lv' := [(3, .int (nI (((gsh a.toNat i) * 2) ^^^ (285)))), (2, .int (nI ((gsu a.toNat b.toNat i) ^^^ (gsh a.toNat i)))), (0, .int (bI (a))), (1, .int (bI (b))), (4, .int (nI (i)))]) hx hb dX1_product_43 rfl hl (by decide) rfl (fun ls hl => ?_)
            refine lv_iinc (v := nI (i + 1)) (lv' := [(4, .int (nI (i + 1))), (3, .int (nI (((gsh a.toNat i) * 2) ^^^ (285)))), (2, .int (nI ((gsu a.toNat b.toNat i) ^^^ (gsh a.toNat i)))), (0, .int (bI (a))), (1, .int (bI (b)))]) hx hb dX1_product_44 hl (k := 4) rfl (show nI (i) + Int32.ofInt 1 = nI (i + 1) from nI_add (i) 1) (by decide) rfl (fun ls hl => ?_)
            refine lv_goto (tgt := 7) hx hb dX1_product_47 (by decide) ?_
            exact ih7_1 (i + 1) (by omega) (by omega) ls (lv_sub hl [3, 4, 2, 1, 0] (by rw [e2, e3]; rfl))
  exact L7_1 _ (0) (Nat.lt_succ_self _) (by omega) ls (lv_sub hl [3, 4, 2, 1, 0] rfl)

set_option maxHeartbeats 4000000 in
set_option maxRecDepth 100000 in
theorem c_X1_inverse (l : Launch) (a : B8) : Met l yX1_inverse wsX1_inverse ({ frames := 1, cells := 0, slots := 0, locals := 24 } : Room) (P0 [.int (bI (a))]) (vp_Si (fun r => r = bI (finv a))) 0 0 (fun _ => False) := by
  refine Met.ofW (cc := cX1_inverse) (maxL := 4) (ret := (some .int)) (by decide) rfl ?_
  intro p e s m args below meth c s₁ B hml hv
  obtain ⟨rfl, -⟩ := hv
  have hx := B.exec
  have hb := B.bytes
  have hr := B.returns
  have hts := atoms_spec (ws := wsX1_inverse) B.pre
  have hown : s.vm.findClass RX1 = some m.cls := findClass_of_methodNamed B.named
  have hlocks := B.notSynchronized
  have hl := lv_entry ([.int (bI (a))]) (n := 4) (Nat.le_of_ble_eq_true rfl)
  rw [lg_entry_eq]
  generalize (lg_sl ([.int (bI (a))]) ++ List.replicate (4 - (lg_sl ([.int (bI (a))])).length) Slot.unset).toArray = ls at hl ⊢
  have hl : lv_has ls 4 [(0, .int (bI (a)))] := hl
  refine lv_iconst (v := nI (1)) hx hb dX1_inverse_0 (by decide) ?_
  refine lv_istore_n (lv' := [(1, .int (nI (1))), (0, .int (bI (a)))]) hx hb dX1_inverse_1 rfl hl (by decide) rfl (fun ls hl => ?_)
  refine lv_iload_n hx hb dX1_inverse_2 rfl (lv_at hl 1 rfl) ?_
  refine lv_istore_n (lv' := [(2, .int (bI (a))), (1, .int (nI (1))), (0, .int (bI (a)))]) hx hb dX1_inverse_3 rfl hl (by decide) rfl (fun ls hl => ?_)
  refine lv_iconst (v := nI (1)) hx hb dX1_inverse_4 (by decide) ?_
  refine lv_istore_n (lv' := [(3, .int (nI (1))), (2, .int (bI (a))), (1, .int (nI (1))), (0, .int (bI (a)))]) hx hb dX1_inverse_5 rfl hl (by decide) rfl (fun ls hl => ?_)
  have L6_1 : ∀ (n6_1 : Nat) (j : Nat), 8 - j < n6_1 → (j ≤ 7) → ∀ (ls : Array Slot), lv_has ls 4 [(0, .int (bI (a))), (1, .int (bI ((fps a j).1))), (2, .int (bI ((fps a j).2))), (3, .int (nI (j + 1)))] → W p l e (headSpec wsX1_inverse ({ frames := 1, cells := 0, slots := 0, locals := 24 } : Room)).room s m ([.int (bI (a))] : List Value).toArray below meth c s.heap [] 0 0 (MQ below (vp_Si (fun r => r = bI (finv a))) ([.int (bI (a))] : List Value).toArray s 0 0 (fun _ => False)) (F0 m 6 ls []) := by
    intro n6_1
    induction n6_1 with
    | zero =>
      intro j hn6_1
      exact absurd hn6_1 (Nat.not_lt_zero _)
    | succ n6_1 ih6_1 =>
      intro j hn6_1 hj ls hl
      refine lv_iload_n hx hb dX1_inverse_6 rfl (lv_at hl 3 rfl) ?_
      refine lv_bipush (v := nI (8)) hx hb dX1_inverse_7 (by decide) ?_
      refine q_icmp_ge (u := ((j + 1 : Nat) : Int)) (v := ((8 : Nat) : Int)) (tgt := 30) hx hb dX1_inverse_9 (by decide) (nI_toInt (by omega)) (nI_toInt (by omega)) (fun c_9 => ?_) (fun c_9 => ?_)
      · obtain rfl : 7 = j := by omega
        refine lv_iload_n hx hb dX1_inverse_30 rfl (lv_at hl 1 rfl) ?_
        exact W.iret (v := bI ((fps a 7).1)) hx hb hr (fun t ht hW => ⟨_, rfl, (by rfl), ht⟩) (fun q h => by cases h) dX1_inverse_31
      · skip
        refine lv_iload_n hx hb dX1_inverse_12 rfl (lv_at hl 2 rfl) ?_
        refine lv_iload_n hx hb dX1_inverse_13 rfl (lv_at hl 2 rfl) ?_
        refine q_csi (va_runS (As := [.int (bI ((fps a j).2)), .int (bI ((fps a j).2))]) (rest := []) ⟨hx, hb, hml, hown, hts⟩ (c_X1_product l ((fps a j).2) ((fps a j).2) ) (va_cwS 2 hts gX1_inverse_X1_product rfl rfl rfl hd_X1_product ⟨Nat.le_of_ble_eq_true rfl, Nat.le_of_ble_eq_true rfl⟩) P0_s rfl rfl hl.1 rfl (lv_room (Nat.le_of_ble_eq_true rfl)) dX1_inverse_14 ⟨Nat.le_of_ble_eq_true rfl, Nat.le_of_ble_eq_true rfl⟩) (fun r_14 hr_14 => ?_)
        obtain rfl : r_14 = bI (fm ((fps a j).2) ((fps a j).2)) := hr_14
        refine lv_istore_n (lv' := [(2, .int (bI (fm ((fps a j).2) ((fps a j).2)))), (0, .int (bI (a))), (1, .int (bI ((fps a j).1))), (3, .int (nI (j + 1)))]) hx hb dX1_inverse_17 rfl hl (by decide) rfl (fun ls hl => ?_)
        refine lv_iload_n hx hb dX1_inverse_18 rfl (lv_at hl 2 rfl) ?_
        refine lv_iload_n hx hb dX1_inverse_19 rfl (lv_at hl 0 rfl) ?_
        refine q_csi (va_runS (As := [.int (bI ((fps a j).1)), .int (bI (fm ((fps a j).2) ((fps a j).2)))]) (rest := []) ⟨hx, hb, hml, hown, hts⟩ (c_X1_product l ((fps a j).1) (fm (fps a j).2 (fps a j).2) ) (va_cwS 2 hts gX1_inverse_X1_product rfl rfl rfl hd_X1_product ⟨Nat.le_of_ble_eq_true rfl, Nat.le_of_ble_eq_true rfl⟩) P0_s rfl rfl hl.1 rfl (lv_room (Nat.le_of_ble_eq_true rfl)) dX1_inverse_20 ⟨Nat.le_of_ble_eq_true rfl, Nat.le_of_ble_eq_true rfl⟩) (fun r_20 hr_20 => ?_)
        obtain rfl : r_20 = bI (fm ((fps a j).1) (fm (fps a j).2 (fps a j).2)) := hr_20
        refine lv_istore_n (lv' := [(1, .int (bI (fm ((fps a j).1) (fm (fps a j).2 (fps a j).2)))), (2, .int (bI (fm ((fps a j).2) ((fps a j).2)))), (0, .int (bI (a))), (3, .int (nI (j + 1)))]) hx hb dX1_inverse_23 rfl hl (by decide) rfl (fun ls hl => ?_)
        refine lv_iinc (v := nI (j + 1 + 1)) (lv' := [(3, .int (nI (j + 1 + 1))), (1, .int (bI (fm ((fps a j).1) (fm (fps a j).2 (fps a j).2)))), (2, .int (bI (fm ((fps a j).2) ((fps a j).2)))), (0, .int (bI (a)))]) hx hb dX1_inverse_24 hl (k := 3) rfl (show nI (j + 1) + Int32.ofInt 1 = nI (j + 1 + 1) from nI_add (j + 1) 1) (by decide) rfl (fun ls hl => ?_)
        refine lv_goto (tgt := 6) hx hb dX1_inverse_27 (by decide) ?_
        exact ih6_1 (j + 1) (by omega) (by omega) ls (lv_sub hl [3, 1, 2, 0] rfl)
  exact L6_1 _ (0) (Nat.lt_succ_self _) (by omega) ls (lv_sub hl [3, 2, 1, 0] rfl)

theorem iwX2_clear_X2 : ∀ w ∈ wsX20, w ∈ wsX2_clear := by decide +kernel
set_option maxHeartbeats 4000000 in
set_option maxRecDepth 100000 in
theorem c_X2_clear (l : Launch) (D : va_G) (cI cZ cQ cL : ClassId) (a0 : Nat) (a1 : Nat) (a2 : Nat) (n : Nat) (pp : Nat → B8) (pv : Nat → B8) (sz : Nat) : Met l yX2_clear wsX2_clear ({ frames := 0, cells := 0, slots := 0, locals := 0 } : Room) (PW D (TY cI cZ cQ cL) (wPt cI (a0) (a1) (a2) (n) (pp) (pv)) sz [.ref (a0)]) (QV D (va_A (wPt cI (a0) (a1) (a2) (n) (pp) (pv)) sz) (fun (_ : Unit) => True) (fun _ => (wPt cI (a0) (a1) (a2) (0) (pp) (pv)))) 0 0 (va_A (wPt cI (a0) (a1) (a2) (n) (pp) (pv)) sz) := by
  refine Met.ofW (cc := cX2_clear) (maxL := 1) (ret := none) (by decide) rfl ?_
  intro p e s m args below meth c s₁ B hml hv
  obtain ⟨rfl, hsz, hP, hK, hD0, hN⟩ := hv
  have hx := B.exec
  have hb := B.bytes
  have hr := B.returns
  have hts := atoms_spec (ws := wsX2_clear) B.pre
  have hown : s.vm.findClass RX2 = some m.cls := findClass_of_methodNamed B.named
  have hlocks := B.notSynchronized
  subst hsz
  have hD := hD0.self (sz := s.heap.size)
  generalize hAe : va_A (wPt cI (a0) (a1) (a2) (n) (pp) (pv)) s.heap.size = A at hD ⊢
  have hA : ∀ q : Nat, s.heap.size ≤ q → A q := fun q h => by rw [← hAe]; exact Or.inr h
  have hS : va_S A s.heap s.heap [] := va_S.rf
  have hl := lv_entry ([.ref (a0)]) (n := 1) (Nat.le_of_ble_eq_true rfl)
  rw [lg_entry_eq]
  generalize (lg_sl ([.ref (a0)]) ++ List.replicate (1 - (lg_sl ([.ref (a0)])).length) Slot.unset).toArray = ls at hl ⊢
  have hl : lv_has ls 1 [(0, .ref (a0))] := hl
  refine lv_aload_n hx hb dX2_clear_0 rfl (lv_at hl 0 rfl) ?_
  refine lv_iconst (v := nI (0)) hx hb dX2_clear_1 (by decide) ?_
  refine va_put (D := D) (ci := 1) (v := .int (nI (0))) (ty := .int) (C := RX2) (T := TX2) (N := 3) hx hb hts iwX2_clear_X2 tyX2 tyX2_ok nmX2 hown hK hP hD hS 0 rfl rfl 2 (by decide) (hts (.fieldLink RX2 18 "RepairSender$Points" "count" "I") (List.mem_of_getElem? (i := 1) rfl)) (fun _ h9 => h9) rfl (by decide +kernel) rfl rfl (Nat.le_of_ble_eq_true rfl) dX2_clear_2 (fun H locs hP hD hS => ?_)
  have hP : va_P D vwCl (wPt cI (a0) (a1) (a2) (0) (pp) (pv)) H := hP
  have hD : va_D A (wPt cI (a0) (a1) (a2) (0) (pp) (pv)) := hD
  have hP : va_P D vwCl (wPt cI (a0) (a1) (a2) (0) (pp) (pv)) H := hP
  have hD : va_D A (wPt cI (a0) (a1) (a2) (0) (pp) (pv)) := hD
  exact W.vret hx hb hr (fun t ht hW => ⟨⟨(), rfl, trivial, by rw [ht]; exact hP, hD⟩, hS.F ht⟩) hS.2.2 dX2_clear_5

theorem iwX2_add_X2 : ∀ w ∈ wsX20, w ∈ wsX2_add := by decide +kernel
set_option maxHeartbeats 4000000 in
set_option maxRecDepth 100000 in
theorem c_X2_add (l : Launch) (D : va_G) (cI cZ cQ cL : ClassId) (a0 : Nat) (a1 : Nat) (a2 : Nat) (n : Nat) (pp : Nat → B8) (pv : Nat → B8) (pa : B8) (x : B8) (sz : Nat) (hn : n < 8) : Met l yX2_add wsX2_add ({ frames := 0, cells := 0, slots := 0, locals := 0 } : Room) (PW D (TY cI cZ cQ cL) (wPt cI (a0) (a1) (a2) (n) (pp) (pv)) sz [.ref (a0), .int (bI (pa)), .int (bI (x))]) (QV D (va_A (wPt cI (a0) (a1) (a2) (n) (pp) (pv)) sz) (fun (_ : Unit) => True) (fun _ => (wPt cI (a0) (a1) (a2) (n + 1) (ub pp n pa) (ub pv n x)))) 0 0 (va_A (wPt cI (a0) (a1) (a2) (n) (pp) (pv)) sz) := by
  refine Met.ofW (cc := cX2_add) (maxL := 3) (ret := none) (by decide) rfl ?_
  intro p e s m args below meth c s₁ B hml hv
  obtain ⟨rfl, hsz, hP, hK, hD0, hN⟩ := hv
  have hx := B.exec
  have hb := B.bytes
  have hr := B.returns
  have hts := atoms_spec (ws := wsX2_add) B.pre
  have hown : s.vm.findClass RX2 = some m.cls := findClass_of_methodNamed B.named
  have hlocks := B.notSynchronized
  subst hsz
  have hD := hD0.self (sz := s.heap.size)
  generalize hAe : va_A (wPt cI (a0) (a1) (a2) (n) (pp) (pv)) s.heap.size = A at hD ⊢
  have hA : ∀ q : Nat, s.heap.size ≤ q → A q := fun q h => by rw [← hAe]; exact Or.inr h
  have hS : va_S A s.heap s.heap [] := va_S.rf
  have hl := lv_entry ([.ref (a0), .int (bI (pa)), .int (bI (x))]) (n := 3) (Nat.le_of_ble_eq_true rfl)
  rw [lg_entry_eq]
  generalize (lg_sl ([.ref (a0), .int (bI (pa)), .int (bI (x))]) ++ List.replicate (3 - (lg_sl ([.ref (a0), .int (bI (pa)), .int (bI (x))])).length) Slot.unset).toArray = ls at hl ⊢
  have hl : lv_has ls 3 [(0, .ref (a0)), (1, .int (bI (pa))), (2, .int (bI (x)))] := hl
  refine lv_aload_n hx hb dX2_add_0 rfl (lv_at hl 0 rfl) ?_
  refine va_get (D := D) (ci := 1) (v := .int (nI (n))) (C := RX2) (T := TX2) (N := 3) hx hb hts iwX2_add_X2 hown hK hP 0 rfl rfl 2 (by decide) (hts (.fieldLink RX2 18 "RepairSender$Points" "count" "I") (List.mem_of_getElem? (i := 1) rfl)) (fun _ h9 => h9) rfl dX2_add_1 ?_
  refine lv_bipush (v := nI (8)) hx hb dX2_add_4 (by decide) ?_
  refine q_icmp_ge (u := ((n : Nat) : Int)) (v := ((8 : Nat) : Int)) (tgt := 39) hx hb dX2_add_6 (by decide) (nI_toInt (by omega)) (nI_toInt (by omega)) (fun c_6 => absurd c_6 (by omega)) (fun c_6 => ?_)
  refine lv_aload_n hx hb dX2_add_9 rfl (lv_at hl 0 rfl) ?_
  refine va_get (D := D) (ci := 1) (v := .ref (a1)) (C := RX2) (T := TX2) (N := 3) hx hb hts iwX2_add_X2 hown hK hP 0 rfl rfl 0 (by decide) (hts (.fieldLink RX2 9 "RepairSender$Points" "places" "[I") (List.mem_of_getElem? (i := 2) rfl)) (fun _ h9 => h9) rfl dX2_add_10 ?_
  refine lv_aload_n hx hb dX2_add_13 rfl (lv_at hl 0 rfl) ?_
  refine va_get (D := D) (ci := 1) (v := .int (nI (n))) (C := RX2) (T := TX2) (N := 3) hx hb hts iwX2_add_X2 hown hK hP 0 rfl rfl 2 (by decide) (hts (.fieldLink RX2 18 "RepairSender$Points" "count" "I") (List.mem_of_getElem? (i := 1) rfl)) (fun _ h9 => h9) rfl dX2_add_14 ?_
  refine lv_iload_n hx hb dX2_add_17 rfl (lv_at hl 1 rfl) ?_
  refine q_iastB (f := pp) (j := n) (y := pa) hx hb hK hP hD hS 1 0 rfl rfl (by omega) (by decide) dX2_add_18 (fun H locs hP hD hS => ?_)
  have hP : va_P D vwCl (wPt cI (a0) (a1) (a2) (n) (ub pp n pa) (pv)) H := hP
  have hD : va_D A (wPt cI (a0) (a1) (a2) (n) (ub pp n pa) (pv)) := hD
  refine lv_aload_n hx hb dX2_add_19 rfl (lv_at hl 0 rfl) ?_
  refine va_get (D := D) (ci := 1) (v := .ref (a2)) (C := RX2) (T := TX2) (N := 3) hx hb hts iwX2_add_X2 hown hK hP 0 rfl rfl 1 (by decide) (hts (.fieldLink RX2 15 "RepairSender$Points" "values" "[I") (List.mem_of_getElem? (i := 3) rfl)) (fun _ h9 => h9) rfl dX2_add_20 ?_
  refine lv_aload_n hx hb dX2_add_23 rfl (lv_at hl 0 rfl) ?_
  refine va_get (D := D) (ci := 1) (v := .int (nI (n))) (C := RX2) (T := TX2) (N := 3) hx hb hts iwX2_add_X2 hown hK hP 0 rfl rfl 2 (by decide) (hts (.fieldLink RX2 18 "RepairSender$Points" "count" "I") (List.mem_of_getElem? (i := 1) rfl)) (fun _ h9 => h9) rfl dX2_add_24 ?_
  refine lv_iload_n hx hb dX2_add_27 rfl (lv_at hl 2 rfl) ?_
  refine q_iastB (f := pv) (j := n) (y := x) hx hb hK hP hD hS 2 0 rfl rfl (by omega) (by decide) dX2_add_28 (fun H locs hP hD hS => ?_)
  have hP : va_P D vwCl (wPt cI (a0) (a1) (a2) (n) (ub pp n pa) (ub pv n x)) H := hP
  have hD : va_D A (wPt cI (a0) (a1) (a2) (n) (ub pp n pa) (ub pv n x)) := hD
  refine lv_aload_n hx hb dX2_add_29 rfl (lv_at hl 0 rfl) ?_
  refine lv_dup hx hb dX2_add_30 rfl ?_
  refine va_get (D := D) (ci := 1) (v := .int (nI (n))) (C := RX2) (T := TX2) (N := 3) hx hb hts iwX2_add_X2 hown hK hP 0 rfl rfl 2 (by decide) (hts (.fieldLink RX2 18 "RepairSender$Points" "count" "I") (List.mem_of_getElem? (i := 1) rfl)) (fun _ h9 => h9) rfl dX2_add_31 ?_
  refine lv_iconst (v := nI (1)) hx hb dX2_add_34 (by decide) ?_
  refine lv_iadd hx hb dX2_add_35 ?_
  refine q_top (show (nI (n) + nI (1)) = nI (n + 1) from nI_add _ _) ?_
  refine va_put (D := D) (ci := 1) (v := .int (nI (n + 1))) (ty := .int) (C := RX2) (T := TX2) (N := 3) hx hb hts iwX2_add_X2 tyX2 tyX2_ok nmX2 hown hK hP hD hS 0 rfl rfl 2 (by decide) (hts (.fieldLink RX2 18 "RepairSender$Points" "count" "I") (List.mem_of_getElem? (i := 1) rfl)) (fun _ h9 => h9) rfl (by decide +kernel) rfl rfl (Nat.le_of_ble_eq_true rfl) dX2_add_36 (fun H locs hP hD hS => ?_)
  have hP : va_P D vwCl (wPt cI (a0) (a1) (a2) (n + 1) (ub pp n pa) (ub pv n x)) H := hP
  have hD : va_D A (wPt cI (a0) (a1) (a2) (n + 1) (ub pp n pa) (ub pv n x)) := hD
  have hP : va_P D vwCl (wPt cI (a0) (a1) (a2) (n + 1) (ub pp n pa) (ub pv n x)) H := hP
  have hD : va_D A (wPt cI (a0) (a1) (a2) (n + 1) (ub pp n pa) (ub pv n x)) := hD
  exact W.vret hx hb hr (fun t ht hW => ⟨⟨(), rfl, trivial, by rw [ht]; exact hP, hD⟩, hS.F ht⟩) hS.2.2 dX2_add_39

theorem iwX2_weight_X2 : ∀ w ∈ wsX20, w ∈ wsX2_weight := by decide +kernel
set_option maxHeartbeats 4000000 in
set_option maxRecDepth 100000 in
theorem c_X2_weight (l : Launch) (D : va_G) (cI cZ cQ cL : ClassId) (a0 : Nat) (a1 : Nat) (a2 : Nat) (n : Nat) (pp : Nat → B8) (pv : Nat → B8) (i : Nat) (x : B8) (sz : Nat) (hn : n ≤ 8) (hi : i < n) : Met l yX2_weight wsX2_weight ({ frames := 2, cells := 0, slots := 0, locals := 47 } : Room) (PW D (TY cI cZ cQ cL) (wPt cI (a0) (a1) (a2) (n) (pp) (pv)) sz [.ref (a0), .int (nI (i)), .int (bI (x))]) (vp_Si (fun r => r = bI (wgt n pp i x))) 0 0 (fun _ => False) := by
  refine Met.ofW (cc := cX2_weight) (maxL := 6) (ret := (some .int)) (by decide) rfl ?_
  intro p e s m args below meth c s₁ B hml hv
  obtain ⟨rfl, hsz, hP, hK, hD0, hN⟩ := hv
  have hx := B.exec
  have hb := B.bytes
  have hr := B.returns
  have hts := atoms_spec (ws := wsX2_weight) B.pre
  have hown : s.vm.findClass RX2 = some m.cls := findClass_of_methodNamed B.named
  have hlocks := B.notSynchronized
  subst hsz
  have hD := hD0
  have hl := lv_entry ([.ref (a0), .int (nI (i)), .int (bI (x))]) (n := 6) (Nat.le_of_ble_eq_true rfl)
  rw [lg_entry_eq]
  generalize (lg_sl ([.ref (a0), .int (nI (i)), .int (bI (x))]) ++ List.replicate (6 - (lg_sl ([.ref (a0), .int (nI (i)), .int (bI (x))])).length) Slot.unset).toArray = ls at hl ⊢
  have hl : lv_has ls 6 [(0, .ref (a0)), (1, .int (nI (i))), (2, .int (bI (x)))] := hl
  refine lv_iconst (v := nI (1)) hx hb dX2_weight_0 (by decide) ?_
  refine lv_istore_n (lv' := [(3, .int (nI (1))), (0, .ref (a0)), (1, .int (nI (i))), (2, .int (bI (x)))]) hx hb dX2_weight_1 rfl hl (by decide) rfl (fun ls hl => ?_)
  refine lv_iconst (v := nI (1)) hx hb dX2_weight_2 (by decide) ?_
  refine lv_istore (lv' := [(4, .int (nI (1))), (3, .int (nI (1))), (0, .ref (a0)), (1, .int (nI (i))), (2, .int (bI (x)))]) hx hb dX2_weight_3 hl (by decide) rfl (fun ls hl => ?_)
  refine lv_iconst (v := nI (0)) hx hb dX2_weight_5 (by decide) ?_
  refine lv_istore (lv' := [(5, .int (nI (0))), (4, .int (nI (1))), (3, .int (nI (1))), (0, .ref (a0)), (1, .int (nI (i))), (2, .int (bI (x)))]) hx hb dX2_weight_6 hl (by decide) rfl (fun ls hl => ?_)
  have L8_1 : ∀ (n8_1 : Nat) (j : Nat), n - j < n8_1 → (j ≤ n) → ∀ (ls : Array Slot), lv_has ls 6 [(0, .ref (a0)), (1, .int (nI (i))), (2, .int (bI (x))), (3, .int (bI (wab pp i x j))), (4, .int (bI (wab pp i (pp i) j))), (5, .int (nI (j)))] → W p l e (headSpec wsX2_weight ({ frames := 2, cells := 0, slots := 0, locals := 47 } : Room)).room s m ([.ref (a0), .int (nI (i)), .int (bI (x))] : List Value).toArray below meth c s.heap [] 0 0 (MQ below (vp_Si (fun r => r = bI (wgt n pp i x))) ([.ref (a0), .int (nI (i)), .int (bI (x))] : List Value).toArray s 0 0 (fun _ => False)) (F0 m 8 ls []) := by
    intro n8_1
    induction n8_1 with
    | zero =>
      intro j hn8_1
      exact absurd hn8_1 (Nat.not_lt_zero _)
    | succ n8_1 ih8_1 =>
      intro j hn8_1 hj ls hl
      refine lv_iload hx hb dX2_weight_8 (lv_at hl 5 rfl) ?_
      refine lv_aload_n hx hb dX2_weight_10 rfl (lv_at hl 0 rfl) ?_
      refine va_get (D := D) (ci := 1) (v := .int (nI (n))) (C := RX2) (T := TX2) (N := 3) hx hb hts iwX2_weight_X2 hown hK hP 0 rfl rfl 2 (by decide) (hts (.fieldLink RX2 18 "RepairSender$Points" "count" "I") (List.mem_of_getElem? (i := 1) rfl)) (fun _ h9 => h9) rfl dX2_weight_11 ?_
      refine q_icmp_ge (u := ((j : Nat) : Int)) (v := ((n : Nat) : Int)) (tgt := 64) hx hb dX2_weight_14 (by decide) (nI_toInt (by omega)) (nI_toInt (by omega)) (fun c_14 => ?_) (fun c_14 => ?_)
      · obtain rfl : n = j := by omega
        refine lv_iload_n hx hb dX2_weight_64 rfl (lv_at hl 3 rfl) ?_
        refine lv_iload hx hb dX2_weight_65 (lv_at hl 4 rfl) ?_
        refine q_csi (va_runSN (As := [.int (bI (wab pp i (pp i) n))]) (rest := [.int (bI (wab pp i x n))]) ⟨hx, hb, hml, hown, hts⟩ (c_X1_inverse l (wab pp i (pp i) n) ) ⟨va_cnB 1 hts gX2_weight_X1_inverse_n31 rfl rfl rfl (hN _ (List.mem_of_getElem? (i := 12) rfl)) (hts (.initialized RX1) (List.mem_of_getElem? (i := 4) rfl)) hd_X1_inverse ⟨Nat.le_of_ble_eq_true rfl, Nat.le_of_ble_eq_true rfl⟩, (hts (.static yX1_inverse) (List.mem_of_getElem? (i := 6) rfl)), trivial⟩ P0_s rfl rfl hl.1 rfl (lv_room (Nat.le_of_ble_eq_true rfl)) dX2_weight_67 ⟨Nat.le_of_ble_eq_true rfl, Nat.le_of_ble_eq_true rfl⟩) (fun r_67 hr_67 => ?_)
        obtain rfl : r_67 = bI (finv (wab pp i (pp i) n)) := hr_67
        refine q_csi (va_runSN (As := [.int (bI (wab pp i x n)), .int (bI (finv (wab pp i (pp i) n)))]) (rest := []) ⟨hx, hb, hml, hown, hts⟩ (c_X1_product l (wab pp i x n) (finv (wab pp i (pp i) n)) ) ⟨va_cnB 2 hts gX2_weight_X1_product_n26 rfl rfl rfl (hN _ (List.mem_of_getElem? (i := 11) rfl)) (hts (.initialized RX1) (List.mem_of_getElem? (i := 4) rfl)) hd_X1_product ⟨Nat.le_of_ble_eq_true rfl, Nat.le_of_ble_eq_true rfl⟩, (hts (.static yX1_product) (List.mem_of_getElem? (i := 3) rfl)), trivial⟩ P0_s rfl rfl hl.1 rfl (lv_room (Nat.le_of_ble_eq_true rfl)) dX2_weight_70 ⟨Nat.le_of_ble_eq_true rfl, Nat.le_of_ble_eq_true rfl⟩) (fun r_70 hr_70 => ?_)
        obtain rfl : r_70 = bI (fm (wab pp i x n) (finv (wab pp i (pp i) n))) := hr_70
        exact W.iret (v := bI (fm (wab pp i x n) (finv (wab pp i (pp i) n)))) hx hb hr (fun t ht hW => ⟨_, rfl, (by rfl), ht⟩) (fun q h => by cases h) dX2_weight_73
      · skip
        refine lv_iload hx hb dX2_weight_17 (lv_at hl 5 rfl) ?_
        refine lv_iload_n hx hb dX2_weight_19 rfl (lv_at hl 1 rfl) ?_
        refine q_icmp_eq (u := ((j : Nat) : Int)) (v := ((i : Nat) : Int)) (tgt := 58) hx hb dX2_weight_20 (by decide) (nI_toInt (by omega)) (nI_toInt (by omega)) (fun c_20 => ?_) (fun c_20 => ?_)
        · have e3 : ∀ y, wab pp i y (j + 1) = wab pp i y j := fun y => if_pos (by omega)
          have e4 := e3 (pp i)
          have e3 := e3 x
          refine lv_iinc (v := nI (j + 1)) (lv' := [(5, .int (nI (j + 1))), (0, .ref (a0)), (1, .int (nI (i))), (2, .int (bI (x))), (3, .int (bI (wab pp i x j))), (4, .int (bI (wab pp i (pp i) j)))]) hx hb dX2_weight_58 hl (k := 5) rfl (show nI (j) + Int32.ofInt 1 = nI (j + 1) from nI_add (j) 1) (by decide) rfl (fun ls hl => ?_)
          refine lv_goto (tgt := 8) hx hb dX2_weight_61 (by decide) ?_
          exact ih8_1 (j + 1) (by omega) (by omega) ls (lv_sub hl [1, 2, 3, 4, 5, 0] (by rw [e3, e4]; rfl))
        · have e3 : ∀ y, wab pp i y (j + 1) = fm (wab pp i y j) (y ^^^ (pp j)) := fun y => if_neg (by omega)
          have e4 := e3 (pp i)
          have e3 := e3 x
          refine lv_iload_n hx hb dX2_weight_23 rfl (lv_at hl 3 rfl) ?_
          refine lv_iload_n hx hb dX2_weight_24 rfl (lv_at hl 2 rfl) ?_
          refine lv_aload_n hx hb dX2_weight_25 rfl (lv_at hl 0 rfl) ?_
          refine va_get (D := D) (ci := 1) (v := .ref (a1)) (C := RX2) (T := TX2) (N := 3) hx hb hts iwX2_weight_X2 hown hK hP 0 rfl rfl 0 (by decide) (hts (.fieldLink RX2 9 "RepairSender$Points" "places" "[I") (List.mem_of_getElem? (i := 2) rfl)) (fun _ h9 => h9) rfl dX2_weight_26 ?_
          refine lv_iload hx hb dX2_weight_29 (lv_at hl 5 rfl) ?_
          refine q_ialdB (f := pp) (j := j) hx hb hK hP 1 0 rfl rfl (by omega) (by decide) dX2_weight_31 ?_
          refine lv_ixor hx hb dX2_weight_32 ?_
          refine q_top (show (bI (x) ^^^ bI (pp j)) = bI ((x) ^^^ (pp j)) from bI_xor _ _) ?_
          refine q_csi (va_runSN (As := [.int (bI (wab pp i x j)), .int (bI ((x) ^^^ (pp j)))]) (rest := []) ⟨hx, hb, hml, hown, hts⟩ (c_X1_product l (wab pp i x j) (x ^^^ (pp j)) ) ⟨va_cnB 2 hts gX2_weight_X1_product_n26 rfl rfl rfl (hN _ (List.mem_of_getElem? (i := 11) rfl)) (hts (.initialized RX1) (List.mem_of_getElem? (i := 4) rfl)) hd_X1_product ⟨Nat.le_of_ble_eq_true rfl, Nat.le_of_ble_eq_true rfl⟩, (hts (.static yX1_product) (List.mem_of_getElem? (i := 3) rfl)), trivial⟩ P0_s rfl rfl hl.1 rfl (lv_room (Nat.le_of_ble_eq_true rfl)) dX2_weight_33 ⟨Nat.le_of_ble_eq_true rfl, Nat.le_of_ble_eq_true rfl⟩) (fun r_33 hr_33 => ?_)
          obtain rfl : r_33 = bI (fm (wab pp i x j) (x ^^^ (pp j))) := hr_33
          refine lv_istore_n (lv' := [(3, .int (bI (fm (wab pp i x j) (x ^^^ (pp j))))), (0, .ref (a0)), (1, .int (nI (i))), (2, .int (bI (x))), (4, .int (bI (wab pp i (pp i) j))), (5, .int (nI (j)))]) hx hb dX2_weight_36 rfl hl (by decide) rfl (fun ls hl => ?_)
          refine lv_iload hx hb dX2_weight_37 (lv_at hl 4 rfl) ?_
          refine lv_aload_n hx hb dX2_weight_39 rfl (lv_at hl 1 rfl) ?_
          refine va_get (D := D) (ci := 1) (v := .ref (a1)) (C := RX2) (T := TX2) (N := 3) hx hb hts iwX2_weight_X2 hown hK hP 0 rfl rfl 0 (by decide) (hts (.fieldLink RX2 9 "RepairSender$Points" "places" "[I") (List.mem_of_getElem? (i := 2) rfl)) (fun _ h9 => h9) rfl dX2_weight_40 ?_
          refine lv_iload_n hx hb dX2_weight_43 rfl (lv_at hl 2 rfl) ?_
          refine q_ialdB (f := pp) (j := i) hx hb hK hP 1 0 rfl rfl (by omega) (by decide) dX2_weight_44 ?_
          refine lv_aload_n hx hb dX2_weight_45 rfl (lv_at hl 1 rfl) ?_
          refine va_get (D := D) (ci := 1) (v := .ref (a1)) (C := RX2) (T := TX2) (N := 3) hx hb hts iwX2_weight_X2 hown hK hP 0 rfl rfl 0 (by decide) (hts (.fieldLink RX2 9 "RepairSender$Points" "places" "[I") (List.mem_of_getElem? (i := 2) rfl)) (fun _ h9 => h9) rfl dX2_weight_46 ?_
          refine lv_iload hx hb dX2_weight_49 (lv_at hl 5 rfl) ?_
          refine q_ialdB (f := pp) (j := j) hx hb hK hP 1 0 rfl rfl (by omega) (by decide) dX2_weight_51 ?_
          refine lv_ixor hx hb dX2_weight_52 ?_
          refine q_top (show (bI (pp i) ^^^ bI (pp j)) = bI ((pp i) ^^^ (pp j)) from bI_xor _ _) ?_
          refine q_csi (va_runSN (As := [.int (bI (wab pp i (pp i) j)), .int (bI ((pp i) ^^^ (pp j)))]) (rest := []) ⟨hx, hb, hml, hown, hts⟩ (c_X1_product l (wab pp i (pp i) j) ((pp i) ^^^ (pp j)) ) ⟨va_cnB 2 hts gX2_weight_X1_product_n26 rfl rfl rfl (hN _ (List.mem_of_getElem? (i := 11) rfl)) (hts (.initialized RX1) (List.mem_of_getElem? (i := 4) rfl)) hd_X1_product ⟨Nat.le_of_ble_eq_true rfl, Nat.le_of_ble_eq_true rfl⟩, (hts (.static yX1_product) (List.mem_of_getElem? (i := 3) rfl)), trivial⟩ P0_s rfl rfl hl.1 rfl (lv_room (Nat.le_of_ble_eq_true rfl)) dX2_weight_53 ⟨Nat.le_of_ble_eq_true rfl, Nat.le_of_ble_eq_true rfl⟩) (fun r_53 hr_53 => ?_)
          obtain rfl : r_53 = bI (fm (wab pp i (pp i) j) ((pp i) ^^^ (pp j))) := hr_53
          refine lv_istore (lv' := [(4, .int (bI (fm (wab pp i (pp i) j) ((pp i) ^^^ (pp j))))), (3, .int (bI (fm (wab pp i x j) (x ^^^ (pp j))))), (0, .ref (a0)), (1, .int (nI (i))), (2, .int (bI (x))), (5, .int (nI (j)))]) hx hb dX2_weight_56 hl (by decide) rfl (fun ls hl => ?_)
          refine lv_iinc (v := nI (j + 1)) (lv' := [(5, .int (nI (j + 1))), (4, .int (bI (fm (wab pp i (pp i) j) ((pp i) ^^^ (pp j))))), (3, .int (bI (fm (wab pp i x j) (x ^^^ (pp j))))), (0, .ref (a0)), (1, .int (nI (i))), (2, .int (bI (x)))]) hx hb dX2_weight_58 hl (k := 5) rfl (show nI (j) + Int32.ofInt 1 = nI (j + 1) from nI_add (j) 1) (by decide) rfl (fun ls hl => ?_)
          refine lv_goto (tgt := 8) hx hb dX2_weight_61 (by decide) ?_
          exact ih8_1 (j + 1) (by omega) (by omega) ls (lv_sub hl [3, 4, 5, 2, 1, 0] (by rw [e3, e4]; rfl))
  exact L8_1 _ (0) (Nat.lt_succ_self _) (by omega) ls (lv_sub hl [3, 4, 5, 2, 1, 0] rfl)

theorem iwX2_polynomialAt_X2 : ∀ w ∈ wsX20, w ∈ wsX2_polynomialAt := by decide +kernel
set_option maxHeartbeats 4000000 in
set_option maxRecDepth 100000 in
theorem c_X2_polynomialAt (l : Launch) (D : va_G) (cI cZ cQ cL : ClassId) (a0 : Nat) (a1 : Nat) (a2 : Nat) (n : Nat) (pp : Nat → B8) (pv : Nat → B8) (x : B8) (sz : Nat) (hn : n ≤ 8) : Met l yX2_polynomialAt wsX2_polynomialAt ({ frames := 3, cells := 0, slots := 0, locals := 72 } : Room) (PW D (TY cI cZ cQ cL) (wPt cI (a0) (a1) (a2) (n) (pp) (pv)) sz [.ref (a0), .int (bI (x))]) (vp_Si (fun r => r = bI (lag n pp pv x))) 0 0 (fun _ => False) := by
  refine Met.ofW (cc := cX2_polynomialAt) (maxL := 4) (ret := (some .int)) (by decide) rfl ?_
  intro p e s m args below meth c s₁ B hml hv
  obtain ⟨rfl, hsz, hP, hK, hD0, hN⟩ := hv
  have hx := B.exec
  have hb := B.bytes
  have hr := B.returns
  have hts := atoms_spec (ws := wsX2_polynomialAt) B.pre
  have hown : s.vm.findClass RX2 = some m.cls := findClass_of_methodNamed B.named
  have hlocks := B.notSynchronized
  subst hsz
  have hD := hD0
  have hl := lv_entry ([.ref (a0), .int (bI (x))]) (n := 4) (Nat.le_of_ble_eq_true rfl)
  rw [lg_entry_eq]
  generalize (lg_sl ([.ref (a0), .int (bI (x))]) ++ List.replicate (4 - (lg_sl ([.ref (a0), .int (bI (x))])).length) Slot.unset).toArray = ls at hl ⊢
  have hl : lv_has ls 4 [(0, .ref (a0)), (1, .int (bI (x)))] := hl
  refine lv_iconst (v := nI (0)) hx hb dX2_polynomialAt_0 (by decide) ?_
  refine lv_istore_n (lv' := [(2, .int (nI (0))), (0, .ref (a0)), (1, .int (bI (x)))]) hx hb dX2_polynomialAt_1 rfl hl (by decide) rfl (fun ls hl => ?_)
  refine lv_iconst (v := nI (0)) hx hb dX2_polynomialAt_2 (by decide) ?_
  refine lv_istore_n (lv' := [(3, .int (nI (0))), (2, .int (nI (0))), (0, .ref (a0)), (1, .int (bI (x)))]) hx hb dX2_polynomialAt_3 rfl hl (by decide) rfl (fun ls hl => ?_)
  have L4_1 : ∀ (n4_1 : Nat) (i : Nat), n - i < n4_1 → (i ≤ n) → ∀ (ls : Array Slot), lv_has ls 4 [(0, .ref (a0)), (1, .int (bI (x))), (2, .int (bI (fs i (fun q => fm (pv q) (wgt n pp q x))))), (3, .int (nI (i)))] → W p l e (headSpec wsX2_polynomialAt ({ frames := 3, cells := 0, slots := 0, locals := 72 } : Room)).room s m ([.ref (a0), .int (bI (x))] : List Value).toArray below meth c s.heap [] 0 0 (MQ below (vp_Si (fun r => r = bI (lag n pp pv x))) ([.ref (a0), .int (bI (x))] : List Value).toArray s 0 0 (fun _ => False)) (F0 m 4 ls []) := by
    intro n4_1
    induction n4_1 with
    | zero =>
      intro i hn4_1
      exact absurd hn4_1 (Nat.not_lt_zero _)
    | succ n4_1 ih4_1 =>
      intro i hn4_1 hi ls hl
      refine lv_iload_n hx hb dX2_polynomialAt_4 rfl (lv_at hl 3 rfl) ?_
      refine lv_aload_n hx hb dX2_polynomialAt_5 rfl (lv_at hl 0 rfl) ?_
      refine va_get (D := D) (ci := 1) (v := .int (nI (n))) (C := RX2) (T := TX2) (N := 3) hx hb hts iwX2_polynomialAt_X2 hown hK hP 0 rfl rfl 2 (by decide) (hts (.fieldLink RX2 18 "RepairSender$Points" "count" "I") (List.mem_of_getElem? (i := 1) rfl)) (fun _ h9 => h9) rfl dX2_polynomialAt_6 ?_
      refine q_icmp_ge (u := ((i : Nat) : Int)) (v := ((n : Nat) : Int)) (tgt := 36) hx hb dX2_polynomialAt_9 (by decide) (nI_toInt (by omega)) (nI_toInt (by omega)) (fun c_9 => ?_) (fun c_9 => ?_)
      · obtain rfl : n = i := by omega
        refine lv_iload_n hx hb dX2_polynomialAt_36 rfl (lv_at hl 2 rfl) ?_
        exact W.iret (v := bI (fs n (fun q => fm (pv q) (wgt n pp q x)))) hx hb hr (fun t ht hW => ⟨_, rfl, (by rfl), ht⟩) (fun q h => by cases h) dX2_polynomialAt_37
      · skip
        refine lv_iload_n hx hb dX2_polynomialAt_12 rfl (lv_at hl 2 rfl) ?_
        refine lv_aload_n hx hb dX2_polynomialAt_13 rfl (lv_at hl 0 rfl) ?_
        refine va_get (D := D) (ci := 1) (v := .ref (a2)) (C := RX2) (T := TX2) (N := 3) hx hb hts iwX2_polynomialAt_X2 hown hK hP 0 rfl rfl 1 (by decide) (hts (.fieldLink RX2 15 "RepairSender$Points" "values" "[I") (List.mem_of_getElem? (i := 2) rfl)) (fun _ h9 => h9) rfl dX2_polynomialAt_14 ?_
        refine lv_iload_n hx hb dX2_polynomialAt_17 rfl (lv_at hl 3 rfl) ?_
        refine q_ialdB (f := pv) (j := i) hx hb hK hP 2 0 rfl rfl (by omega) (by decide) dX2_polynomialAt_18 ?_
        refine lv_aload_n hx hb dX2_polynomialAt_19 rfl (lv_at hl 0 rfl) ?_
        refine lv_iload_n hx hb dX2_polynomialAt_20 rfl (lv_at hl 3 rfl) ?_
        refine lv_iload_n hx hb dX2_polynomialAt_21 rfl (lv_at hl 1 rfl) ?_
        have hPc : va_P D vwCl (wPt cI (a0) (a1) (a2) (n) (pp) (pv)) s.heap := hP
        refine q_csi (va_runV (As := [.int (nI (i)), .int (bI (x))]) (rest := [.int (bI (pv i)), .int (bI (fs i (fun q => fm (pv q) (wgt n pp q x))))]) ⟨hx, hb, hml, hown, hts⟩ (c_X2_weight l D cI cZ cQ cL (a0) (a1) (a2) (n) (pp) (pv) (i) (x) s.heap.size (by omega) (by omega)) (cwV 2 hts gX2_polynomialAt_X2_weight rfl rfl rfl ⟨rfl, hd_X2_weight⟩ ⟨Nat.le_of_ble_eq_true rfl, Nat.le_of_ble_eq_true rfl⟩) (PW_v (q := (RX2, TX2, 3)) (ci := 1) (q0 := 0) hPc hK hD hN rfl rfl) rfl rfl hl.1 rfl (lv_room (Nat.le_of_ble_eq_true rfl)) dX2_polynomialAt_22 ⟨Nat.le_of_ble_eq_true rfl, Nat.le_of_ble_eq_true rfl⟩) (fun r_22 hr_22 => ?_)
        obtain rfl : r_22 = bI (wgt n pp i x) := hr_22
        refine q_csi (va_runSN (As := [.int (bI (pv i)), .int (bI (wgt n pp i x))]) (rest := [.int (bI (fs i (fun q => fm (pv q) (wgt n pp q x))))]) ⟨hx, hb, hml, hown, hts⟩ (c_X1_product l (pv i) (wgt n pp i x) ) ⟨va_cnB 2 hts gX2_polynomialAt_X1_product_n26 rfl rfl rfl (hN _ (List.mem_of_getElem? (i := 11) rfl)) (hts (.initialized RX1) (List.mem_of_getElem? (i := 10) rfl)) hd_X1_product ⟨Nat.le_of_ble_eq_true rfl, Nat.le_of_ble_eq_true rfl⟩, (hts (.static yX1_product) (List.mem_of_getElem? (i := 9) rfl)), trivial⟩ P0_s rfl rfl hl.1 rfl (lv_room (Nat.le_of_ble_eq_true rfl)) dX2_polynomialAt_25 ⟨Nat.le_of_ble_eq_true rfl, Nat.le_of_ble_eq_true rfl⟩) (fun r_25 hr_25 => ?_)
        obtain rfl : r_25 = bI (fm (pv i) (wgt n pp i x)) := hr_25
        refine lv_ixor hx hb dX2_polynomialAt_28 ?_
        refine q_top (show (bI (fs i (fun q => fm (pv q) (wgt n pp q x))) ^^^ bI (fm (pv i) (wgt n pp i x))) = bI ((fs i (fun q => fm (pv q) (wgt n pp q x))) ^^^ (fm (pv i) (wgt n pp i x))) from bI_xor _ _) ?_
        refine lv_istore_n (lv' := [(2, .int (bI ((fs i (fun q => fm (pv q) (wgt n pp q x))) ^^^ (fm (pv i) (wgt n pp i x))))), (0, .ref (a0)), (1, .int (bI (x))), (3, .int (nI (i)))]) hx hb dX2_polynomialAt_29 rfl hl (by decide) rfl (fun ls hl => ?_)
        refine lv_iinc (v := nI (i + 1)) (lv' := [(3, .int (nI (i + 1))), (2, .int (bI ((fs i (fun q => fm (pv q) (wgt n pp q x))) ^^^ (fm (pv i) (wgt n pp i x))))), (0, .ref (a0)), (1, .int (bI (x)))]) hx hb dX2_polynomialAt_30 hl (k := 3) rfl (show nI (i) + Int32.ofInt 1 = nI (i + 1) from nI_add (i) 1) (by decide) rfl (fun ls hl => ?_)
        refine lv_goto (tgt := 4) hx hb dX2_polynomialAt_33 (by decide) ?_
        exact ih4_1 (i + 1) (by omega) (by omega) ls (lv_sub hl [2, 3, 1, 0] rfl)
  exact L4_1 _ (0) (Nat.lt_succ_self _) (by omega) ls (lv_sub hl [2, 3, 1, 0] rfl)
end
section
/-! what the rows hold, step by step -/
def wrR (n : Nat) (pp pv : Nat → B8) (M : Nat → Nat → B8) (r : Nat) : Nat → Nat → B8 := fun i j => if i < r then (if j < n then fpw (pp i) j else if j = n then pv i else M i j) else M i j
def wrC (n : Nat) (pp pv : Nat → B8) (M : Nat → Nat → B8) (r q : Nat) : Nat → Nat → B8 := fun i j => if i = r ∧ j < q then fpw (pp r) j else wrR n pp pv M r i j
theorem wrR_0 (n : Nat) (pp pv : Nat → B8) (M : Nat → Nat → B8) : wrR n pp pv M 0 = M := by
  funext i j
  simp [wrR]
theorem wrC_0 (n : Nat) (pp pv : Nat → B8) (M : Nat → Nat → B8) (r : Nat) : wrC n pp pv M r 0 = wrR n pp pv M r := by
  funext i j
  simp [wrC]
theorem wrC_s (n : Nat) (pp pv : Nat → B8) (M : Nat → Nat → B8) (r q : Nat) : um (wrC n pp pv M r q) r (ub (wrC n pp pv M r q r) q (fpw (pp r) q)) = wrC n pp pv M r (q + 1) := by
  funext i j
  unfold um
  by_cases h : i = r
  · subst h
    rw [if_pos rfl]
    unfold ub wrC
    by_cases h2 : j = q
    · subst h2
      rw [if_pos rfl, if_pos ⟨rfl, by omega⟩]
    · rw [if_neg h2]
      by_cases h3 : j < q
      · rw [if_pos ⟨rfl, h3⟩, if_pos ⟨rfl, by omega⟩]
      · rw [if_neg (fun z => h3 z.2), if_neg (fun z => by omega)]
  · rw [if_neg h]
    unfold wrC
    rw [if_neg (fun z => h z.1), if_neg (fun z => h z.1)]
theorem wrR_s (n : Nat) (pp pv : Nat → B8) (M : Nat → Nat → B8) (r : Nat) : um (wrC n pp pv M r n) r (ub (wrC n pp pv M r n r) n (pv r)) = wrR n pp pv M (r + 1) := by
  funext i j
  unfold um
  by_cases h : i = r
  · subst h
    rw [if_pos rfl]
    unfold ub wrC wrR
    by_cases h2 : j = n
    · subst h2
      rw [if_pos rfl, if_pos (by omega), if_neg (by omega), if_pos rfl]
    · rw [if_neg h2, if_pos (show i < i + 1 by omega)]
      by_cases h3 : j < n
      · rw [if_pos ⟨rfl, h3⟩, if_pos h3]
      · rw [if_neg (fun z => h3 z.2), if_neg (by omega), if_neg h3, if_neg h2]
  · rw [if_neg h]
    unfold wrC wrR
    rw [if_neg (fun z => h z.1)]
    by_cases h2 : i < r
    · rw [if_pos h2, if_pos (show i < r + 1 by omega)]
    · rw [if_neg h2, if_neg (by omega)]
def scl (M : Nat → Nat → B8) (r0 : Nat) (f : B8) (q : Nat) : Nat → Nat → B8 := fun i j => if i = r0 ∧ j < q then fm (M i j) f else M i j
theorem scl_0 (M : Nat → Nat → B8) (r0 : Nat) (f : B8) : scl M r0 f 0 = M := by
  funext i j
  simp [scl]
theorem scl_at (M : Nat → Nat → B8) (r0 : Nat) (f : B8) (q : Nat) : scl M r0 f q r0 q = M r0 q := by simp [scl]
theorem scl_s (M : Nat → Nat → B8) (r0 : Nat) (f : B8) (q : Nat) : um (scl M r0 f q) r0 (ub (scl M r0 f q r0) q (fm (scl M r0 f q r0 q) f)) = scl M r0 f (q + 1) := by
  rw [scl_at]
  funext i j
  unfold um
  by_cases h : i = r0
  · subst h
    rw [if_pos rfl]
    unfold ub scl
    by_cases h2 : j = q
    · subst h2
      rw [if_pos rfl, if_pos ⟨rfl, by omega⟩]
    · rw [if_neg h2]
      by_cases h3 : j < q
      · rw [if_pos ⟨rfl, h3⟩, if_pos ⟨rfl, by omega⟩]
      · rw [if_neg (fun z => h3 z.2), if_neg (fun z => by omega)]
  · rw [if_neg h]
    unfold scl
    rw [if_neg (fun z => h z.1), if_neg (fun z => h z.1)]
def adm (M : Nat → Nat → B8) (r0 ad0 : Nat) (f : B8) (q : Nat) : Nat → Nat → B8 := fun i j => if i = r0 ∧ j < q then M i j ^^^ fm (M ad0 j) f else M i j
theorem adm_0 (M : Nat → Nat → B8) (r0 ad0 : Nat) (f : B8) : adm M r0 ad0 f 0 = M := by
  funext i j
  simp [adm]
theorem adm_s (M : Nat → Nat → B8) {r0 ad0 : Nat} (h0 : r0 ≠ ad0) (f : B8) (q : Nat) : um (adm M r0 ad0 f q) r0 (ub (adm M r0 ad0 f q r0) q ((adm M r0 ad0 f q r0 q) ^^^ (fm (adm M r0 ad0 f q ad0 q) f))) = adm M r0 ad0 f (q + 1) := by
  have e1 : adm M r0 ad0 f q r0 q = M r0 q := by simp [adm]
  have e2 : adm M r0 ad0 f q ad0 q = M ad0 q := by
    unfold adm
    rw [if_neg (fun z => h0 z.1.symm)]
  rw [e1, e2]
  funext i j
  unfold um
  by_cases h : i = r0
  · subst h
    rw [if_pos rfl]
    unfold ub adm
    by_cases h2 : j = q
    · subst h2
      rw [if_pos rfl, if_pos ⟨rfl, by omega⟩]
    · rw [if_neg h2]
      by_cases h3 : j < q
      · rw [if_pos ⟨rfl, h3⟩, if_pos ⟨rfl, by omega⟩]
      · rw [if_neg (fun z => h3 z.2), if_neg (fun z => by omega)]
  · rw [if_neg h]
    unfold adm
    rw [if_neg (fun z => h z.1), if_neg (fun z => h z.1)]
/-- within column t, with q rows seen -/
def elR (n t : Nat) (M : Nat → Nat → B8) (q : Nat) : Nat → Nat → B8 := fun i j => if j ≤ n then (if i = t then fm (M t j) (finv (M t t)) else if i < q then M i j ^^^ fm (fm (M t j) (finv (M t t))) (M i t) else M i j) else M i j
theorem elR_0 (n t : Nat) (M : Nat → Nat → B8) : scl M t (finv (M t t)) (n + 1) = elR n t M 0 := by
  funext i j
  unfold scl elR
  by_cases h : j ≤ n
  · rw [if_pos h]
    by_cases h2 : i = t
    · subst h2
      rw [if_pos ⟨rfl, by omega⟩, if_pos rfl]
    · rw [if_neg (fun z => h2 z.1), if_neg h2, if_neg (by omega)]
  · rw [if_neg h, if_neg (fun z => h (by omega))]
theorem elR_n (n t : Nat) (M : Nat → Nat → B8) : elR n t M n = elS n t M := by
  funext i j
  rfl
theorem elR_t {n t : Nat} (M : Nat → Nat → B8) : elR n t M t = elR n t M (t + 1) := by
  funext i j
  unfold elR
  by_cases h : j ≤ n
  · rw [if_pos h, if_pos h]
    by_cases h2 : i = t
    · rw [if_pos h2, if_pos h2]
    · rw [if_neg h2, if_neg h2]
      by_cases h3 : i < t
      · rw [if_pos h3, if_pos (by omega)]
      · rw [if_neg h3, if_neg (by omega)]
  · rw [if_neg h, if_neg h]
theorem elR_s {n t q : Nat} (M : Nat → Nat → B8) (ht : t ≤ n) (hq : q ≠ t) : adm (elR n t M q) q t (elR n t M q q t) (n + 1) = elR n t M (q + 1) := by
  have e1 : elR n t M q q t = M q t := by
    unfold elR
    rw [if_pos ht, if_neg hq, if_neg (by omega)]
  rw [e1]
  funext i j
  unfold adm
  by_cases h : i = q ∧ j < n + 1
  · obtain ⟨rfl, h2⟩ := h
    rw [if_pos ⟨rfl, h2⟩]
    unfold elR
    rw [if_pos (by omega), if_neg hq, if_neg (by omega), if_pos (by omega), if_pos rfl, if_pos (by omega), if_neg hq, if_pos (by omega)]
  · rw [if_neg h]
    unfold elR
    by_cases h1 : j ≤ n
    · rw [if_pos h1, if_pos h1]
      by_cases h2 : i = t
      · rw [if_pos h2, if_pos h2]
      · rw [if_neg h2, if_neg h2]
        by_cases h3 : i < q
        · rw [if_pos h3, if_pos (by omega)]
        · rw [if_neg h3, if_neg (fun z => h ⟨by omega, by omega⟩)]
    · rw [if_neg h1, if_neg h1]
def pI : Nat → Int32
  | 0 => -1
  | n + 1 => nI n
theorem pI_sub (n : Nat) : nI n - nI 1 = pI n := by
  cases n with
  | zero => decide
  | succ n => exact nI_pred n
theorem pI_m1 (n : Nat) : nI n + Int32.ofInt (-1) = pI n := by
  rw [← pI_sub]
  show nI n + (-1) = nI n - nI 1
  rw [Int32.sub_eq_add_neg]
  rfl
theorem iwX0_write_X2 : ∀ w ∈ wsX20, w ∈ wsX0_write := by decide +kernel
theorem iwX0_write_X0 : ∀ w ∈ wsX00, w ∈ wsX0_write := by decide +kernel
set_option maxHeartbeats 4000000 in
set_option maxRecDepth 100000 in
theorem c_X0_write (l : Launch) (D : va_G) (cI cZ cQ cL : ClassId) (a0 : Nat) (a1 : Nat) (ra : Nat → Nat) (b0 : Nat) (b1 : Nat) (b2 : Nat) (pn : Nat) (pp : Nat → B8) (pv : Nat → B8) (n : Nat) (em : Nat → Nat → B8) (sz : Nat) (hn : pn ≤ 8) : Met l yX0_write wsX0_write ({ frames := 1, cells := 0, slots := 0, locals := 24 } : Room) (PW D (TY cI cZ cQ cL) (wEP cI cQ (a0) (a1) (ra) (b0) (b1) (b2) (pn) (pp) (pv) (n) (em)) sz [.ref (a0), .ref (b0)]) (QV D (va_A (wEP cI cQ (a0) (a1) (ra) (b0) (b1) (b2) (pn) (pp) (pv) (n) (em)) sz) (fun (_ : Unit) => True) (fun _ => (wEP cI cQ (a0) (a1) (ra) (b0) (b1) (b2) (pn) (pp) (pv) (pn) (wrR pn pp pv em pn)))) 0 0 (va_A (wEP cI cQ (a0) (a1) (ra) (b0) (b1) (b2) (pn) (pp) (pv) (n) (em)) sz) := by
  refine Met.ofW (cc := cX0_write) (maxL := 5) (ret := none) (by decide) rfl ?_
  intro p e s m args below meth c s₁ B hml hv
  obtain ⟨rfl, hsz, hP, hK, hD0, hN⟩ := hv
  have hx := B.exec
  have hb := B.bytes
  have hr := B.returns
  have hts := atoms_spec (ws := wsX0_write) B.pre
  have hown : s.vm.findClass RX0 = some m.cls := findClass_of_methodNamed B.named
  have hlocks := B.notSynchronized
  subst hsz
  have hD := hD0.self (sz := s.heap.size)
  generalize hAe : va_A (wEP cI cQ (a0) (a1) (ra) (b0) (b1) (b2) (pn) (pp) (pv) (n) (em)) s.heap.size = A at hD ⊢
  have hA : ∀ q : Nat, s.heap.size ≤ q → A q := fun q h => by rw [← hAe]; exact Or.inr h
  have hS : va_S A s.heap s.heap [] := va_S.rf
  have hl := lv_entry ([.ref (a0), .ref (b0)]) (n := 5) (Nat.le_of_ble_eq_true rfl)
  rw [lg_entry_eq]
  generalize (lg_sl ([.ref (a0), .ref (b0)]) ++ List.replicate (5 - (lg_sl ([.ref (a0), .ref (b0)])).length) Slot.unset).toArray = ls at hl ⊢
  have hl : lv_has ls 5 [(0, .ref (a0)), (1, .ref (b0))] := hl
  refine lv_aload_n hx hb dX0_write_0 rfl (lv_at hl 0 rfl) ?_
  refine lv_aload_n hx hb dX0_write_1 rfl (lv_at hl 1 rfl) ?_
  refine va_getN (D := D) (ci := 1) (v := .int (nI (pn))) (C := RX2) (T := TX2) (N := 3) (host := "RepairSender") hx hb hts iwX0_write_X2 hown hK hP 0 rfl rfl 2 (by decide) (va_Nw.use rfl (hN _ (List.mem_of_getElem? (i := 4) rfl))) (fun _ h9 => h9) rfl dX0_write_2 ?_
  refine va_put (D := D) (ci := 0) (v := .int (nI (pn))) (ty := .int) (C := RX0) (T := TX0) (N := 2) hx hb hts iwX0_write_X0 tyX0 tyX0_ok nmX0 hown hK hP hD hS 3 rfl rfl 1 (by decide) (hts (.fieldLink RX0 22 "RepairSender$Equations" "count" "I") (List.mem_of_getElem? (i := 1) rfl)) (fun _ h9 => h9) rfl (by decide +kernel) rfl rfl (Nat.le_of_ble_eq_true rfl) dX0_write_5 (fun H locs hP hD hS => ?_)
  have hP : va_P D vwCl (wEP cI cQ (a0) (a1) (ra) (b0) (b1) (b2) (pn) (pp) (pv) (pn) (em)) H := hP
  have hD : va_D A (wEP cI cQ (a0) (a1) (ra) (b0) (b1) (b2) (pn) (pp) (pv) (pn) (em)) := hD
  refine lv_iconst (v := nI (0)) hx hb dX0_write_8 (by decide) ?_
  refine lv_istore_n (lv' := [(2, .int (nI (0))), (0, .ref (a0)), (1, .ref (b0))]) hx hb dX0_write_9 rfl hl (by decide) rfl (fun ls hl => ?_)
  have L10_1 : ∀ (n10_1 : Nat) (r : Nat), pn - r < n10_1 → (r ≤ pn) → ∀ (H : Heap) (locs : List Loc), va_P D vwCl (wEP cI cQ (a0) (a1) (ra) (b0) (b1) (b2) (pn) (pp) (pv) (pn) (wrR pn pp pv em r)) H → va_D A (wEP cI cQ (a0) (a1) (ra) (b0) (b1) (b2) (pn) (pp) (pv) (pn) (wrR pn pp pv em r)) → va_S A s.heap H locs → ∀ (ls : Array Slot), lv_has ls 5 [(0, .ref (a0)), (1, .ref (b0)), (2, .int (nI (r)))] → W p l e (headSpec wsX0_write ({ frames := 1, cells := 0, slots := 0, locals := 24 } : Room)).room s m ([.ref (a0), .ref (b0)] : List Value).toArray below meth c H locs 0 0 (MQ below (QV D A (fun (_ : Unit) => True) (fun _ => (wEP cI cQ (a0) (a1) (ra) (b0) (b1) (b2) (pn) (pp) (pv) (pn) (wrR pn pp pv em pn)))) ([.ref (a0), .ref (b0)] : List Value).toArray s 0 0 A) (F0 m 10 ls []) := by
    intro n10_1
    induction n10_1 with
    | zero =>
      intro r hn10_1
      exact absurd hn10_1 (Nat.not_lt_zero _)
    | succ n10_1 ih10_1 =>
      intro r hn10_1 hr1 H locs hP hD hS ls hl
      refine lv_iload_n hx hb dX0_write_10 rfl (lv_at hl 2 rfl) ?_
      refine lv_aload_n hx hb dX0_write_11 rfl (lv_at hl 0 rfl) ?_
      refine va_get (D := D) (ci := 0) (v := .int (nI (pn))) (C := RX0) (T := TX0) (N := 2) hx hb hts iwX0_write_X0 hown hK hP 3 rfl rfl 1 (by decide) (hts (.fieldLink RX0 22 "RepairSender$Equations" "count" "I") (List.mem_of_getElem? (i := 1) rfl)) (fun _ h9 => h9) rfl dX0_write_12 ?_
      refine q_icmp_ge (u := ((r : Nat) : Int)) (v := ((pn : Nat) : Int)) (tgt := 82) hx hb dX0_write_15 (by decide) (nI_toInt (by omega)) (nI_toInt (by omega)) (fun c_15 => ?_) (fun c_15 => ?_)
      · obtain rfl : pn = r := by omega
        have hP : va_P D vwCl (wEP cI cQ (a0) (a1) (ra) (b0) (b1) (b2) (pn) (pp) (pv) (pn) (wrR pn pp pv em pn)) H := hP
        have hD : va_D A (wEP cI cQ (a0) (a1) (ra) (b0) (b1) (b2) (pn) (pp) (pv) (pn) (wrR pn pp pv em pn)) := hD
        exact W.vret hx hb hr (fun t ht hW => ⟨⟨(), rfl, trivial, by rw [ht]; exact hP, hD⟩, hS.F ht⟩) hS.2.2 dX0_write_82
      · skip
        refine lv_iconst (v := nI (1)) hx hb dX0_write_18 (by decide) ?_
        refine q_top (show nI (1) = bI (1) from rfl) ?_
        refine lv_istore_n (lv' := [(3, .int (bI (1))), (0, .ref (a0)), (1, .ref (b0)), (2, .int (nI (r)))]) hx hb dX0_write_19 rfl hl (by decide) rfl (fun ls hl => ?_)
        refine lv_iconst (v := nI (0)) hx hb dX0_write_20 (by decide) ?_
        refine lv_istore (lv' := [(4, .int (nI (0))), (3, .int (bI (1))), (0, .ref (a0)), (1, .ref (b0)), (2, .int (nI (r)))]) hx hb dX0_write_21 hl (by decide) rfl (fun ls hl => ?_)
        have L23_3 : ∀ (n23_3 : Nat) (j : Nat), pn - j < n23_3 → (j ≤ pn) → ∀ (H : Heap) (locs : List Loc), va_P D vwCl (wEP cI cQ (a0) (a1) (ra) (b0) (b1) (b2) (pn) (pp) (pv) (pn) (wrC pn pp pv em r j)) H → va_D A (wEP cI cQ (a0) (a1) (ra) (b0) (b1) (b2) (pn) (pp) (pv) (pn) (wrC pn pp pv em r j)) → va_S A s.heap H locs → ∀ (ls : Array Slot), lv_has ls 5 [(0, .ref (a0)), (1, .ref (b0)), (2, .int (nI (r))), (3, .int (bI (fpw (pp r) j))), (4, .int (nI (j)))] → W p l e (headSpec wsX0_write ({ frames := 1, cells := 0, slots := 0, locals := 24 } : Room)).room s m ([.ref (a0), .ref (b0)] : List Value).toArray below meth c H locs 0 0 (MQ below (QV D A (fun (_ : Unit) => True) (fun _ => (wEP cI cQ (a0) (a1) (ra) (b0) (b1) (b2) (pn) (pp) (pv) (pn) (wrR pn pp pv em pn)))) ([.ref (a0), .ref (b0)] : List Value).toArray s 0 0 A) (F0 m 23 ls []) := by
          intro n23_3
          induction n23_3 with
          | zero =>
            intro j hn23_3
            exact absurd hn23_3 (Nat.not_lt_zero _)
          | succ n23_3 ih23_3 =>
            intro j hn23_3 hj H locs hP hD hS ls hl
            refine lv_iload hx hb dX0_write_23 (lv_at hl 4 rfl) ?_
            refine lv_aload_n hx hb dX0_write_25 rfl (lv_at hl 0 rfl) ?_
            refine va_get (D := D) (ci := 0) (v := .int (nI (pn))) (C := RX0) (T := TX0) (N := 2) hx hb hts iwX0_write_X0 hown hK hP 3 rfl rfl 1 (by decide) (hts (.fieldLink RX0 22 "RepairSender$Equations" "count" "I") (List.mem_of_getElem? (i := 1) rfl)) (fun _ h9 => h9) rfl dX0_write_26 ?_
            refine q_icmp_ge (u := ((j : Nat) : Int)) (v := ((pn : Nat) : Int)) (tgt := 59) hx hb dX0_write_29 (by decide) (nI_toInt (by omega)) (nI_toInt (by omega)) (fun c_29 => ?_) (fun c_29 => ?_)
            · obtain rfl : pn = j := by omega
              refine lv_aload_n hx hb dX0_write_59 rfl (lv_at hl 0 rfl) ?_
              refine va_get (D := D) (ci := 0) (v := .ref (a1)) (C := RX0) (T := TX0) (N := 2) hx hb hts iwX0_write_X0 hown hK hP 3 rfl rfl 0 (by decide) (hts (.fieldLink RX0 11 "RepairSender$Equations" "cells" "[[I") (List.mem_of_getElem? (i := 2) rfl)) (fun _ h9 => h9) rfl dX0_write_60 ?_
              refine lv_iload_n hx hb dX0_write_63 rfl (lv_at hl 2 rfl) ?_
              refine q_aald (b := ra r) (j := r) hx hb hK hP 4 2 rfl rfl (by omega) (by decide) (if_pos (by omega)) dX0_write_64 ?_
              refine lv_aload_n hx hb dX0_write_65 rfl (lv_at hl 0 rfl) ?_
              refine va_get (D := D) (ci := 0) (v := .int (nI (pn))) (C := RX0) (T := TX0) (N := 2) hx hb hts iwX0_write_X0 hown hK hP 3 rfl rfl 1 (by decide) (hts (.fieldLink RX0 22 "RepairSender$Equations" "count" "I") (List.mem_of_getElem? (i := 1) rfl)) (fun _ h9 => h9) rfl dX0_write_66 ?_
              refine lv_aload_n hx hb dX0_write_69 rfl (lv_at hl 1 rfl) ?_
              refine va_getN (D := D) (ci := 1) (v := .ref (b2)) (C := RX2) (T := TX2) (N := 3) (host := "RepairSender") hx hb hts iwX0_write_X2 hown hK hP 0 rfl rfl 1 (by decide) (va_Nw.use rfl (hN _ (List.mem_of_getElem? (i := 2) rfl))) (fun _ h9 => h9) rfl dX0_write_70 ?_
              refine lv_iload_n hx hb dX0_write_73 rfl (lv_at hl 2 rfl) ?_
              refine q_ialdB (f := pv) (j := r) hx hb hK hP 2 0 rfl rfl (by omega) (by decide) dX0_write_74 ?_
              refine q_iastB (f := (wrC pn pp pv em r pn) r) (j := pn) (y := pv r) hx hb hK hP hD hS (5 + r) 0 (eq_row (X := [_, _, _, _, _]) (by omega)) rfl (by omega) (by decide) dX0_write_75 (fun H locs hP hD hS => ?_)
              have eS : List.set (wEP cI cQ (a0) (a1) (ra) (b0) (b1) (b2) (pn) (pp) (pv) (pn) (wrC pn pp pv em r pn)) (5 + r) (ra r, .inl (cI, 9, .inl (bF (ub ((wrC pn pp pv em r pn) r) pn (pv r))))) = (wEP cI cQ (a0) (a1) (ra) (b0) (b1) (b2) (pn) (pp) (pv) (pn) (um (wrC pn pp pv em r pn) r (ub ((wrC pn pp pv em r pn) r) pn (pv r)))) := eq_set (X := [_, _, _, _, _]) (by omega)
              rw [eS] at hP hD
              clear eS
              have hP : va_P D vwCl (wEP cI cQ (a0) (a1) (ra) (b0) (b1) (b2) (pn) (pp) (pv) (pn) (um (wrC pn pp pv em r pn) r (ub ((wrC pn pp pv em r pn) r) pn (pv r)))) H := hP
              have hD : va_D A (wEP cI cQ (a0) (a1) (ra) (b0) (b1) (b2) (pn) (pp) (pv) (pn) (um (wrC pn pp pv em r pn) r (ub ((wrC pn pp pv em r pn) r) pn (pv r)))) := hD
              refine lv_iinc (v := nI (r + 1)) (lv' := [(2, .int (nI (r + 1))), (0, .ref (a0)), (1, .ref (b0)), (3, .int (bI (fpw (pp r) pn))), (4, .int (nI (pn)))]) hx hb dX0_write_76 hl (k := 2) rfl (show nI (r) + Int32.ofInt 1 = nI (r + 1) from nI_add (r) 1) (by decide) rfl (fun ls hl => ?_)
              refine lv_goto (tgt := 10) hx hb dX0_write_79 (by decide) ?_
              have eW : (wEP cI cQ (a0) (a1) (ra) (b0) (b1) (b2) (pn) (pp) (pv) (pn) (um (wrC pn pp pv em r pn) r (ub ((wrC pn pp pv em r pn) r) pn (pv r)))) = (wEP cI cQ (a0) (a1) (ra) (b0) (b1) (b2) (pn) (pp) (pv) (pn) (wrR pn pp pv em (r + 1))) := by rw [wrR_s]
              rw [eW] at hP hD
              clear eW
              exact ih10_1 (r + 1) (by omega) (by omega) _ _ hP hD hS ls (lv_sub hl [1, 2, 0] rfl)
            · skip
              refine lv_aload_n hx hb dX0_write_32 rfl (lv_at hl 0 rfl) ?_
              refine va_get (D := D) (ci := 0) (v := .ref (a1)) (C := RX0) (T := TX0) (N := 2) hx hb hts iwX0_write_X0 hown hK hP 3 rfl rfl 0 (by decide) (hts (.fieldLink RX0 11 "RepairSender$Equations" "cells" "[[I") (List.mem_of_getElem? (i := 2) rfl)) (fun _ h9 => h9) rfl dX0_write_33 ?_
              refine lv_iload_n hx hb dX0_write_36 rfl (lv_at hl 2 rfl) ?_
              refine q_aald (b := ra r) (j := r) hx hb hK hP 4 2 rfl rfl (by omega) (by decide) (if_pos (by omega)) dX0_write_37 ?_
              refine lv_iload hx hb dX0_write_38 (lv_at hl 4 rfl) ?_
              refine lv_iload_n hx hb dX0_write_40 rfl (lv_at hl 3 rfl) ?_
              refine q_iastB (f := (wrC pn pp pv em r j) r) (j := j) (y := fpw (pp r) j) hx hb hK hP hD hS (5 + r) 0 (eq_row (X := [_, _, _, _, _]) (by omega)) rfl (by omega) (by decide) dX0_write_41 (fun H locs hP hD hS => ?_)
              have eS : List.set (wEP cI cQ (a0) (a1) (ra) (b0) (b1) (b2) (pn) (pp) (pv) (pn) (wrC pn pp pv em r j)) (5 + r) (ra r, .inl (cI, 9, .inl (bF (ub ((wrC pn pp pv em r j) r) j (fpw (pp r) j))))) = (wEP cI cQ (a0) (a1) (ra) (b0) (b1) (b2) (pn) (pp) (pv) (pn) (um (wrC pn pp pv em r j) r (ub ((wrC pn pp pv em r j) r) j (fpw (pp r) j)))) := eq_set (X := [_, _, _, _, _]) (by omega)
              rw [eS] at hP hD
              clear eS
              have hP : va_P D vwCl (wEP cI cQ (a0) (a1) (ra) (b0) (b1) (b2) (pn) (pp) (pv) (pn) (um (wrC pn pp pv em r j) r (ub ((wrC pn pp pv em r j) r) j (fpw (pp r) j)))) H := hP
              have hD : va_D A (wEP cI cQ (a0) (a1) (ra) (b0) (b1) (b2) (pn) (pp) (pv) (pn) (um (wrC pn pp pv em r j) r (ub ((wrC pn pp pv em r j) r) j (fpw (pp r) j)))) := hD
              refine lv_iload_n hx hb dX0_write_42 rfl (lv_at hl 3 rfl) ?_
              refine lv_aload_n hx hb dX0_write_43 rfl (lv_at hl 1 rfl) ?_
              refine va_getN (D := D) (ci := 1) (v := .ref (b1)) (C := RX2) (T := TX2) (N := 3) (host := "RepairSender") hx hb hts iwX0_write_X2 hown hK hP 0 rfl rfl 0 (by decide) (va_Nw.use rfl (hN _ (List.mem_of_getElem? (i := 1) rfl))) (fun _ h9 => h9) rfl dX0_write_44 ?_
              refine lv_iload_n hx hb dX0_write_47 rfl (lv_at hl 2 rfl) ?_
              refine q_ialdB (f := pp) (j := r) hx hb hK hP 1 0 rfl rfl (by omega) (by decide) dX0_write_48 ?_
              refine q_csi (va_runSN (As := [.int (bI (fpw (pp r) j)), .int (bI (pp r))]) (rest := []) ⟨hx, hb, hml, hown, hts⟩ (c_X1_product l (fpw (pp r) j) (pp r) ) ⟨va_cnB 2 hts gX0_write_X1_product_n27 rfl rfl rfl (hN _ (List.mem_of_getElem? (i := 14) rfl)) (hts (.initialized RX1) (List.mem_of_getElem? (i := 4) rfl)) hd_X1_product ⟨Nat.le_of_ble_eq_true rfl, Nat.le_of_ble_eq_true rfl⟩, (hts (.static yX1_product) (List.mem_of_getElem? (i := 3) rfl)), trivial⟩ P0_s rfl rfl hl.1 rfl (lv_room (Nat.le_of_ble_eq_true rfl)) dX0_write_49 ⟨Nat.le_of_ble_eq_true rfl, Nat.le_of_ble_eq_true rfl⟩) (fun r_49 hr_49 => ?_)
              obtain rfl : r_49 = bI (fm (fpw (pp r) j) (pp r)) := hr_49
              refine lv_istore_n (lv' := [(3, .int (bI (fm (fpw (pp r) j) (pp r)))), (0, .ref (a0)), (1, .ref (b0)), (2, .int (nI (r))), (4, .int (nI (j)))]) hx hb dX0_write_52 rfl hl (by decide) rfl (fun ls hl => ?_)
              refine lv_iinc (v := nI (j + 1)) (lv' := [(4, .int (nI (j + 1))), (3, .int (bI (fm (fpw (pp r) j) (pp r)))), (0, .ref (a0)), (1, .ref (b0)), (2, .int (nI (r)))]) hx hb dX0_write_53 hl (k := 4) rfl (show nI (j) + Int32.ofInt 1 = nI (j + 1) from nI_add (j) 1) (by decide) rfl (fun ls hl => ?_)
              refine lv_goto (tgt := 23) hx hb dX0_write_56 (by decide) ?_
              have eW : (wEP cI cQ (a0) (a1) (ra) (b0) (b1) (b2) (pn) (pp) (pv) (pn) (um (wrC pn pp pv em r j) r (ub ((wrC pn pp pv em r j) r) j (fpw (pp r) j)))) = (wEP cI cQ (a0) (a1) (ra) (b0) (b1) (b2) (pn) (pp) (pv) (pn) (wrC pn pp pv em r (j + 1))) := by rw [wrC_s]
              rw [eW] at hP hD
              clear eW
              exact ih23_3 (j + 1) (by omega) (by omega) _ _ hP hD hS ls (lv_sub hl [2, 3, 4, 1, 0] rfl)
        have eW : (wEP cI cQ (a0) (a1) (ra) (b0) (b1) (b2) (pn) (pp) (pv) (pn) (wrR pn pp pv em r)) = (wEP cI cQ (a0) (a1) (ra) (b0) (b1) (b2) (pn) (pp) (pv) (pn) (wrC pn pp pv em r 0)) := by rw [wrC_0]
        rw [eW] at hP hD
        clear eW
        exact L23_3 _ (0) (Nat.lt_succ_self _) (by omega) _ _ hP hD hS ls (lv_sub hl [2, 3, 4, 1, 0] rfl)
  have eW : (wEP cI cQ (a0) (a1) (ra) (b0) (b1) (b2) (pn) (pp) (pv) (pn) (em)) = (wEP cI cQ (a0) (a1) (ra) (b0) (b1) (b2) (pn) (pp) (pv) (pn) (wrR pn pp pv em 0)) := by rw [wrR_0]
  rw [eW] at hP hD
  clear eW
  exact L10_1 _ (0) (Nat.lt_succ_self _) (by omega) _ _ hP hD hS ls (lv_sub hl [1, 2, 0] rfl)

theorem iwX0_scaleRow_X0 : ∀ w ∈ wsX00, w ∈ wsX0_scaleRow := by decide +kernel
set_option maxHeartbeats 4000000 in
set_option maxRecDepth 100000 in
theorem c_X0_scaleRow (l : Launch) (D : va_G) (cI cZ cQ cL : ClassId) (a0 : Nat) (a1 : Nat) (ra : Nat → Nat) (n : Nat) (em : Nat → Nat → B8) (r0 : Nat) (fa : B8) (sz : Nat) (hn : n ≤ 8) (hr0 : r0 < 8) : Met l yX0_scaleRow wsX0_scaleRow ({ frames := 1, cells := 0, slots := 0, locals := 24 } : Room) (PW D (TY cI cZ cQ cL) (wEq cI cQ (a0) (a1) (ra) (n) (em)) sz [.ref (a0), .int (nI (r0)), .int (bI (fa))]) (QV D (va_A (wEq cI cQ (a0) (a1) (ra) (n) (em)) sz) (fun (_ : Unit) => True) (fun _ => (wEq cI cQ (a0) (a1) (ra) (n) (scl em r0 fa (n + 1))))) 0 0 (va_A (wEq cI cQ (a0) (a1) (ra) (n) (em)) sz) := by
  refine Met.ofW (cc := cX0_scaleRow) (maxL := 4) (ret := none) (by decide) rfl ?_
  intro p e s m args below meth c s₁ B hml hv
  obtain ⟨rfl, hsz, hP, hK, hD0, hN⟩ := hv
  have hx := B.exec
  have hb := B.bytes
  have hr := B.returns
  have hts := atoms_spec (ws := wsX0_scaleRow) B.pre
  have hown : s.vm.findClass RX0 = some m.cls := findClass_of_methodNamed B.named
  have hlocks := B.notSynchronized
  subst hsz
  have hD := hD0.self (sz := s.heap.size)
  generalize hAe : va_A (wEq cI cQ (a0) (a1) (ra) (n) (em)) s.heap.size = A at hD ⊢
  have hA : ∀ q : Nat, s.heap.size ≤ q → A q := fun q h => by rw [← hAe]; exact Or.inr h
  have hS : va_S A s.heap s.heap [] := va_S.rf
  have hl := lv_entry ([.ref (a0), .int (nI (r0)), .int (bI (fa))]) (n := 4) (Nat.le_of_ble_eq_true rfl)
  rw [lg_entry_eq]
  generalize (lg_sl ([.ref (a0), .int (nI (r0)), .int (bI (fa))]) ++ List.replicate (4 - (lg_sl ([.ref (a0), .int (nI (r0)), .int (bI (fa))])).length) Slot.unset).toArray = ls at hl ⊢
  have hl : lv_has ls 4 [(0, .ref (a0)), (1, .int (nI (r0))), (2, .int (bI (fa)))] := hl
  refine lv_iconst (v := nI (0)) hx hb dX0_scaleRow_0 (by decide) ?_
  refine lv_istore_n (lv' := [(3, .int (nI (0))), (0, .ref (a0)), (1, .int (nI (r0))), (2, .int (bI (fa)))]) hx hb dX0_scaleRow_1 rfl hl (by decide) rfl (fun ls hl => ?_)
  have L2_1 : ∀ (n2_1 : Nat) (j : Nat), n + 1 - j < n2_1 → (j ≤ n + 1) → ∀ (H : Heap) (locs : List Loc), va_P D vwCl (wEq cI cQ (a0) (a1) (ra) (n) (scl em r0 fa j)) H → va_D A (wEq cI cQ (a0) (a1) (ra) (n) (scl em r0 fa j)) → va_S A s.heap H locs → ∀ (ls : Array Slot), lv_has ls 4 [(0, .ref (a0)), (1, .int (nI (r0))), (2, .int (bI (fa))), (3, .int (nI (j)))] → W p l e (headSpec wsX0_scaleRow ({ frames := 1, cells := 0, slots := 0, locals := 24 } : Room)).room s m ([.ref (a0), .int (nI (r0)), .int (bI (fa))] : List Value).toArray below meth c H locs 0 0 (MQ below (QV D A (fun (_ : Unit) => True) (fun _ => (wEq cI cQ (a0) (a1) (ra) (n) (scl em r0 fa (n + 1))))) ([.ref (a0), .int (nI (r0)), .int (bI (fa))] : List Value).toArray s 0 0 A) (F0 m 2 ls []) := by
    intro n2_1
    induction n2_1 with
    | zero =>
      intro j hn2_1
      exact absurd hn2_1 (Nat.not_lt_zero _)
    | succ n2_1 ih2_1 =>
      intro j hn2_1 hj H locs hP hD hS ls hl
      refine lv_iload_n hx hb dX0_scaleRow_2 rfl (lv_at hl 3 rfl) ?_
      refine lv_aload_n hx hb dX0_scaleRow_3 rfl (lv_at hl 0 rfl) ?_
      refine va_get (D := D) (ci := 0) (v := .int (nI (n))) (C := RX0) (T := TX0) (N := 2) hx hb hts iwX0_scaleRow_X0 hown hK hP 0 rfl rfl 1 (by decide) (hts (.fieldLink RX0 22 "RepairSender$Equations" "count" "I") (List.mem_of_getElem? (i := 1) rfl)) (fun _ h9 => h9) rfl dX0_scaleRow_4 ?_
      refine q_icmp_gt (u := ((j : Nat) : Int)) (v := ((n : Nat) : Int)) (tgt := 36) hx hb dX0_scaleRow_7 (by decide) (nI_toInt (by omega)) (nI_toInt (by omega)) (fun c_7 => ?_) (fun c_7 => ?_)
      · obtain rfl : n + 1 = j := by omega
        have hP : va_P D vwCl (wEq cI cQ (a0) (a1) (ra) (n) (scl em r0 fa (n + 1))) H := hP
        have hD : va_D A (wEq cI cQ (a0) (a1) (ra) (n) (scl em r0 fa (n + 1))) := hD
        exact W.vret hx hb hr (fun t ht hW => ⟨⟨(), rfl, trivial, by rw [ht]; exact hP, hD⟩, hS.F ht⟩) hS.2.2 dX0_scaleRow_36
      · skip
        refine lv_aload_n hx hb dX0_scaleRow_10 rfl (lv_at hl 0 rfl) ?_
        refine va_get (D := D) (ci := 0) (v := .ref (a1)) (C := RX0) (T := TX0) (N := 2) hx hb hts iwX0_scaleRow_X0 hown hK hP 0 rfl rfl 0 (by decide) (hts (.fieldLink RX0 11 "RepairSender$Equations" "cells" "[[I") (List.mem_of_getElem? (i := 2) rfl)) (fun _ h9 => h9) rfl dX0_scaleRow_11 ?_
        refine lv_iload_n hx hb dX0_scaleRow_14 rfl (lv_at hl 1 rfl) ?_
        refine q_aald (b := ra r0) (j := r0) hx hb hK hP 1 2 rfl rfl (by omega) (by decide) (if_pos (by omega)) dX0_scaleRow_15 ?_
        refine lv_iload_n hx hb dX0_scaleRow_16 rfl (lv_at hl 3 rfl) ?_
        refine lv_aload_n hx hb dX0_scaleRow_17 rfl (lv_at hl 0 rfl) ?_
        refine va_get (D := D) (ci := 0) (v := .ref (a1)) (C := RX0) (T := TX0) (N := 2) hx hb hts iwX0_scaleRow_X0 hown hK hP 0 rfl rfl 0 (by decide) (hts (.fieldLink RX0 11 "RepairSender$Equations" "cells" "[[I") (List.mem_of_getElem? (i := 2) rfl)) (fun _ h9 => h9) rfl dX0_scaleRow_18 ?_
        refine lv_iload_n hx hb dX0_scaleRow_21 rfl (lv_at hl 1 rfl) ?_
        refine q_aald (b := ra r0) (j := r0) hx hb hK hP 1 2 rfl rfl (by omega) (by decide) (if_pos (by omega)) dX0_scaleRow_22 ?_
        refine lv_iload_n hx hb dX0_scaleRow_23 rfl (lv_at hl 3 rfl) ?_
        refine q_ialdB (f := (scl em r0 fa j) r0) (j := j) hx hb hK hP (2 + r0) 0 (eq_row (X := [_, _]) (by omega)) rfl (by omega) (by decide) dX0_scaleRow_24 ?_
        refine lv_iload_n hx hb dX0_scaleRow_25 rfl (lv_at hl 2 rfl) ?_
        refine q_csi (va_runSN (As := [.int (bI ((scl em r0 fa j) r0 j)), .int (bI (fa))]) (rest := [.int (nI (j)), .ref (ra r0)]) ⟨hx, hb, hml, hown, hts⟩ (c_X1_product l (scl em r0 fa j r0 j) (fa) ) ⟨va_cnB 2 hts gX0_scaleRow_X1_product_n27 rfl rfl rfl (hN _ (List.mem_of_getElem? (i := 14) rfl)) (hts (.initialized RX1) (List.mem_of_getElem? (i := 4) rfl)) hd_X1_product ⟨Nat.le_of_ble_eq_true rfl, Nat.le_of_ble_eq_true rfl⟩, (hts (.static yX1_product) (List.mem_of_getElem? (i := 3) rfl)), trivial⟩ P0_s rfl rfl hl.1 rfl (lv_room (Nat.le_of_ble_eq_true rfl)) dX0_scaleRow_26 ⟨Nat.le_of_ble_eq_true rfl, Nat.le_of_ble_eq_true rfl⟩) (fun r_26 hr_26 => ?_)
        obtain rfl : r_26 = bI (fm (scl em r0 fa j r0 j) fa) := hr_26
        refine q_iastB (f := (scl em r0 fa j) r0) (j := j) (y := fm (scl em r0 fa j r0 j) fa) hx hb hK hP hD hS (2 + r0) 0 (eq_row (X := [_, _]) (by omega)) rfl (by omega) (by decide) dX0_scaleRow_29 (fun H locs hP hD hS => ?_)
        have eS : List.set (wEq cI cQ (a0) (a1) (ra) (n) (scl em r0 fa j)) (2 + r0) (ra r0, .inl (cI, 9, .inl (bF (ub ((scl em r0 fa j) r0) j (fm (scl em r0 fa j r0 j) fa))))) = (wEq cI cQ (a0) (a1) (ra) (n) (um (scl em r0 fa j) r0 (ub ((scl em r0 fa j) r0) j (fm (scl em r0 fa j r0 j) fa)))) := eq_set (X := [_, _]) (by omega)
        rw [eS] at hP hD
        clear eS
        have hP : va_P D vwCl (wEq cI cQ (a0) (a1) (ra) (n) (um (scl em r0 fa j) r0 (ub ((scl em r0 fa j) r0) j (fm (scl em r0 fa j r0 j) fa)))) H := hP
        have hD : va_D A (wEq cI cQ (a0) (a1) (ra) (n) (um (scl em r0 fa j) r0 (ub ((scl em r0 fa j) r0) j (fm (scl em r0 fa j r0 j) fa)))) := hD
        refine lv_iinc (v := nI (j + 1)) (lv' := [(3, .int (nI (j + 1))), (0, .ref (a0)), (1, .int (nI (r0))), (2, .int (bI (fa)))]) hx hb dX0_scaleRow_30 hl (k := 3) rfl (show nI (j) + Int32.ofInt 1 = nI (j + 1) from nI_add (j) 1) (by decide) rfl (fun ls hl => ?_)
        refine lv_goto (tgt := 2) hx hb dX0_scaleRow_33 (by decide) ?_
        have eW : (wEq cI cQ (a0) (a1) (ra) (n) (um (scl em r0 fa j) r0 (ub ((scl em r0 fa j) r0) j (fm (scl em r0 fa j r0 j) fa)))) = (wEq cI cQ (a0) (a1) (ra) (n) (scl em r0 fa (j + 1))) := by rw [scl_s]
        rw [eW] at hP hD
        clear eW
        exact ih2_1 (j + 1) (by omega) (by omega) _ _ hP hD hS ls (lv_sub hl [1, 2, 3, 0] rfl)
  have eW : (wEq cI cQ (a0) (a1) (ra) (n) (em)) = (wEq cI cQ (a0) (a1) (ra) (n) (scl em r0 fa 0)) := by rw [scl_0]
  rw [eW] at hP hD
  clear eW
  exact L2_1 _ (0) (Nat.lt_succ_self _) (by omega) _ _ hP hD hS ls (lv_sub hl [1, 2, 3, 0] rfl)

theorem iwX0_addMultiple_X0 : ∀ w ∈ wsX00, w ∈ wsX0_addMultiple := by decide +kernel
set_option maxHeartbeats 4000000 in
set_option maxRecDepth 100000 in
theorem c_X0_addMultiple (l : Launch) (D : va_G) (cI cZ cQ cL : ClassId) (a0 : Nat) (a1 : Nat) (ra : Nat → Nat) (n : Nat) (em : Nat → Nat → B8) (r0 : Nat) (r1 : Nat) (fa : B8) (sz : Nat) (hn : n ≤ 8) (hr0 : r0 < 8) (hr1 : r1 < 8) (hne : r0 ≠ r1) : Met l yX0_addMultiple wsX0_addMultiple ({ frames := 1, cells := 0, slots := 0, locals := 24 } : Room) (PW D (TY cI cZ cQ cL) (wEq cI cQ (a0) (a1) (ra) (n) (em)) sz [.ref (a0), .int (nI (r0)), .int (nI (r1)), .int (bI (fa))]) (QV D (va_A (wEq cI cQ (a0) (a1) (ra) (n) (em)) sz) (fun (_ : Unit) => True) (fun _ => (wEq cI cQ (a0) (a1) (ra) (n) (adm em r0 r1 fa (n + 1))))) 0 0 (va_A (wEq cI cQ (a0) (a1) (ra) (n) (em)) sz) := by
  refine Met.ofW (cc := cX0_addMultiple) (maxL := 5) (ret := none) (by decide) rfl ?_
  intro p e s m args below meth c s₁ B hml hv
  obtain ⟨rfl, hsz, hP, hK, hD0, hN⟩ := hv
  have hx := B.exec
  have hb := B.bytes
  have hr := B.returns
  have hts := atoms_spec (ws := wsX0_addMultiple) B.pre
  have hown : s.vm.findClass RX0 = some m.cls := findClass_of_methodNamed B.named
  have hlocks := B.notSynchronized
  subst hsz
  have hD := hD0.self (sz := s.heap.size)
  generalize hAe : va_A (wEq cI cQ (a0) (a1) (ra) (n) (em)) s.heap.size = A at hD ⊢
  have hA : ∀ q : Nat, s.heap.size ≤ q → A q := fun q h => by rw [← hAe]; exact Or.inr h
  have hS : va_S A s.heap s.heap [] := va_S.rf
  have hl := lv_entry ([.ref (a0), .int (nI (r0)), .int (nI (r1)), .int (bI (fa))]) (n := 5) (Nat.le_of_ble_eq_true rfl)
  rw [lg_entry_eq]
  generalize (lg_sl ([.ref (a0), .int (nI (r0)), .int (nI (r1)), .int (bI (fa))]) ++ List.replicate (5 - (lg_sl ([.ref (a0), .int (nI (r0)), .int (nI (r1)), .int (bI (fa))])).length) Slot.unset).toArray = ls at hl ⊢
  have hl : lv_has ls 5 [(0, .ref (a0)), (1, .int (nI (r0))), (2, .int (nI (r1))), (3, .int (bI (fa)))] := hl
  refine lv_iconst (v := nI (0)) hx hb dX0_addMultiple_0 (by decide) ?_
  refine lv_istore (lv' := [(4, .int (nI (0))), (0, .ref (a0)), (1, .int (nI (r0))), (2, .int (nI (r1))), (3, .int (bI (fa)))]) hx hb dX0_addMultiple_1 hl (by decide) rfl (fun ls hl => ?_)
  have L3_1 : ∀ (n3_1 : Nat) (j : Nat), n + 1 - j < n3_1 → (j ≤ n + 1) → ∀ (H : Heap) (locs : List Loc), va_P D vwCl (wEq cI cQ (a0) (a1) (ra) (n) (adm em r0 r1 fa j)) H → va_D A (wEq cI cQ (a0) (a1) (ra) (n) (adm em r0 r1 fa j)) → va_S A s.heap H locs → ∀ (ls : Array Slot), lv_has ls 5 [(0, .ref (a0)), (1, .int (nI (r0))), (2, .int (nI (r1))), (3, .int (bI (fa))), (4, .int (nI (j)))] → W p l e (headSpec wsX0_addMultiple ({ frames := 1, cells := 0, slots := 0, locals := 24 } : Room)).room s m ([.ref (a0), .int (nI (r0)), .int (nI (r1)), .int (bI (fa))] : List Value).toArray below meth c H locs 0 0 (MQ below (QV D A (fun (_ : Unit) => True) (fun _ => (wEq cI cQ (a0) (a1) (ra) (n) (adm em r0 r1 fa (n + 1))))) ([.ref (a0), .int (nI (r0)), .int (nI (r1)), .int (bI (fa))] : List Value).toArray s 0 0 A) (F0 m 3 ls []) := by
    intro n3_1
    induction n3_1 with
    | zero =>
      intro j hn3_1
      exact absurd hn3_1 (Nat.not_lt_zero _)
    | succ n3_1 ih3_1 =>
      intro j hn3_1 hj H locs hP hD hS ls hl
      refine lv_iload hx hb dX0_addMultiple_3 (lv_at hl 4 rfl) ?_
      refine lv_aload_n hx hb dX0_addMultiple_5 rfl (lv_at hl 0 rfl) ?_
      refine va_get (D := D) (ci := 0) (v := .int (nI (n))) (C := RX0) (T := TX0) (N := 2) hx hb hts iwX0_addMultiple_X0 hown hK hP 0 rfl rfl 1 (by decide) (hts (.fieldLink RX0 22 "RepairSender$Equations" "count" "I") (List.mem_of_getElem? (i := 1) rfl)) (fun _ h9 => h9) rfl dX0_addMultiple_6 ?_
      refine q_icmp_gt (u := ((j : Nat) : Int)) (v := ((n : Nat) : Int)) (tgt := 43) hx hb dX0_addMultiple_9 (by decide) (nI_toInt (by omega)) (nI_toInt (by omega)) (fun c_9 => ?_) (fun c_9 => ?_)
      · obtain rfl : n + 1 = j := by omega
        have hP : va_P D vwCl (wEq cI cQ (a0) (a1) (ra) (n) (adm em r0 r1 fa (n + 1))) H := hP
        have hD : va_D A (wEq cI cQ (a0) (a1) (ra) (n) (adm em r0 r1 fa (n + 1))) := hD
        exact W.vret hx hb hr (fun t ht hW => ⟨⟨(), rfl, trivial, by rw [ht]; exact hP, hD⟩, hS.F ht⟩) hS.2.2 dX0_addMultiple_43
      · skip
        refine lv_aload_n hx hb dX0_addMultiple_12 rfl (lv_at hl 0 rfl) ?_
        refine va_get (D := D) (ci := 0) (v := .ref (a1)) (C := RX0) (T := TX0) (N := 2) hx hb hts iwX0_addMultiple_X0 hown hK hP 0 rfl rfl 0 (by decide) (hts (.fieldLink RX0 11 "RepairSender$Equations" "cells" "[[I") (List.mem_of_getElem? (i := 2) rfl)) (fun _ h9 => h9) rfl dX0_addMultiple_13 ?_
        refine lv_iload_n hx hb dX0_addMultiple_16 rfl (lv_at hl 1 rfl) ?_
        refine q_aald (b := ra r0) (j := r0) hx hb hK hP 1 2 rfl rfl (by omega) (by decide) (if_pos (by omega)) dX0_addMultiple_17 ?_
        refine lv_iload hx hb dX0_addMultiple_18 (lv_at hl 4 rfl) ?_
        refine lv_dup2_11 hx hb dX0_addMultiple_20 rfl rfl ?_
        refine q_ialdB (f := (adm em r0 r1 fa j) r0) (j := j) hx hb hK hP (2 + r0) 0 (eq_row (X := [_, _]) (by omega)) rfl (by omega) (by decide) dX0_addMultiple_21 ?_
        refine lv_aload_n hx hb dX0_addMultiple_22 rfl (lv_at hl 0 rfl) ?_
        refine va_get (D := D) (ci := 0) (v := .ref (a1)) (C := RX0) (T := TX0) (N := 2) hx hb hts iwX0_addMultiple_X0 hown hK hP 0 rfl rfl 0 (by decide) (hts (.fieldLink RX0 11 "RepairSender$Equations" "cells" "[[I") (List.mem_of_getElem? (i := 2) rfl)) (fun _ h9 => h9) rfl dX0_addMultiple_23 ?_
        refine lv_iload_n hx hb dX0_addMultiple_26 rfl (lv_at hl 2 rfl) ?_
        refine q_aald (b := ra r1) (j := r1) hx hb hK hP 1 2 rfl rfl (by omega) (by decide) (if_pos (by omega)) dX0_addMultiple_27 ?_
        refine lv_iload hx hb dX0_addMultiple_28 (lv_at hl 4 rfl) ?_
        refine q_ialdB (f := (adm em r0 r1 fa j) r1) (j := j) hx hb hK hP (2 + r1) 0 (eq_row (X := [_, _]) (by omega)) rfl (by omega) (by decide) dX0_addMultiple_30 ?_
        refine lv_iload_n hx hb dX0_addMultiple_31 rfl (lv_at hl 3 rfl) ?_
        refine q_csi (va_runSN (As := [.int (bI ((adm em r0 r1 fa j) r1 j)), .int (bI (fa))]) (rest := [.int (bI ((adm em r0 r1 fa j) r0 j)), .int (nI (j)), .ref (ra r0)]) ⟨hx, hb, hml, hown, hts⟩ (c_X1_product l (adm em r0 r1 fa j r1 j) (fa) ) ⟨va_cnB 2 hts gX0_addMultiple_X1_product_n27 rfl rfl rfl (hN _ (List.mem_of_getElem? (i := 14) rfl)) (hts (.initialized RX1) (List.mem_of_getElem? (i := 4) rfl)) hd_X1_product ⟨Nat.le_of_ble_eq_true rfl, Nat.le_of_ble_eq_true rfl⟩, (hts (.static yX1_product) (List.mem_of_getElem? (i := 3) rfl)), trivial⟩ P0_s rfl rfl hl.1 rfl (lv_room (Nat.le_of_ble_eq_true rfl)) dX0_addMultiple_32 ⟨Nat.le_of_ble_eq_true rfl, Nat.le_of_ble_eq_true rfl⟩) (fun r_32 hr_32 => ?_)
        obtain rfl : r_32 = bI (fm (adm em r0 r1 fa j r1 j) fa) := hr_32
        refine lv_ixor hx hb dX0_addMultiple_35 ?_
        refine q_top (show (bI ((adm em r0 r1 fa j) r0 j) ^^^ bI (fm (adm em r0 r1 fa j r1 j) fa)) = bI (((adm em r0 r1 fa j) r0 j) ^^^ (fm (adm em r0 r1 fa j r1 j) fa)) from bI_xor _ _) ?_
        refine q_iastB (f := (adm em r0 r1 fa j) r0) (j := j) (y := ((adm em r0 r1 fa j) r0 j) ^^^ (fm (adm em r0 r1 fa j r1 j) fa)) hx hb hK hP hD hS (2 + r0) 0 (eq_row (X := [_, _]) (by omega)) rfl (by omega) (by decide) dX0_addMultiple_36 (fun H locs hP hD hS => ?_)
        have eS : List.set (wEq cI cQ (a0) (a1) (ra) (n) (adm em r0 r1 fa j)) (2 + r0) (ra r0, .inl (cI, 9, .inl (bF (ub ((adm em r0 r1 fa j) r0) j (((adm em r0 r1 fa j) r0 j) ^^^ (fm (adm em r0 r1 fa j r1 j) fa)))))) = (wEq cI cQ (a0) (a1) (ra) (n) (um (adm em r0 r1 fa j) r0 (ub ((adm em r0 r1 fa j) r0) j (((adm em r0 r1 fa j) r0 j) ^^^ (fm (adm em r0 r1 fa j r1 j) fa))))) := eq_set (X := [_, _]) (by omega)
        rw [eS] at hP hD
        clear eS
        have hP : va_P D vwCl (wEq cI cQ (a0) (a1) (ra) (n) (um (adm em r0 r1 fa j) r0 (ub ((adm em r0 r1 fa j) r0) j (((adm em r0 r1 fa j) r0 j) ^^^ (fm (adm em r0 r1 fa j r1 j) fa))))) H := hP
        have hD : va_D A (wEq cI cQ (a0) (a1) (ra) (n) (um (adm em r0 r1 fa j) r0 (ub ((adm em r0 r1 fa j) r0) j (((adm em r0 r1 fa j) r0 j) ^^^ (fm (adm em r0 r1 fa j r1 j) fa))))) := hD
        refine lv_iinc (v := nI (j + 1)) (lv' := [(4, .int (nI (j + 1))), (0, .ref (a0)), (1, .int (nI (r0))), (2, .int (nI (r1))), (3, .int (bI (fa)))]) hx hb dX0_addMultiple_37 hl (k := 4) rfl (show nI (j) + Int32.ofInt 1 = nI (j + 1) from nI_add (j) 1) (by decide) rfl (fun ls hl => ?_)
        refine lv_goto (tgt := 3) hx hb dX0_addMultiple_40 (by decide) ?_
        have eW : (wEq cI cQ (a0) (a1) (ra) (n) (um (adm em r0 r1 fa j) r0 (ub ((adm em r0 r1 fa j) r0) j (((adm em r0 r1 fa j) r0 j) ^^^ (fm (adm em r0 r1 fa j r1 j) fa))))) = (wEq cI cQ (a0) (a1) (ra) (n) (adm em r0 r1 fa (j + 1))) := by rw [adm_s _ hne]
        rw [eW] at hP hD
        clear eW
        exact ih3_1 (j + 1) (by omega) (by omega) _ _ hP hD hS ls (lv_sub hl [1, 2, 3, 4, 0] rfl)
  have eW : (wEq cI cQ (a0) (a1) (ra) (n) (em)) = (wEq cI cQ (a0) (a1) (ra) (n) (adm em r0 r1 fa 0)) := by rw [adm_0]
  rw [eW] at hP hD
  clear eW
  exact L3_1 _ (0) (Nat.lt_succ_self _) (by omega) _ _ hP hD hS ls (lv_sub hl [1, 2, 3, 4, 0] rfl)

theorem iwX0_solve_X0 : ∀ w ∈ wsX00, w ∈ wsX0_solve := by decide +kernel
set_option maxHeartbeats 4000000 in
set_option maxRecDepth 100000 in
theorem c_X0_solve (l : Launch) (D : va_G) (cI cZ cQ cL : ClassId) (a0 : Nat) (a1 : Nat) (ra : Nat → Nat) (n : Nat) (em : Nat → Nat → B8) (sz : Nat) (hn : n ≤ 8) : Met l yX0_solve wsX0_solve ({ frames := 2, cells := 0, slots := 0, locals := 48 } : Room) (PW D (TY cI cZ cQ cL) (wEq cI cQ (a0) (a1) (ra) (n) (em)) sz [.ref (a0)]) (QV D (va_A (wEq cI cQ (a0) (a1) (ra) (n) (em)) sz) (fun (_ : Unit) => True) (fun _ => (wEq cI cQ (a0) (a1) (ra) (n) (elN n em n)))) 0 0 (va_A (wEq cI cQ (a0) (a1) (ra) (n) (em)) sz) := by
  refine Met.ofW (cc := cX0_solve) (maxL := 3) (ret := none) (by decide) rfl ?_
  intro p e s m args below meth c s₁ B hml hv
  obtain ⟨rfl, hsz, hP, hK, hD0, hN⟩ := hv
  have hx := B.exec
  have hb := B.bytes
  have hr := B.returns
  have hts := atoms_spec (ws := wsX0_solve) B.pre
  have hown : s.vm.findClass RX0 = some m.cls := findClass_of_methodNamed B.named
  have hlocks := B.notSynchronized
  subst hsz
  have hD := hD0.self (sz := s.heap.size)
  generalize hAe : va_A (wEq cI cQ (a0) (a1) (ra) (n) (em)) s.heap.size = A at hD ⊢
  have hA : ∀ q : Nat, s.heap.size ≤ q → A q := fun q h => by rw [← hAe]; exact Or.inr h
  have hS : va_S A s.heap s.heap [] := va_S.rf
  have hl := lv_entry ([.ref (a0)]) (n := 3) (Nat.le_of_ble_eq_true rfl)
  rw [lg_entry_eq]
  generalize (lg_sl ([.ref (a0)]) ++ List.replicate (3 - (lg_sl ([.ref (a0)])).length) Slot.unset).toArray = ls at hl ⊢
  have hl : lv_has ls 3 [(0, .ref (a0))] := hl
  refine lv_iconst (v := nI (0)) hx hb dX0_solve_0 (by decide) ?_
  refine lv_istore_n (lv' := [(1, .int (nI (0))), (0, .ref (a0))]) hx hb dX0_solve_1 rfl hl (by decide) rfl (fun ls hl => ?_)
  have L2_1 : ∀ (n2_1 : Nat) (t : Nat), n - t < n2_1 → (t ≤ n) → ∀ (H : Heap) (locs : List Loc), va_P D vwCl (wEq cI cQ (a0) (a1) (ra) (n) (elN n em t)) H → va_D A (wEq cI cQ (a0) (a1) (ra) (n) (elN n em t)) → va_S A s.heap H locs → ∀ (ls : Array Slot), lv_has ls 3 [(0, .ref (a0)), (1, .int (nI (t)))] → W p l e (headSpec wsX0_solve ({ frames := 2, cells := 0, slots := 0, locals := 48 } : Room)).room s m ([.ref (a0)] : List Value).toArray below meth c H locs 0 0 (MQ below (QV D A (fun (_ : Unit) => True) (fun _ => (wEq cI cQ (a0) (a1) (ra) (n) (elN n em n)))) ([.ref (a0)] : List Value).toArray s 0 0 A) (F0 m 2 ls []) := by
    intro n2_1
    induction n2_1 with
    | zero =>
      intro t hn2_1
      exact absurd hn2_1 (Nat.not_lt_zero _)
    | succ n2_1 ih2_1 =>
      intro t hn2_1 ht H locs hP hD hS ls hl
      refine lv_iload_n hx hb dX0_solve_2 rfl (lv_at hl 1 rfl) ?_
      refine lv_aload_n hx hb dX0_solve_3 rfl (lv_at hl 0 rfl) ?_
      refine va_get (D := D) (ci := 0) (v := .int (nI (n))) (C := RX0) (T := TX0) (N := 2) hx hb hts iwX0_solve_X0 hown hK hP 0 rfl rfl 1 (by decide) (hts (.fieldLink RX0 22 "RepairSender$Equations" "count" "I") (List.mem_of_getElem? (i := 1) rfl)) (fun _ h9 => h9) rfl dX0_solve_4 ?_
      refine q_icmp_ge (u := ((t : Nat) : Int)) (v := ((n : Nat) : Int)) (tgt := 67) hx hb dX0_solve_7 (by decide) (nI_toInt (by omega)) (nI_toInt (by omega)) (fun c_7 => ?_) (fun c_7 => ?_)
      · obtain rfl : n = t := by omega
        have hP : va_P D vwCl (wEq cI cQ (a0) (a1) (ra) (n) (elN n em n)) H := hP
        have hD : va_D A (wEq cI cQ (a0) (a1) (ra) (n) (elN n em n)) := hD
        exact W.vret hx hb hr (fun t ht hW => ⟨⟨(), rfl, trivial, by rw [ht]; exact hP, hD⟩, hS.F ht⟩) hS.2.2 dX0_solve_67
      · skip
        refine lv_aload_n hx hb dX0_solve_10 rfl (lv_at hl 0 rfl) ?_
        refine lv_iload_n hx hb dX0_solve_11 rfl (lv_at hl 1 rfl) ?_
        refine lv_aload_n hx hb dX0_solve_12 rfl (lv_at hl 0 rfl) ?_
        refine va_get (D := D) (ci := 0) (v := .ref (a1)) (C := RX0) (T := TX0) (N := 2) hx hb hts iwX0_solve_X0 hown hK hP 0 rfl rfl 0 (by decide) (hts (.fieldLink RX0 11 "RepairSender$Equations" "cells" "[[I") (List.mem_of_getElem? (i := 2) rfl)) (fun _ h9 => h9) rfl dX0_solve_13 ?_
        refine lv_iload_n hx hb dX0_solve_16 rfl (lv_at hl 1 rfl) ?_
        refine q_aald (b := ra t) (j := t) hx hb hK hP 1 2 rfl rfl (by omega) (by decide) (if_pos (by omega)) dX0_solve_17 ?_
        refine lv_iload_n hx hb dX0_solve_18 rfl (lv_at hl 1 rfl) ?_
        refine q_ialdB (f := (elN n em t) t) (j := t) hx hb hK hP (2 + t) 0 (eq_row (X := [_, _]) (by omega)) rfl (by omega) (by decide) dX0_solve_19 ?_
        refine q_csi (va_runSN (As := [.int (bI ((elN n em t) t t))]) (rest := [.int (nI (t)), .ref (a0)]) ⟨hx, hb, hml, hown, hts⟩ (c_X1_inverse l (elN n em t t t) ) ⟨va_cnB 1 hts gX0_solve_X1_inverse_n36 rfl rfl rfl (hN _ (List.mem_of_getElem? (i := 16) rfl)) (hts (.initialized RX1) (List.mem_of_getElem? (i := 4) rfl)) hd_X1_inverse ⟨Nat.le_of_ble_eq_true rfl, Nat.le_of_ble_eq_true rfl⟩, (hts (.static yX1_inverse) (List.mem_of_getElem? (i := 3) rfl)), trivial⟩ P0_s rfl rfl hl.1 rfl (lv_room (Nat.le_of_ble_eq_true rfl)) dX0_solve_20 ⟨Nat.le_of_ble_eq_true rfl, Nat.le_of_ble_eq_true rfl⟩) (fun r_20 hr_20 => ?_)
        obtain rfl : r_20 = bI (finv (elN n em t t t)) := hr_20
        have hPc : va_P D vwCl (wEq cI cQ (a0) (a1) (ra) (n) ((elN n em t))) H := hP
        refine q_cv (wc := (wEq cI cQ (a0) (a1) (ra) (n) ((elN n em t)))) (wr := []) (w1 := fun _ => (wEq cI cQ (a0) (a1) (ra) (n) (scl (elN n em t) t (finv (elN n em t t t)) (n + 1)))) (va_runV (As := [.int (nI (t)), .int (bI (finv (elN n em t t t)))]) (rest := []) ⟨hx, hb, hml, hown, hts⟩ (c_X0_scaleRow l D cI cZ cQ cL (a0) (a1) (ra) (n) (elN n em t) (t) (finv (elN n em t t t)) H.size (by omega) (by omega)) (cwV 2 hts gX0_solve_X0_scaleRow rfl rfl rfl ⟨rfl, hd_X0_scaleRow⟩ ⟨Nat.le_of_ble_eq_true rfl, Nat.le_of_ble_eq_true rfl⟩) (PW_v (q := (RX0, TX0, 2)) (ci := 0) (q0 := 0) hPc hK hD hN rfl rfl) rfl rfl hl.1 rfl (lv_room (Nat.le_of_ble_eq_true rfl)) dX0_solve_23 ⟨Nat.le_of_ble_eq_true rfl, Nat.le_of_ble_eq_true rfl⟩) hP hD hS hA [0, 1, 2, 3, 4, 5, 6, 7, 8, 9] [] rfl rfl (by decide) (by decide) (fun u_23 H locs h_23 hP hD hS => ?_)
        have hP : va_P D vwCl (wEq cI cQ (a0) (a1) (ra) (n) (scl (elN n em t) t (finv (elN n em t t t)) (n + 1))) H := hP
        have hD : va_D A (wEq cI cQ (a0) (a1) (ra) (n) (scl (elN n em t) t (finv (elN n em t t t)) (n + 1))) := hD
        refine lv_iconst (v := nI (0)) hx hb dX0_solve_26 (by decide) ?_
        refine lv_istore_n (lv' := [(2, .int (nI (0))), (0, .ref (a0)), (1, .int (nI (t)))]) hx hb dX0_solve_27 rfl hl (by decide) rfl (fun ls hl => ?_)
        have L28_3 : ∀ (n28_3 : Nat) (q : Nat), n - q < n28_3 → (q ≤ n) → ∀ (H : Heap) (locs : List Loc), va_P D vwCl (wEq cI cQ (a0) (a1) (ra) (n) (elR n t (elN n em t) q)) H → va_D A (wEq cI cQ (a0) (a1) (ra) (n) (elR n t (elN n em t) q)) → va_S A s.heap H locs → ∀ (ls : Array Slot), lv_has ls 3 [(0, .ref (a0)), (1, .int (nI (t))), (2, .int (nI (q)))] → W p l e (headSpec wsX0_solve ({ frames := 2, cells := 0, slots := 0, locals := 48 } : Room)).room s m ([.ref (a0)] : List Value).toArray below meth c H locs 0 0 (MQ below (QV D A (fun (_ : Unit) => True) (fun _ => (wEq cI cQ (a0) (a1) (ra) (n) (elN n em n)))) ([.ref (a0)] : List Value).toArray s 0 0 A) (F0 m 28 ls []) := by
          intro n28_3
          induction n28_3 with
          | zero =>
            intro q hn28_3
            exact absurd hn28_3 (Nat.not_lt_zero _)
          | succ n28_3 ih28_3 =>
            intro q hn28_3 hq H locs hP hD hS ls hl
            refine lv_iload_n hx hb dX0_solve_28 rfl (lv_at hl 2 rfl) ?_
            refine lv_aload_n hx hb dX0_solve_29 rfl (lv_at hl 0 rfl) ?_
            refine va_get (D := D) (ci := 0) (v := .int (nI (n))) (C := RX0) (T := TX0) (N := 2) hx hb hts iwX0_solve_X0 hown hK hP 0 rfl rfl 1 (by decide) (hts (.fieldLink RX0 22 "RepairSender$Equations" "count" "I") (List.mem_of_getElem? (i := 1) rfl)) (fun _ h9 => h9) rfl dX0_solve_30 ?_
            refine q_icmp_ge (u := ((q : Nat) : Int)) (v := ((n : Nat) : Int)) (tgt := 61) hx hb dX0_solve_33 (by decide) (nI_toInt (by omega)) (nI_toInt (by omega)) (fun c_33 => ?_) (fun c_33 => ?_)
            · obtain rfl : n = q := by omega
              refine lv_iinc (v := nI (t + 1)) (lv' := [(1, .int (nI (t + 1))), (0, .ref (a0)), (2, .int (nI (n)))]) hx hb dX0_solve_61 hl (k := 1) rfl (show nI (t) + Int32.ofInt 1 = nI (t + 1) from nI_add (t) 1) (by decide) rfl (fun ls hl => ?_)
              refine lv_goto (tgt := 2) hx hb dX0_solve_64 (by decide) ?_
              have eW : (wEq cI cQ (a0) (a1) (ra) (n) (elR n t (elN n em t) n)) = (wEq cI cQ (a0) (a1) (ra) (n) (elN n em (t + 1))) := by rw [elR_n]; rfl
              rw [eW] at hP hD
              clear eW
              exact ih2_1 (t + 1) (by omega) (by omega) _ _ hP hD hS ls (lv_sub hl [1, 0] rfl)
            · skip
              refine lv_iload_n hx hb dX0_solve_36 rfl (lv_at hl 2 rfl) ?_
              refine lv_iload_n hx hb dX0_solve_37 rfl (lv_at hl 1 rfl) ?_
              refine q_icmp_eq (u := ((q : Nat) : Int)) (v := ((t : Nat) : Int)) (tgt := 55) hx hb dX0_solve_38 (by decide) (nI_toInt (by omega)) (nI_toInt (by omega)) (fun c_38 => ?_) (fun c_38 => ?_)
              · skip
                refine lv_iinc (v := nI (q + 1)) (lv' := [(2, .int (nI (q + 1))), (0, .ref (a0)), (1, .int (nI (t)))]) hx hb dX0_solve_55 hl (k := 2) rfl (show nI (q) + Int32.ofInt 1 = nI (q + 1) from nI_add (q) 1) (by decide) rfl (fun ls hl => ?_)
                refine lv_goto (tgt := 28) hx hb dX0_solve_58 (by decide) ?_
                have eW : (wEq cI cQ (a0) (a1) (ra) (n) (elR n t (elN n em t) q)) = (wEq cI cQ (a0) (a1) (ra) (n) (elR n t (elN n em t) (q + 1))) := by first | (rw [elR_s _ (by omega) (by omega)]) | (obtain rfl : q = t := (by omega); rw [elR_t])
                rw [eW] at hP hD
                clear eW
                exact ih28_3 (q + 1) (by omega) (by omega) _ _ hP hD hS ls (lv_sub hl [1, 2, 0] rfl)
              · skip
                refine lv_aload_n hx hb dX0_solve_41 rfl (lv_at hl 0 rfl) ?_
                refine lv_iload_n hx hb dX0_solve_42 rfl (lv_at hl 2 rfl) ?_
                refine lv_iload_n hx hb dX0_solve_43 rfl (lv_at hl 1 rfl) ?_
                refine lv_aload_n hx hb dX0_solve_44 rfl (lv_at hl 0 rfl) ?_
                refine va_get (D := D) (ci := 0) (v := .ref (a1)) (C := RX0) (T := TX0) (N := 2) hx hb hts iwX0_solve_X0 hown hK hP 0 rfl rfl 0 (by decide) (hts (.fieldLink RX0 11 "RepairSender$Equations" "cells" "[[I") (List.mem_of_getElem? (i := 2) rfl)) (fun _ h9 => h9) rfl dX0_solve_45 ?_
                refine lv_iload_n hx hb dX0_solve_48 rfl (lv_at hl 2 rfl) ?_
                refine q_aald (b := ra q) (j := q) hx hb hK hP 1 2 rfl rfl (by omega) (by decide) (if_pos (by omega)) dX0_solve_49 ?_
                refine lv_iload_n hx hb dX0_solve_50 rfl (lv_at hl 1 rfl) ?_
                refine q_ialdB (f := (elR n t (elN n em t) q) q) (j := t) hx hb hK hP (2 + q) 0 (eq_row (X := [_, _]) (by omega)) rfl (by omega) (by decide) dX0_solve_51 ?_
                have hPc : va_P D vwCl (wEq cI cQ (a0) (a1) (ra) (n) ((elR n t (elN n em t) q))) H := hP
                refine q_cv (wc := (wEq cI cQ (a0) (a1) (ra) (n) ((elR n t (elN n em t) q)))) (wr := []) (w1 := fun _ => (wEq cI cQ (a0) (a1) (ra) (n) (adm (elR n t (elN n em t) q) q t (elR n t (elN n em t) q q t) (n + 1)))) (va_runV (As := [.int (nI (q)), .int (nI (t)), .int (bI ((elR n t (elN n em t) q) q t))]) (rest := []) ⟨hx, hb, hml, hown, hts⟩ (c_X0_addMultiple l D cI cZ cQ cL (a0) (a1) (ra) (n) (elR n t (elN n em t) q) (q) (t) (elR n t (elN n em t) q q t) H.size (by omega) (by omega) (by omega) (by omega)) (cwV 3 hts gX0_solve_X0_addMultiple rfl rfl rfl ⟨rfl, hd_X0_addMultiple⟩ ⟨Nat.le_of_ble_eq_true rfl, Nat.le_of_ble_eq_true rfl⟩) (PW_v (q := (RX0, TX0, 2)) (ci := 0) (q0 := 0) hPc hK hD hN rfl rfl) rfl rfl hl.1 rfl (lv_room (Nat.le_of_ble_eq_true rfl)) dX0_solve_52 ⟨Nat.le_of_ble_eq_true rfl, Nat.le_of_ble_eq_true rfl⟩) hP hD hS hA [0, 1, 2, 3, 4, 5, 6, 7, 8, 9] [] rfl rfl (by decide) (by decide) (fun u_52 H locs h_52 hP hD hS => ?_)
                have hP : va_P D vwCl (wEq cI cQ (a0) (a1) (ra) (n) (adm (elR n t (elN n em t) q) q t (elR n t (elN n em t) q q t) (n + 1))) H := hP
                have hD : va_D A (wEq cI cQ (a0) (a1) (ra) (n) (adm (elR n t (elN n em t) q) q t (elR n t (elN n em t) q q t) (n + 1))) := hD
                refine lv_iinc (v := nI (q + 1)) (lv' := [(2, .int (nI (q + 1))), (0, .ref (a0)), (1, .int (nI (t)))]) hx hb dX0_solve_55 hl (k := 2) rfl (show nI (q) + Int32.ofInt 1 = nI (q + 1) from nI_add (q) 1) (by decide) rfl (fun ls hl => ?_)
                refine lv_goto (tgt := 28) hx hb dX0_solve_58 (by decide) ?_
                have eW : (wEq cI cQ (a0) (a1) (ra) (n) (adm (elR n t (elN n em t) q) q t (elR n t (elN n em t) q q t) (n + 1))) = (wEq cI cQ (a0) (a1) (ra) (n) (elR n t (elN n em t) (q + 1))) := by first | (rw [elR_s _ (by omega) (by omega)]) | (obtain rfl : q = t := (by omega); rw [elR_t])
                rw [eW] at hP hD
                clear eW
                exact ih28_3 (q + 1) (by omega) (by omega) _ _ hP hD hS ls (lv_sub hl [1, 2, 0] rfl)
        have eW : (wEq cI cQ (a0) (a1) (ra) (n) (scl (elN n em t) t (finv (elN n em t t t)) (n + 1))) = (wEq cI cQ (a0) (a1) (ra) (n) (elR n t (elN n em t) 0)) := by rw [elR_0]
        rw [eW] at hP hD
        clear eW
        exact L28_3 _ (0) (Nat.lt_succ_self _) (by omega) _ _ hP hD hS ls (lv_sub hl [1, 2, 0] rfl)
  exact L2_1 _ (0) (Nat.lt_succ_self _) (by omega) _ _ hP hD hS ls (lv_sub hl [1, 0] rfl)

theorem iwX0_polynomialAt_X0 : ∀ w ∈ wsX00, w ∈ wsX0_polynomialAt := by decide +kernel
set_option maxHeartbeats 4000000 in
set_option maxRecDepth 100000 in
theorem c_X0_polynomialAt (l : Launch) (D : va_G) (cI cZ cQ cL : ClassId) (a0 : Nat) (a1 : Nat) (ra : Nat → Nat) (n : Nat) (em : Nat → Nat → B8) (x : B8) (sz : Nat) (hn : n ≤ 8) : Met l yX0_polynomialAt wsX0_polynomialAt ({ frames := 1, cells := 0, slots := 0, locals := 24 } : Room) (PW D (TY cI cZ cQ cL) (wEq cI cQ (a0) (a1) (ra) (n) (em)) sz [.ref (a0), .int (bI (x))]) (vp_Si (fun r => r = bI (hor n (fun q => em q n) x n))) 0 0 (fun _ => False) := by
  refine Met.ofW (cc := cX0_polynomialAt) (maxL := 4) (ret := (some .int)) (by decide) rfl ?_
  intro p e s m args below meth c s₁ B hml hv
  obtain ⟨rfl, hsz, hP, hK, hD0, hN⟩ := hv
  have hx := B.exec
  have hb := B.bytes
  have hr := B.returns
  have hts := atoms_spec (ws := wsX0_polynomialAt) B.pre
  have hown : s.vm.findClass RX0 = some m.cls := findClass_of_methodNamed B.named
  have hlocks := B.notSynchronized
  subst hsz
  have hD := hD0
  have hl := lv_entry ([.ref (a0), .int (bI (x))]) (n := 4) (Nat.le_of_ble_eq_true rfl)
  rw [lg_entry_eq]
  generalize (lg_sl ([.ref (a0), .int (bI (x))]) ++ List.replicate (4 - (lg_sl ([.ref (a0), .int (bI (x))])).length) Slot.unset).toArray = ls at hl ⊢
  have hl : lv_has ls 4 [(0, .ref (a0)), (1, .int (bI (x)))] := hl
  refine lv_iconst (v := nI (0)) hx hb dX0_polynomialAt_0 (by decide) ?_
  refine lv_istore_n (lv' := [(2, .int (nI (0))), (0, .ref (a0)), (1, .int (bI (x)))]) hx hb dX0_polynomialAt_1 rfl hl (by decide) rfl (fun ls hl => ?_)
  refine lv_aload_n hx hb dX0_polynomialAt_2 rfl (lv_at hl 1 rfl) ?_
  refine va_get (D := D) (ci := 0) (v := .int (nI (n))) (C := RX0) (T := TX0) (N := 2) hx hb hts iwX0_polynomialAt_X0 hown hK hP 0 rfl rfl 1 (by decide) (hts (.fieldLink RX0 22 "RepairSender$Equations" "count" "I") (List.mem_of_getElem? (i := 1) rfl)) (fun _ h9 => h9) rfl dX0_polynomialAt_3 ?_
  refine lv_iconst (v := nI (1)) hx hb dX0_polynomialAt_6 (by decide) ?_
  refine lv_isub hx hb dX0_polynomialAt_7 ?_
  refine q_top (show (nI (n) - nI (1)) = (pI n) from pI_sub n) ?_
  refine lv_istore_n (lv' := [(3, .int (pI n)), (2, .int (nI (0))), (0, .ref (a0)), (1, .int (bI (x)))]) hx hb dX0_polynomialAt_8 rfl hl (by decide) rfl (fun ls hl => ?_)
  have L9_1 : ∀ (n9_1 : Nat) (t : Nat), t < n9_1 → (t ≤ n) → ∀ (ls : Array Slot), lv_has ls 4 [(0, .ref (a0)), (1, .int (bI (x))), (2, .int (bI (hor n (fun q => em q n) x (n - t)))), (3, .int (pI t))] → W p l e (headSpec wsX0_polynomialAt ({ frames := 1, cells := 0, slots := 0, locals := 24 } : Room)).room s m ([.ref (a0), .int (bI (x))] : List Value).toArray below meth c s.heap [] 0 0 (MQ below (vp_Si (fun r => r = bI (hor n (fun q => em q n) x n))) ([.ref (a0), .int (bI (x))] : List Value).toArray s 0 0 (fun _ => False)) (F0 m 9 ls []) := by
    intro n9_1
    induction n9_1 with
    | zero =>
      intro t hn9_1
      exact absurd hn9_1 (Nat.not_lt_zero _)
    | succ n9_1 ih9_1 =>
      intro t hn9_1 ht ls hl
      rcases Nat.eq_zero_or_pos t with rfl | htp
      · skip
        have hl : lv_has ls 4 [(0, .ref (a0)), (1, .int (bI (x))), (2, .int (bI (hor n (fun q => em q n) x (n - 0)))), (3, .int ((-1)))] := hl
        refine lv_iload_n hx hb dX0_polynomialAt_9 rfl (lv_at hl 3 rfl) ?_
        refine q_if_lt (u := (-1 : Int)) (tgt := 37) hx hb dX0_polynomialAt_10 (by decide) (by decide) (fun _ => ?_) (fun c_10 => absurd c_10 (by decide))
        refine lv_iload_n hx hb dX0_polynomialAt_37 rfl (lv_at hl 2 rfl) ?_
        exact W.iret (v := bI (hor n (fun q => em q n) x (n - 0))) hx hb hr (fun t ht hW => ⟨_, rfl, (by rfl), ht⟩) (fun q h => by cases h) dX0_polynomialAt_38
      · obtain ⟨u, rfl⟩ : ∃ u, t = u + 1 := ⟨t - 1, by omega⟩
        have e3 : hor n (fun q => em q n) x (n - u) = (fm (hor n (fun q => em q n) x (n - (u + 1))) x) ^^^ (em u n) := by
          rw [show n - u = (n - (u + 1)) + 1 by omega]
          show (fm (hor n (fun q => em q n) x (n - (u + 1))) x) ^^^ (em (n - 1 - (n - (u + 1))) n) = _
          rw [show n - 1 - (n - (u + 1)) = u by omega]
        have hl : lv_has ls 4 [(0, .ref (a0)), (1, .int (bI (x))), (2, .int (bI (hor n (fun q => em q n) x (n - (u + 1))))), (3, .int (nI (u)))] := hl
        refine lv_iload_n hx hb dX0_polynomialAt_9 rfl (lv_at hl 3 rfl) ?_
        refine q_if_lt (u := ((u : Nat) : Int)) (tgt := 37) hx hb dX0_polynomialAt_10 (by decide) (nI_toInt (by omega)) (fun c_10 => absurd c_10 (by omega)) (fun c_10 => ?_)
        refine lv_iload_n hx hb dX0_polynomialAt_13 rfl (lv_at hl 2 rfl) ?_
        refine lv_iload_n hx hb dX0_polynomialAt_14 rfl (lv_at hl 1 rfl) ?_
        refine q_csi (va_runSN (As := [.int (bI (hor n (fun q => em q n) x (n - (u + 1)))), .int (bI (x))]) (rest := []) ⟨hx, hb, hml, hown, hts⟩ (c_X1_product l (hor n (fun q => em q n) x (n - (u + 1))) (x) ) ⟨va_cnB 2 hts gX0_polynomialAt_X1_product_n27 rfl rfl rfl (hN _ (List.mem_of_getElem? (i := 14) rfl)) (hts (.initialized RX1) (List.mem_of_getElem? (i := 4) rfl)) hd_X1_product ⟨Nat.le_of_ble_eq_true rfl, Nat.le_of_ble_eq_true rfl⟩, (hts (.static yX1_product) (List.mem_of_getElem? (i := 3) rfl)), trivial⟩ P0_s rfl rfl hl.1 rfl (lv_room (Nat.le_of_ble_eq_true rfl)) dX0_polynomialAt_15 ⟨Nat.le_of_ble_eq_true rfl, Nat.le_of_ble_eq_true rfl⟩) (fun r_15 hr_15 => ?_)
        obtain rfl : r_15 = bI (fm (hor n (fun q => em q n) x (n - (u + 1))) x) := hr_15
        refine lv_aload_n hx hb dX0_polynomialAt_18 rfl (lv_at hl 0 rfl) ?_
        refine va_get (D := D) (ci := 0) (v := .ref (a1)) (C := RX0) (T := TX0) (N := 2) hx hb hts iwX0_polynomialAt_X0 hown hK hP 0 rfl rfl 0 (by decide) (hts (.fieldLink RX0 11 "RepairSender$Equations" "cells" "[[I") (List.mem_of_getElem? (i := 2) rfl)) (fun _ h9 => h9) rfl dX0_polynomialAt_19 ?_
        refine lv_iload_n hx hb dX0_polynomialAt_22 rfl (lv_at hl 3 rfl) ?_
        refine q_aald (b := ra u) (j := u) hx hb hK hP 1 2 rfl rfl (by omega) (by decide) (if_pos (by omega)) dX0_polynomialAt_23 ?_
        refine lv_aload_n hx hb dX0_polynomialAt_24 rfl (lv_at hl 0 rfl) ?_
        refine va_get (D := D) (ci := 0) (v := .int (nI (n))) (C := RX0) (T := TX0) (N := 2) hx hb hts iwX0_polynomialAt_X0 hown hK hP 0 rfl rfl 1 (by decide) (hts (.fieldLink RX0 22 "RepairSender$Equations" "count" "I") (List.mem_of_getElem? (i := 1) rfl)) (fun _ h9 => h9) rfl dX0_polynomialAt_25 ?_
        refine q_ialdB (f := em u) (j := n) hx hb hK hP (2 + u) 0 (eq_row (X := [_, _]) (by omega)) rfl (by omega) (by decide) dX0_polynomialAt_28 ?_
        refine lv_ixor hx hb dX0_polynomialAt_29 ?_
        refine q_top (show (bI (fm (hor n (fun q => em q n) x (n - (u + 1))) x) ^^^ bI (em u n)) = bI ((fm (hor n (fun q => em q n) x (n - (u + 1))) x) ^^^ (em u n)) from bI_xor _ _) ?_
        refine lv_istore_n (lv' := [(2, .int (bI ((fm (hor n (fun q => em q n) x (n - (u + 1))) x) ^^^ (em u n)))), (0, .ref (a0)), (1, .int (bI (x))), (3, .int (nI (u)))]) hx hb dX0_polynomialAt_30 rfl hl (by decide) rfl (fun ls hl => ?_)
        refine lv_iinc (v := (pI u)) (lv' := [(3, .int (pI u)), (2, .int (bI ((fm (hor n (fun q => em q n) x (n - (u + 1))) x) ^^^ (em u n)))), (0, .ref (a0)), (1, .int (bI (x)))]) hx hb dX0_polynomialAt_31 hl (k := 3) rfl (pI_m1 u) (by decide) rfl (fun ls hl => ?_)
        refine lv_goto (tgt := 9) hx hb dX0_polynomialAt_34 (by decide) ?_
        exact ih9_1 (u) (by omega) (by omega) ls (lv_sub hl [2, 3, 1, 0] (by rw [e3]; rfl))
  exact L9_1 _ (n) (Nat.lt_succ_self _) (by omega) ls (lv_sub hl [2, 3, 1, 0] (by rw [Nat.sub_self]; rfl))
end
section
/-! the sender's numbers, without the machine -/
def pcn (s : Nat) : Nat → Nat
  | 0 => 0
  | i + 1 => pcn s i + s / 2 ^ i % 2
def pc (s : Nat) : Nat := pcn s 16
def bc1 (s : Nat) : Nat := s - ((s / 2 ^ 1) &&& 1431655765)
def bc2 (y : Nat) : Nat := (y &&& 858993459) + ((y / 2 ^ 2) &&& 858993459)
def bc3 (y : Nat) : Nat := (y + y / 2 ^ 4) &&& 252645135
def bc4 (y : Nat) : Nat := y + y / 2 ^ 8
def bc5 (y : Nat) : Nat := y + y / 2 ^ 16
/-! the counting of bits, tried at every number below 65536, in sixteen parts -/
theorem bc_h0 : ∀ a, a < 16 → ∀ b, b < 256 → bc5 (bc4 (bc3 (bc2 (bc1 ((0 * 16 + a) * 256 + b))))) &&& 63 = pc ((0 * 16 + a) * 256 + b) := by decide +kernel
theorem bc_h1 : ∀ a, a < 16 → ∀ b, b < 256 → bc5 (bc4 (bc3 (bc2 (bc1 ((1 * 16 + a) * 256 + b))))) &&& 63 = pc ((1 * 16 + a) * 256 + b) := by decide +kernel
theorem bc_h2 : ∀ a, a < 16 → ∀ b, b < 256 → bc5 (bc4 (bc3 (bc2 (bc1 ((2 * 16 + a) * 256 + b))))) &&& 63 = pc ((2 * 16 + a) * 256 + b) := by decide +kernel
theorem bc_h3 : ∀ a, a < 16 → ∀ b, b < 256 → bc5 (bc4 (bc3 (bc2 (bc1 ((3 * 16 + a) * 256 + b))))) &&& 63 = pc ((3 * 16 + a) * 256 + b) := by decide +kernel
theorem bc_h4 : ∀ a, a < 16 → ∀ b, b < 256 → bc5 (bc4 (bc3 (bc2 (bc1 ((4 * 16 + a) * 256 + b))))) &&& 63 = pc ((4 * 16 + a) * 256 + b) := by decide +kernel
theorem bc_h5 : ∀ a, a < 16 → ∀ b, b < 256 → bc5 (bc4 (bc3 (bc2 (bc1 ((5 * 16 + a) * 256 + b))))) &&& 63 = pc ((5 * 16 + a) * 256 + b) := by decide +kernel
theorem bc_h6 : ∀ a, a < 16 → ∀ b, b < 256 → bc5 (bc4 (bc3 (bc2 (bc1 ((6 * 16 + a) * 256 + b))))) &&& 63 = pc ((6 * 16 + a) * 256 + b) := by decide +kernel
theorem bc_h7 : ∀ a, a < 16 → ∀ b, b < 256 → bc5 (bc4 (bc3 (bc2 (bc1 ((7 * 16 + a) * 256 + b))))) &&& 63 = pc ((7 * 16 + a) * 256 + b) := by decide +kernel
theorem bc_h8 : ∀ a, a < 16 → ∀ b, b < 256 → bc5 (bc4 (bc3 (bc2 (bc1 ((8 * 16 + a) * 256 + b))))) &&& 63 = pc ((8 * 16 + a) * 256 + b) := by decide +kernel
theorem bc_h9 : ∀ a, a < 16 → ∀ b, b < 256 → bc5 (bc4 (bc3 (bc2 (bc1 ((9 * 16 + a) * 256 + b))))) &&& 63 = pc ((9 * 16 + a) * 256 + b) := by decide +kernel
theorem bc_h10 : ∀ a, a < 16 → ∀ b, b < 256 → bc5 (bc4 (bc3 (bc2 (bc1 ((10 * 16 + a) * 256 + b))))) &&& 63 = pc ((10 * 16 + a) * 256 + b) := by decide +kernel
theorem bc_h11 : ∀ a, a < 16 → ∀ b, b < 256 → bc5 (bc4 (bc3 (bc2 (bc1 ((11 * 16 + a) * 256 + b))))) &&& 63 = pc ((11 * 16 + a) * 256 + b) := by decide +kernel
theorem bc_h12 : ∀ a, a < 16 → ∀ b, b < 256 → bc5 (bc4 (bc3 (bc2 (bc1 ((12 * 16 + a) * 256 + b))))) &&& 63 = pc ((12 * 16 + a) * 256 + b) := by decide +kernel
theorem bc_h13 : ∀ a, a < 16 → ∀ b, b < 256 → bc5 (bc4 (bc3 (bc2 (bc1 ((13 * 16 + a) * 256 + b))))) &&& 63 = pc ((13 * 16 + a) * 256 + b) := by decide +kernel
theorem bc_h14 : ∀ a, a < 16 → ∀ b, b < 256 → bc5 (bc4 (bc3 (bc2 (bc1 ((14 * 16 + a) * 256 + b))))) &&& 63 = pc ((14 * 16 + a) * 256 + b) := by decide +kernel
theorem bc_h15 : ∀ a, a < 16 → ∀ b, b < 256 → bc5 (bc4 (bc3 (bc2 (bc1 ((15 * 16 + a) * 256 + b))))) &&& 63 = pc ((15 * 16 + a) * 256 + b) := by decide +kernel
theorem bc_ok {s : Nat} (h : s < 65536) : bc5 (bc4 (bc3 (bc2 (bc1 s)))) &&& 63 = pc s := by
  have e : (s / 4096 * 16 + s / 256 % 16) * 256 + s % 256 = s := by omega
  have ha : s / 256 % 16 < 16 := by omega
  have hb : s % 256 < 256 := by omega
  have hk : s / 4096 < 16 := by omega
  generalize s / 256 % 16 = a at e ha
  generalize s % 256 = b at e hb
  generalize s / 4096 = k at e hk
  subst e
  rcases (show k = 0 ∨ k = 1 ∨ k = 2 ∨ k = 3 ∨ k = 4 ∨ k = 5 ∨ k = 6 ∨ k = 7 ∨ k = 8 ∨ k = 9 ∨ k = 10 ∨ k = 11 ∨ k = 12 ∨ k = 13 ∨ k = 14 ∨ k = 15 by omega) with rfl | rfl | rfl | rfl | rfl | rfl | rfl | rfl | rfl | rfl | rfl | rfl | rfl | rfl | rfl | rfl
  · exact bc_h0 a ha b hb
  · exact bc_h1 a ha b hb
  · exact bc_h2 a ha b hb
  · exact bc_h3 a ha b hb
  · exact bc_h4 a ha b hb
  · exact bc_h5 a ha b hb
  · exact bc_h6 a ha b hb
  · exact bc_h7 a ha b hb
  · exact bc_h8 a ha b hb
  · exact bc_h9 a ha b hb
  · exact bc_h10 a ha b hb
  · exact bc_h11 a ha b hb
  · exact bc_h12 a ha b hb
  · exact bc_h13 a ha b hb
  · exact bc_h14 a ha b hb
  · exact bc_h15 a ha b hb
end
section
/-! the sender's numbers, without the machine -/
theorem pcn_le (s : Nat) : ∀ i, pcn s i ≤ i
  | 0 => Nat.le_refl _
  | i + 1 => by
    have := pcn_le s i
    show pcn s i + s / 2 ^ i % 2 ≤ i + 1
    omega
theorem pc_le (s : Nat) : pc s ≤ 16 := pcn_le s 16
theorem and_bit (n j : Nat) : n &&& 2 ^ j = 0 ↔ n / 2 ^ j % 2 = 0 := by
  have h1 : n.testBit j = decide (n / 2 ^ j % 2 = 1) := Nat.testBit_eq_decide_div_mod_eq
  constructor
  · intro h
    have h2 : (n &&& 2 ^ j).testBit j = false := by rw [h]; exact Nat.zero_testBit j
    rw [Nat.testBit_and, Nat.testBit_two_pow_self, Bool.and_true, h1] at h2
    have h3 := of_decide_eq_false h2
    omega
  · intro h
    apply Nat.eq_of_testBit_eq
    intro i
    rw [Nat.testBit_and, Nat.zero_testBit]
    by_cases e : i = j
    · subst e
      rw [h1, decide_eq_false (by omega)]
      rfl
    · rw [Nat.testBit_two_pow_of_ne (fun q => e q.symm), Bool.and_false]
theorem or_bit (n t i : Nat) : n / 2 ^ i % 2 ≤ (n ||| t) / 2 ^ i % 2 := by
  have h1 : n.testBit i = decide (n / 2 ^ i % 2 = 1) := Nat.testBit_eq_decide_div_mod_eq
  have h2 : (n ||| t).testBit i = decide ((n ||| t) / 2 ^ i % 2 = 1) := Nat.testBit_eq_decide_div_mod_eq
  rw [Nat.testBit_or, h1] at h2
  rcases Nat.mod_two_eq_zero_or_one (n / 2 ^ i) with h | h
  · omega
  · rw [h] at h2
    have h3 : decide ((n ||| t) / 2 ^ i % 2 = 1) = true := by rw [← h2]; rfl
    have h4 := of_decide_eq_true h3
    omega
theorem pcn_or (n t : Nat) : ∀ i, pcn n i ≤ pcn (n ||| t) i
  | 0 => Nat.le_refl _
  | i + 1 => Nat.add_le_add (pcn_or n t i) (or_bit n t i)
theorem pc_or (n t : Nat) : pc n ≤ pc (n ||| t) := pcn_or n t 16
/-- one packet is sent to the receivers below i -/
def snd1 (i sent : Nat) (los gon S : Nat → Nat) : Nat → Nat := fun r => if r < i ∧ gon r = 0 ∧ los r / 2 ^ (sent % 11) % 2 = 0 then S r ||| 2 ^ (sent % 16) else S r
theorem snd1_0 (sent : Nat) (los gon S : Nat → Nat) : snd1 0 sent los gon S = S := by
  funext r
  simp [snd1]
theorem snd1_at (i sent : Nat) (los gon S : Nat → Nat) : snd1 i sent los gon S i = S i := by simp [snd1]
theorem snd1_y {i sent : Nat} {los gon S : Nat → Nat} (h1 : gon i = 0) (h2 : los i / 2 ^ (sent % 11) % 2 = 0) : un (snd1 i sent los gon S) i ((snd1 i sent los gon S i) ||| 2 ^ (sent % 16)) = snd1 (i + 1) sent los gon S := by
  funext r
  unfold un
  by_cases h : r = i
  · subst h
    rw [if_pos rfl, snd1_at]
    unfold snd1
    rw [if_pos ⟨by omega, h1, h2⟩]
  · rw [if_neg h]
    unfold snd1
    by_cases h3 : r < i ∧ gon r = 0 ∧ los r / 2 ^ (sent % 11) % 2 = 0
    · rw [if_pos h3, if_pos ⟨by omega, h3.2⟩]
    · rw [if_neg h3, if_neg (fun z => h3 ⟨by omega, z.2⟩)]
theorem snd1_n {i sent : Nat} {los gon S : Nat → Nat} (h : ¬ (gon i = 0 ∧ los i / 2 ^ (sent % 11) % 2 = 0)) : snd1 i sent los gon S = snd1 (i + 1) sent los gon S := by
  funext r
  unfold snd1
  by_cases h3 : r < i ∧ gon r = 0 ∧ los r / 2 ^ (sent % 11) % 2 = 0
  · rw [if_pos h3, if_pos ⟨by omega, h3.2⟩]
  · rw [if_neg h3, if_neg (fun z => ?_)]
    by_cases e : r = i
    · subst e
      exact h z.2
    · exact h3 ⟨by omega, z.2⟩
theorem snd1_lt {i sent : Nat} {los gon S : Nat → Nat} (h : ∀ r, r < 6 → S r < 65536) : ∀ r, r < 6 → snd1 i sent los gon S r < 65536 := by
  intro r hr
  unfold snd1
  split
  · exact Nat.or_lt_two_pow (n := 16) (h r hr) (Nat.pow_lt_pow_right (by decide) (Nat.mod_lt _ (by decide)))
  · exact h r hr
theorem snd1_pc (i sent : Nat) (los gon S : Nat → Nat) (r : Nat) : pc (S r) ≤ pc (snd1 i sent los gon S r) := by
  unfold snd1
  split
  · exact pc_or _ _
  · exact Nat.le_refl _
/-- n packets are sent -/
def sndM (rc sent : Nat) (los gon S : Nat → Nat) : Nat → Nat → Nat
  | 0 => S
  | n + 1 => snd1 rc (sent + n) los gon (sndM rc sent los gon S n)
theorem sndM_lt {rc sent : Nat} {los gon S : Nat → Nat} (h : ∀ r, r < 6 → S r < 65536) : ∀ n r, r < 6 → sndM rc sent los gon S n r < 65536
  | 0 => h
  | n + 1 => snd1_lt (sndM_lt h n)
theorem sndM_pc (rc sent : Nat) (los gon S : Nat → Nat) (r : Nat) : ∀ n, pc (S r) ≤ pc (sndM rc sent los gon S n r)
  | 0 => Nat.le_refl _
  | n + 1 => Nat.le_trans (sndM_pc rc sent los gon S r n) (snd1_pc _ _ _ _ _ _)
/-- how many of the first i are live and complete -/
def ccn (k : Nat) (S gon : Nat → Nat) : Nat → Nat
  | 0 => 0
  | i + 1 => if gon i = 0 ∧ k - pc (S i) = 0 then ccn k S gon i + 1 else ccn k S gon i
theorem ccn_le (k : Nat) (S gon : Nat → Nat) : ∀ i, ccn k S gon i ≤ i
  | 0 => Nat.le_refl _
  | i + 1 => by
    have := ccn_le k S gon i
    unfold ccn
    split <;> omega
/-- what a live receiver needs -/
def ndf (k : Nat) (S gon : Nat → Nat) : Nat → Nat := fun r => if gon r = 0 then k - pc (S r) else 0
/-- reports at one wait, hb heard before; i receivers are asked -/
def hrR (nd wai : Nat → Nat) (wt hb : Nat) : Nat → Nat
  | 0 => 0
  | i + 1 => if wai i = wt ∧ 0 < nd i ∧ hb < nd i then hrR nd wai wt hb i + 1 else hrR nd wai wt hb i
def hrK (nd wai : Nat → Nat) (wt hb : Nat) : Nat → Nat
  | 0 => 0
  | i + 1 => if wai i = wt ∧ 0 < nd i ∧ nd i ≤ hb then hrK nd wai wt hb i + 1 else hrK nd wai wt hb i
def hrH (nd wai : Nat → Nat) (wt hb : Nat) : Nat → Nat
  | 0 => hb
  | i + 1 => if wai i = wt ∧ 0 < nd i ∧ hb < nd i then max (hrH nd wai wt hb i) (nd i) else hrH nd wai wt hb i
theorem hrH_le {nd wai : Nat → Nat} {wt hb b : Nat} (h : hb ≤ b) : ∀ i, (∀ r, r < i → nd r ≤ b) → hrH nd wai wt hb i ≤ b
  | 0, _ => h
  | i + 1, hn => by
    have h1 := hrH_le (nd := nd) (wai := wai) (wt := wt) h i (fun r hr => hn r (by omega))
    have h2 := hn i (by omega)
    unfold hrH
    split
    · exact Nat.max_le.mpr ⟨h1, h2⟩
    · exact h1
theorem hrH_ge (nd wai : Nat → Nat) (wt hb : Nat) : ∀ i, hb ≤ hrH nd wai wt hb i
  | 0 => Nat.le_refl _
  | i + 1 => by
    have h1 := hrH_ge nd wai wt hb i
    unfold hrH
    split
    · exact Nat.le_trans h1 (Nat.le_max_left _ _)
    · exact h1
/-- over the waits below w -/
def rnH (nd wai : Nat → Nat) (rc : Nat) : Nat → Nat
  | 0 => 0
  | w + 1 => hrH nd wai w (rnH nd wai rc w) rc
def rnR (nd wai : Nat → Nat) (rc : Nat) : Nat → Nat
  | 0 => 0
  | w + 1 => rnR nd wai rc w + hrR nd wai w (rnH nd wai rc w) rc
def rnK (nd wai : Nat → Nat) (rc : Nat) : Nat → Nat
  | 0 => 0
  | w + 1 => rnK nd wai rc w + hrK nd wai w (rnH nd wai rc w) rc
theorem rnH_le {nd wai : Nat → Nat} {rc b : Nat} (hn : ∀ r, r < rc → nd r ≤ b) : ∀ w, rnH nd wai rc w ≤ b
  | 0 => Nat.zero_le _
  | w + 1 => hrH_le (rnH_le hn w) rc hn
/-- bad rounds: who is live and lacks some has one more; i receivers are asked -/
def bdB (i k : Nat) (S gon bad : Nat → Nat) : Nat → Nat := fun r => if r < i ∧ gon r = 0 ∧ 0 < k - pc (S r) then bad r + 1 else bad r
def bdG (i k pat : Nat) (S gon bad : Nat → Nat) : Nat → Nat := fun r => if r < i ∧ gon r = 0 ∧ 0 < k - pc (S r) then (if pat ≤ bad r + 1 then 1 else 0) else gon r
theorem bdB_0 (k : Nat) (S gon bad : Nat → Nat) : bdB 0 k S gon bad = bad := by
  funext r
  simp [bdB]
theorem bdG_0 (k pat : Nat) (S gon bad : Nat → Nat) : bdG 0 k pat S gon bad = gon := by
  funext r
  simp [bdG]
theorem bdB_at (i k : Nat) (S gon bad : Nat → Nat) : bdB i k S gon bad i = bad i := by simp [bdB]
theorem bdG_at (i k pat : Nat) (S gon bad : Nat → Nat) : bdG i k pat S gon bad i = gon i := by simp [bdG]
theorem bdB_y {i k : Nat} {S gon bad : Nat → Nat} (h1 : gon i = 0) (h2 : 0 < k - pc (S i)) : un (bdB i k S gon bad) i (bad i + 1) = bdB (i + 1) k S gon bad := by
  funext r
  unfold un
  by_cases h : r = i
  · subst h
    rw [if_pos rfl]
    unfold bdB
    rw [if_pos ⟨by omega, h1, h2⟩]
  · rw [if_neg h]
    unfold bdB
    by_cases h3 : r < i ∧ gon r = 0 ∧ 0 < k - pc (S r)
    · rw [if_pos h3, if_pos ⟨by omega, h3.2⟩]
    · rw [if_neg h3, if_neg (fun z => h3 ⟨by omega, z.2⟩)]
theorem bdB_n {i k : Nat} {S gon bad : Nat → Nat} (h : ¬ (gon i = 0 ∧ 0 < k - pc (S i))) : bdB i k S gon bad = bdB (i + 1) k S gon bad := by
  funext r
  unfold bdB
  by_cases h3 : r < i ∧ gon r = 0 ∧ 0 < k - pc (S r)
  · rw [if_pos h3, if_pos ⟨by omega, h3.2⟩]
  · rw [if_neg h3, if_neg (fun z => ?_)]
    by_cases e : r = i
    · subst e
      exact h z.2
    · exact h3 ⟨by omega, z.2⟩
theorem bdG_y {i k pat : Nat} {S gon bad : Nat → Nat} (h1 : gon i = 0) (h2 : 0 < k - pc (S i)) : un (bdG i k pat S gon bad) i (if pat ≤ bad i + 1 then 1 else 0) = bdG (i + 1) k pat S gon bad := by
  funext r
  unfold un
  by_cases h : r = i
  · subst h
    rw [if_pos rfl]
    unfold bdG
    rw [if_pos (show r < r + 1 ∧ gon r = 0 ∧ 0 < k - pc (S r) from ⟨by omega, h1, h2⟩)]
  · rw [if_neg h]
    unfold bdG
    by_cases h3 : r < i ∧ gon r = 0 ∧ 0 < k - pc (S r)
    · rw [if_pos h3, if_pos (show r < i + 1 ∧ gon r = 0 ∧ 0 < k - pc (S r) from ⟨by omega, h3.2⟩)]
    · rw [if_neg h3, if_neg (fun z => h3 ⟨by omega, z.2⟩)]
theorem bdG_n {i k pat : Nat} {S gon bad : Nat → Nat} (h : ¬ (gon i = 0 ∧ 0 < k - pc (S i))) : bdG i k pat S gon bad = bdG (i + 1) k pat S gon bad := by
  funext r
  unfold bdG
  by_cases h3 : r < i ∧ gon r = 0 ∧ 0 < k - pc (S r)
  · rw [if_pos h3, if_pos (show r < i + 1 ∧ gon r = 0 ∧ 0 < k - pc (S r) from ⟨by omega, h3.2⟩)]
  · rw [if_neg h3, if_neg (fun z => ?_)]
    by_cases e : r = i
    · subst e
      exact h z.2
    · exact h3 ⟨by omega, z.2⟩
theorem bdB_le {i k b : Nat} {S gon bad : Nat → Nat} (h : ∀ r, r < 6 → bad r ≤ b) : ∀ r, r < 6 → bdB i k S gon bad r ≤ b + 1 := by
  intro r hr
  have := h r hr
  unfold bdB
  split <;> omega
theorem bdG_le {i k pat : Nat} {S gon bad : Nat → Nat} (h : ∀ r, r < 6 → gon r ≤ 1) : ∀ r, r < 6 → bdG i k pat S gon bad r ≤ 1 := by
  intro r hr
  have := h r hr
  unfold bdG
  split
  · split <;> omega
  · exact this
/-- choosing packets to rebuild from: in the order num 0, num 1 .. -/
def chC (k s : Nat) (num : Nat → Nat) : Nat → Nat
  | 0 => 0
  | i + 1 => if s / 2 ^ num i % 2 = 1 ∧ chC k s num i < k then chC k s num i + 1 else chC k s num i
def chP (k s : Nat) (num : Nat → Nat) (cp : Nat → B8) : Nat → Nat → B8
  | 0 => cp
  | i + 1 => if s / 2 ^ num i % 2 = 1 ∧ chC k s num i < k then ub (chP k s num cp i) (chC k s num i) (BitVec.ofNat 8 (num i)) else chP k s num cp i
def chV (k s : Nat) (num : Nat → Nat) (f : B8 → B8) (cv : Nat → B8) : Nat → Nat → B8
  | 0 => cv
  | i + 1 => if s / 2 ^ num i % 2 = 1 ∧ chC k s num i < k then ub (chV k s num f cv i) (chC k s num i) (f (BitVec.ofNat 8 (num i))) else chV k s num f cv i
theorem chC_le (k s : Nat) (num : Nat → Nat) : ∀ i, chC k s num i ≤ k
  | 0 => Nat.zero_le _
  | i + 1 => by
    have := chC_le k s num i
    unfold chC
    split <;> omega
/-- how many of the numbers num 0 .. are there -/
def chN (s : Nat) (num : Nat → Nat) : Nat → Nat
  | 0 => 0
  | i + 1 => chN s num i + s / 2 ^ num i % 2
theorem chC_min (k s : Nat) (num : Nat → Nat) : ∀ i, chC k s num i = min k (chN s num i)
  | 0 => by simp [chC, chN]
  | i + 1 => by
    have ih := chC_min k s num i
    have h2 := Nat.mod_two_eq_zero_or_one (s / 2 ^ num i)
    unfold chC chN
    split <;> omega
theorem chN_up (s : Nat) : ∀ i, chN s (fun i => i) i = pcn s i
  | 0 => rfl
  | i + 1 => by
    show chN s (fun i => i) i + s / 2 ^ i % 2 = pcn s i + s / 2 ^ i % 2
    rw [chN_up s i]
theorem chN_dn (s : Nat) : chN s (fun i => 15 - i) 16 = pcn s 16 := by
  have key : ∀ f : Nat → Nat, 0 + f 15 + f 14 + f 13 + f 12 + f 11 + f 10 + f 9 + f 8 + f 7 + f 6 + f 5 + f 4 + f 3 + f 2 + f 1 + f 0 = 0 + f 0 + f 1 + f 2 + f 3 + f 4 + f 5 + f 6 + f 7 + f 8 + f 9 + f 10 + f 11 + f 12 + f 13 + f 14 + f 15 := by
    intro f
    omega
  exact key (fun i => s / 2 ^ i % 2)
/-- a chosen point is one of the numbers seen, and those chosen are apart -/
theorem ch_src (k s : Nat) (num : Nat → Nat) (f : B8 → B8) (cp cv : Nat → B8) : ∀ i a, a < chC k s num i → ∃ j, j < i ∧ chP k s num cp i a = BitVec.ofNat 8 (num j) ∧ chV k s num f cv i a = f (BitVec.ofNat 8 (num j)) ∧ chC k s num j = a ∧ chC k s num (j + 1) = a + 1
  | 0, a, h => absurd h (Nat.not_lt_zero _)
  | i + 1, a, h => by
    by_cases hc : s / 2 ^ num i % 2 = 1 ∧ chC k s num i < k
    · have e1 : chC k s num (i + 1) = chC k s num i + 1 := if_pos hc
      have e2 : chP k s num cp (i + 1) = ub (chP k s num cp i) (chC k s num i) (BitVec.ofNat 8 (num i)) := if_pos hc
      have e3 : chV k s num f cv (i + 1) = ub (chV k s num f cv i) (chC k s num i) (f (BitVec.ofNat 8 (num i))) := if_pos hc
      rw [e1] at h
      by_cases e : a = chC k s num i
      · subst e
        exact ⟨i, by omega, by rw [e2, ub_s], by rw [e3, ub_s], rfl, e1⟩
      · obtain ⟨j, h1, h2, h3, h4, h5⟩ := ch_src k s num f cp cv i a (by omega)
        exact ⟨j, by omega, by rw [e2, ub_n _ _ e, h2], by rw [e3, ub_n _ _ e, h3], h4, h5⟩
    · have e1 : chC k s num (i + 1) = chC k s num i := if_neg hc
      have e2 : chP k s num cp (i + 1) = chP k s num cp i := if_neg hc
      have e3 : chV k s num f cv (i + 1) = chV k s num f cv i := if_neg hc
      rw [e1] at h
      obtain ⟨j, h1, h2, h3, h4, h5⟩ := ch_src k s num f cp cv i a h
      exact ⟨j, by omega, by rw [e2, h2], by rw [e3, h3], h4, h5⟩
theorem ch_apart {k s : Nat} {num : Nat → Nat} (hn : ∀ i j, i < 16 → j < 16 → num i = num j → i = j) (hl : ∀ i, i < 16 → num i < 256) (cp : Nat → B8) : ∀ a b, a < chC k s num 16 → b < chC k s num 16 → chP k s num cp 16 a = chP k s num cp 16 b → a = b := by
  intro a b ha hb h
  obtain ⟨i, h1, h2, -, h4, -⟩ := ch_src k s num (fun x => x) cp cp 16 a ha
  obtain ⟨j, g1, g2, -, g4, -⟩ := ch_src k s num (fun x => x) cp cp 16 b hb
  rw [h2, g2] at h
  have h5 := congrArg BitVec.toNat h
  rw [BitVec.toNat_ofNat, BitVec.toNat_ofNat, Nat.mod_eq_of_lt (by have := hl i h1; omega), Nat.mod_eq_of_lt (by have := hl j g1; omega)] at h5
  have := hn i j h1 g1 h5
  subst this
  omega
theorem ch_val {k s : Nat} {num : Nat → Nat} (f : B8 → B8) (cp cv : Nat → B8) : ∀ a, a < chC k s num 16 → chV k s num f cv 16 a = f (chP k s num cp 16 a) := by
  intro a ha
  obtain ⟨i, -, h2, h3, -⟩ := ch_src k s num f cp cv 16 a ha
  rw [h2, h3]
end
section
theorem nI_max {a b : Nat} (ha : a < 2 ^ 31) (hb : b < 2 ^ 31) : (if nI a < nI b then nI b else nI a) = nI (max a b) := by
  by_cases h : a < b
  · rw [if_pos ((nI_ltI ha hb).mpr h), Nat.max_eq_right (by omega)]
  · rw [if_neg (fun z => h ((nI_ltI ha hb).mp z)), Nat.max_eq_left (by omega)]
theorem nI_max0 {a b : Nat} (ha : a < 2 ^ 30) (hb : b < 2 ^ 30) : (if nI 0 < nI a - nI b then nI a - nI b else nI 0) = nI (a - b) := by
  by_cases h : b ≤ a
  · rw [pk_sub h, nI_max (by decide) (by omega), Nat.max_eq_right (Nat.zero_le _)]
  · have h1 := pk_sneg hb (show a < b by omega)
    rw [if_neg (fun z => ?_), show a - b = 0 by omega]
    rw [q_ltI] at h1 z
    have h2 : (nI 0).toInt = 0 := by decide
    have h3 : (0 : Int32).toInt = 0 := by decide
    omega
theorem ndf_le (k : Nat) (S gon : Nat → Nat) (r : Nat) : ndf k S gon r ≤ k := by
  unfold ndf
  split <;> omega
def idp (i : Nat) (bp : Nat → B8) : Nat → B8 := fun q => if q < i then BitVec.ofNat 8 q else bp q
def zrv (i : Nat) (bv : Nat → B8) : Nat → B8 := fun q => if q < i then 0 else bv q
theorem idp_0 (bp : Nat → B8) : idp 0 bp = bp := by
  funext q
  simp [idp]
theorem zrv_0 (bp : Nat → B8) : zrv 0 bp = bp := by
  funext q
  simp [zrv]
theorem idp_s (i : Nat) (bp : Nat → B8) : ub (idp i bp) i (BitVec.ofNat 8 i) = idp (i + 1) bp := by
  funext q
  unfold ub idp
  by_cases h : q = i
  · subst h
    rw [if_pos rfl, if_pos (by omega)]
  · rw [if_neg h]
    by_cases h2 : q < i
    · rw [if_pos h2, if_pos (by omega)]
    · rw [if_neg h2, if_neg (by omega)]
theorem zrv_s (i : Nat) (bp : Nat → B8) : ub (zrv i bp) i 0 = zrv (i + 1) bp := by
  funext q
  unfold ub zrv
  by_cases h : q = i
  · subst h
    rw [if_pos rfl, if_pos (by omega)]
  · rw [if_neg h]
    by_cases h2 : q < i
    · rw [if_pos h2, if_pos (by omega)]
    · rw [if_neg h2, if_neg (by omega)]
theorem bc_f {s : Nat} (h : s < 65536) : ((s / 2 ^ 1) &&& 1431655765) ≤ s ∧ bc1 s < 65536 ∧ bc2 (bc1 s) < 2 ^ 20 ∧ bc3 (bc2 (bc1 s)) < 2 ^ 22 ∧ bc4 (bc3 (bc2 (bc1 s))) < 2 ^ 24 := by
  have h1 : ((s / 2 ^ 1) &&& 1431655765) ≤ s / 2 ^ 1 := Nat.and_le_left
  have h2 : bc1 s ≤ s := Nat.sub_le _ _
  have h3 : (bc1 s &&& 858993459) ≤ bc1 s := Nat.and_le_left
  have h4 : ((bc1 s / 2 ^ 2) &&& 858993459) ≤ bc1 s / 2 ^ 2 := Nat.and_le_left
  have e2 : bc2 (bc1 s) = (bc1 s &&& 858993459) + ((bc1 s / 2 ^ 2) &&& 858993459) := rfl
  have h5 : bc3 (bc2 (bc1 s)) ≤ bc2 (bc1 s) + bc2 (bc1 s) / 2 ^ 4 := Nat.and_le_left
  have e4 : bc4 (bc3 (bc2 (bc1 s))) = bc3 (bc2 (bc1 s)) + bc3 (bc2 (bc1 s)) / 2 ^ 8 := rfl
  refine ⟨by omega, by omega, by omega, by omega, by omega⟩
set_option maxHeartbeats 4000000 in
set_option maxRecDepth 100000 in
theorem c_J6_bitCount_0f7a4 (l : Launch) (q0 : Nat) (hq : q0 < 65536) : Met l yJ6_bitCount_0f7a4 wsJ6_bitCount_0f7a4 ({ frames := 0, cells := 0, slots := 0, locals := 0 } : Room) (P0 [.int (nI (q0))]) (vp_Si (fun z9 => z9 = nI (pc q0))) 0 0 (fun _ => False) := by
  refine Met.ofW (cc := cJ6_bitCount_0f7a4) (maxL := 1) (ret := (some .int)) (by decide) rfl ?_
  intro p e s m args below meth c s₁ B hml hv
  obtain ⟨rfl, -⟩ := hv
  have hx := B.exec
  have hb := B.bytes
  have hr := B.returns
  have hts := atoms_spec (ws := wsJ6_bitCount_0f7a4) B.pre
  have hown : s.vm.findClass RJ6 = some m.cls := findClass_of_methodNamed B.named
  have hlocks := B.notSynchronized
  have hl := lv_entry ([.int (nI (q0))]) (n := 1) (Nat.le_of_ble_eq_true rfl)
  rw [lg_entry_eq]
  generalize (lg_sl ([.int (nI (q0))]) ++ List.replicate (1 - (lg_sl ([.int (nI (q0))])).length) Slot.unset).toArray = ls at hl ⊢
  have hl : lv_has ls 1 [(0, .int (nI (q0)))] := hl
  have hbf := bc_f hq
  refine lv_iload_n hx hb dJ6_bitCount_0f7a4_0 rfl (lv_at hl 0 rfl) ?_
  refine lv_iload_n hx hb dJ6_bitCount_0f7a4_1 rfl (lv_at hl 0 rfl) ?_
  refine lv_iconst (v := nI (1)) hx hb dJ6_bitCount_0f7a4_2 (by decide) ?_
  refine lv_iushr (v := nI ((q0) / 2 ^ 1)) hx hb dJ6_bitCount_0f7a4_3 (nI_ushr (by omega) (by decide)) ?_
  refine lv_ldcw hx hb hown (hts (.constant RJ6 265 (1431655765)) (List.mem_of_getElem? (i := 1) rfl)) dJ6_bitCount_0f7a4_4 ?_
  refine q_top (show (1431655765) = nI (1431655765) from rfl) ?_
  refine lv_iand hx hb dJ6_bitCount_0f7a4_7 ?_
  refine q_top (show (nI ((q0) / 2 ^ 1) &&& nI (1431655765)) = nI (((q0) / 2 ^ 1) &&& (1431655765)) from nI_and _ _) ?_
  refine lv_isub hx hb dJ6_bitCount_0f7a4_8 ?_
  refine q_top (show (nI (q0) - nI (((q0) / 2 ^ 1) &&& (1431655765))) = nI (q0 - (((q0) / 2 ^ 1) &&& (1431655765))) from pk_sub (by omega)) ?_
  refine q_top (show nI (q0 - (((q0) / 2 ^ 1) &&& (1431655765))) = nI (bc1 q0) from rfl) ?_
  refine lv_istore_n (lv' := [(0, .int (nI (bc1 q0)))]) hx hb dJ6_bitCount_0f7a4_9 rfl hl (by decide) rfl (fun ls hl => ?_)
  refine lv_iload_n hx hb dJ6_bitCount_0f7a4_10 rfl (lv_at hl 0 rfl) ?_
  refine lv_ldcw hx hb hown (hts (.constant RJ6 266 (858993459)) (List.mem_of_getElem? (i := 2) rfl)) dJ6_bitCount_0f7a4_11 ?_
  refine q_top (show (858993459) = nI (858993459) from rfl) ?_
  refine lv_iand hx hb dJ6_bitCount_0f7a4_14 ?_
  refine q_top (show (nI (bc1 q0) &&& nI (858993459)) = nI ((bc1 q0) &&& (858993459)) from nI_and _ _) ?_
  refine lv_iload_n hx hb dJ6_bitCount_0f7a4_15 rfl (lv_at hl 0 rfl) ?_
  refine lv_iconst (v := nI (2)) hx hb dJ6_bitCount_0f7a4_16 (by decide) ?_
  refine lv_iushr (v := nI ((bc1 q0) / 2 ^ 2)) hx hb dJ6_bitCount_0f7a4_17 (nI_ushr (by omega) (by decide)) ?_
  refine lv_ldcw hx hb hown (hts (.constant RJ6 266 (858993459)) (List.mem_of_getElem? (i := 2) rfl)) dJ6_bitCount_0f7a4_18 ?_
  refine q_top (show (858993459) = nI (858993459) from rfl) ?_
  refine lv_iand hx hb dJ6_bitCount_0f7a4_21 ?_
  refine q_top (show (nI ((bc1 q0) / 2 ^ 2) &&& nI (858993459)) = nI (((bc1 q0) / 2 ^ 2) &&& (858993459)) from nI_and _ _) ?_
  refine lv_iadd hx hb dJ6_bitCount_0f7a4_22 ?_
  refine q_top (show (nI ((bc1 q0) &&& (858993459)) + nI (((bc1 q0) / 2 ^ 2) &&& (858993459))) = nI (((bc1 q0) &&& (858993459)) + (((bc1 q0) / 2 ^ 2) &&& (858993459))) from nI_add _ _) ?_
  refine q_top (show nI (((bc1 q0) &&& (858993459)) + (((bc1 q0) / 2 ^ 2) &&& (858993459))) = nI (bc2 (bc1 q0)) from rfl) ?_
  refine lv_istore_n (lv' := [(0, .int (nI (bc2 (bc1 q0))))]) hx hb dJ6_bitCount_0f7a4_23 rfl hl (by decide) rfl (fun ls hl => ?_)
  refine lv_iload_n hx hb dJ6_bitCount_0f7a4_24 rfl (lv_at hl 0 rfl) ?_
  refine lv_iload_n hx hb dJ6_bitCount_0f7a4_25 rfl (lv_at hl 0 rfl) ?_
  refine lv_iconst (v := nI (4)) hx hb dJ6_bitCount_0f7a4_26 (by decide) ?_
  refine lv_iushr (v := nI ((bc2 (bc1 q0)) / 2 ^ 4)) hx hb dJ6_bitCount_0f7a4_27 (nI_ushr (by omega) (by decide)) ?_
  refine lv_iadd hx hb dJ6_bitCount_0f7a4_28 ?_
  refine q_top (show (nI (bc2 (bc1 q0)) + nI ((bc2 (bc1 q0)) / 2 ^ 4)) = nI (bc2 (bc1 q0) + ((bc2 (bc1 q0)) / 2 ^ 4)) from nI_add _ _) ?_
  refine lv_ldcw hx hb hown (hts (.constant RJ6 267 (252645135)) (List.mem_of_getElem? (i := 3) rfl)) dJ6_bitCount_0f7a4_29 ?_
  refine q_top (show (252645135) = nI (252645135) from rfl) ?_
  refine lv_iand hx hb dJ6_bitCount_0f7a4_32 ?_
  refine q_top (show (nI (bc2 (bc1 q0) + ((bc2 (bc1 q0)) / 2 ^ 4)) &&& nI (252645135)) = nI ((bc2 (bc1 q0) + ((bc2 (bc1 q0)) / 2 ^ 4)) &&& (252645135)) from nI_and _ _) ?_
  refine q_top (show nI ((bc2 (bc1 q0) + ((bc2 (bc1 q0)) / 2 ^ 4)) &&& (252645135)) = nI (bc3 (bc2 (bc1 q0))) from rfl) ?_
  refine lv_istore_n (lv' := [(0, .int (nI (bc3 (bc2 (bc1 q0)))))]) hx hb dJ6_bitCount_0f7a4_33 rfl hl (by decide) rfl (fun ls hl => ?_)
  refine lv_iload_n hx hb dJ6_bitCount_0f7a4_34 rfl (lv_at hl 0 rfl) ?_
  refine lv_iload_n hx hb dJ6_bitCount_0f7a4_35 rfl (lv_at hl 0 rfl) ?_
  refine lv_bipush (v := nI (8)) hx hb dJ6_bitCount_0f7a4_36 (by decide) ?_
  refine lv_iushr (v := nI ((bc3 (bc2 (bc1 q0))) / 2 ^ 8)) hx hb dJ6_bitCount_0f7a4_38 (nI_ushr (by omega) (by decide)) ?_
  refine lv_iadd hx hb dJ6_bitCount_0f7a4_39 ?_
  refine q_top (show (nI (bc3 (bc2 (bc1 q0))) + nI ((bc3 (bc2 (bc1 q0))) / 2 ^ 8)) = nI (bc3 (bc2 (bc1 q0)) + ((bc3 (bc2 (bc1 q0))) / 2 ^ 8)) from nI_add _ _) ?_
  refine q_top (show nI (bc3 (bc2 (bc1 q0)) + ((bc3 (bc2 (bc1 q0))) / 2 ^ 8)) = nI (bc4 (bc3 (bc2 (bc1 q0)))) from rfl) ?_
  refine lv_istore_n (lv' := [(0, .int (nI (bc4 (bc3 (bc2 (bc1 q0))))))]) hx hb dJ6_bitCount_0f7a4_40 rfl hl (by decide) rfl (fun ls hl => ?_)
  refine lv_iload_n hx hb dJ6_bitCount_0f7a4_41 rfl (lv_at hl 0 rfl) ?_
  refine lv_iload_n hx hb dJ6_bitCount_0f7a4_42 rfl (lv_at hl 0 rfl) ?_
  refine lv_bipush (v := nI (16)) hx hb dJ6_bitCount_0f7a4_43 (by decide) ?_
  refine lv_iushr (v := nI ((bc4 (bc3 (bc2 (bc1 q0)))) / 2 ^ 16)) hx hb dJ6_bitCount_0f7a4_45 (nI_ushr (by omega) (by decide)) ?_
  refine lv_iadd hx hb dJ6_bitCount_0f7a4_46 ?_
  refine q_top (show (nI (bc4 (bc3 (bc2 (bc1 q0)))) + nI ((bc4 (bc3 (bc2 (bc1 q0)))) / 2 ^ 16)) = nI (bc4 (bc3 (bc2 (bc1 q0))) + ((bc4 (bc3 (bc2 (bc1 q0)))) / 2 ^ 16)) from nI_add _ _) ?_
  refine q_top (show nI (bc4 (bc3 (bc2 (bc1 q0))) + ((bc4 (bc3 (bc2 (bc1 q0)))) / 2 ^ 16)) = nI (bc5 (bc4 (bc3 (bc2 (bc1 q0))))) from rfl) ?_
  refine lv_istore_n (lv' := [(0, .int (nI (bc5 (bc4 (bc3 (bc2 (bc1 q0)))))))]) hx hb dJ6_bitCount_0f7a4_47 rfl hl (by decide) rfl (fun ls hl => ?_)
  refine lv_iload_n hx hb dJ6_bitCount_0f7a4_48 rfl (lv_at hl 0 rfl) ?_
  refine lv_bipush (v := nI (63)) hx hb dJ6_bitCount_0f7a4_49 (by decide) ?_
  refine lv_iand hx hb dJ6_bitCount_0f7a4_51 ?_
  refine q_top (show (nI (bc5 (bc4 (bc3 (bc2 (bc1 q0))))) &&& nI (63)) = nI ((bc5 (bc4 (bc3 (bc2 (bc1 q0))))) &&& (63)) from nI_and _ _) ?_
  exact W.iret (v := nI ((bc5 (bc4 (bc3 (bc2 (bc1 q0))))) &&& (63))) hx hb hr (fun t ht hW => ⟨_, rfl, (by rw [bc_ok hq]), ht⟩) (fun q h => by cases h) dJ6_bitCount_0f7a4_52

set_option maxHeartbeats 4000000 in
set_option maxRecDepth 100000 in
theorem c_X3_isFieldNumber (l : Launch) (x : Int32) : Met l yX3_isFieldNumber wsX3_isFieldNumber ({ frames := 0, cells := 0, slots := 0, locals := 0 } : Room) (P0 [.int (x)]) (vp_Si (fun z9 => (z9 = nI (1) ∧ (0 ≤ x.toInt ∧ x.toInt ≤ 255)) ∨ (z9 = nI (0) ∧ (¬ (0 ≤ x.toInt ∧ x.toInt ≤ 255))))) 0 0 (fun _ => False) := by
  refine Met.ofW (cc := cX3_isFieldNumber) (maxL := 1) (ret := (some .boolean)) (by decide) rfl ?_
  intro p e s m args below meth c s₁ B hml hv
  obtain ⟨rfl, -⟩ := hv
  have hx := B.exec
  have hb := B.bytes
  have hr := B.returns
  have hts := atoms_spec (ws := wsX3_isFieldNumber) B.pre
  have hown : s.vm.findClass RX3 = some m.cls := findClass_of_methodNamed B.named
  have hlocks := B.notSynchronized
  have hl := lv_entry ([.int (x)]) (n := 1) (Nat.le_of_ble_eq_true rfl)
  rw [lg_entry_eq]
  generalize (lg_sl ([.int (x)]) ++ List.replicate (1 - (lg_sl ([.int (x)])).length) Slot.unset).toArray = ls at hl ⊢
  have hl : lv_has ls 1 [(0, .int (x))] := hl
  refine lv_iload_n hx hb dX3_isFieldNumber_0 rfl (lv_at hl 0 rfl) ?_
  refine q_if_lt (u := (x).toInt) (tgt := 15) hx hb dX3_isFieldNumber_1 (by decide) (rfl) (fun c_1 => ?_) (fun c_1 => ?_)
  · skip
    refine lv_iconst (v := nI (0)) hx hb dX3_isFieldNumber_15 (by decide) ?_
    exact W.zret (v := nI (0)) hx hb hr (rfl) (fun t ht hW => ⟨_, rfl, (by first | exact Or.inl ⟨rfl, by omega⟩ | exact Or.inr ⟨rfl, by omega⟩), ht⟩) (fun q h => by cases h) dX3_isFieldNumber_16
  · skip
    refine lv_iload_n hx hb dX3_isFieldNumber_4 rfl (lv_at hl 0 rfl) ?_
    refine lv_sipush (v := nI (255)) hx hb dX3_isFieldNumber_5 (by decide) ?_
    refine q_icmp_gt (u := (x).toInt) (v := ((255 : Nat) : Int)) (tgt := 15) hx hb dX3_isFieldNumber_8 (by decide) (rfl) (nI_toInt (by omega)) (fun c_8 => ?_) (fun c_8 => ?_)
    · skip
      refine lv_iconst (v := nI (0)) hx hb dX3_isFieldNumber_15 (by decide) ?_
      exact W.zret (v := nI (0)) hx hb hr (rfl) (fun t ht hW => ⟨_, rfl, (by first | exact Or.inl ⟨rfl, by omega⟩ | exact Or.inr ⟨rfl, by omega⟩), ht⟩) (fun q h => by cases h) dX3_isFieldNumber_16
    · skip
      refine lv_iconst (v := nI (1)) hx hb dX3_isFieldNumber_11 (by decide) ?_
      refine lv_goto (tgt := 16) hx hb dX3_isFieldNumber_12 (by decide) ?_
      exact W.zret (v := nI (1)) hx hb hr (rfl) (fun t ht hW => ⟨_, rfl, (by first | exact Or.inl ⟨rfl, by omega⟩ | exact Or.inr ⟨rfl, by omega⟩), ht⟩) (fun q h => by cases h) dX3_isFieldNumber_16

theorem htX3_demandLosses_51 : ∀ w ∈ (vx_atS RX3 51 "java/lang/IllegalArgumentException" ["java/lang/RuntimeException", "java/lang/Exception"]).filter goodWord, w ∈ wsX3_demandLosses := by decide +kernel
set_option maxHeartbeats 4000000 in
set_option maxRecDepth 100000 in
theorem c_X3_demandLosses (l : Launch) (D : va_G) (cI cZ cQ cL : ClassId) (hfl : l.stackTraces = false) (b0 : Nat) (x : Int32) (sz : Nat) : vx_Met l yX3_demandLosses wsX3_demandLosses ({ frames := 6, cells := 1, slots := 6, locals := 96 } : Room) (P0X b0 [.int (x)]) (va_Sv (fun _ => 0 ≤ x.toInt ∧ x.toInt ≤ 2047)) (XC (fun E => E = "java/lang/IllegalArgumentException" ∧ ¬ (0 ≤ x.toInt ∧ x.toInt ≤ 2047))) 1 6 (fun _ => False) := by
  refine vx_ofW (cc := cX3_demandLosses) (maxL := 1) (ret := none) (by decide) rfl ?_
  intro p e s m args below meth c s₁ B hml htab hv
  obtain ⟨rfl, hX⟩ := hv
  have hx := B.exec
  have hb := B.bytes
  have hr := B.returns
  have hts := atoms_spec (ws := wsX3_demandLosses) B.pre
  have hown : s.vm.findClass RX3 = some m.cls := findClass_of_methodNamed B.named
  have hlocks := B.notSynchronized
  have hl := lv_entry ([.int (x)]) (n := 1) (Nat.le_of_ble_eq_true rfl)
  rw [lg_entry_eq]
  generalize (lg_sl ([.int (x)]) ++ List.replicate (1 - (lg_sl ([.int (x)])).length) Slot.unset).toArray = ls at hl ⊢
  have hl : lv_has ls 1 [(0, .int (x))] := hl
  refine lv_iload_n hx hb dX3_demandLosses_0 rfl (lv_at hl 0 rfl) ?_
  refine q_if_lt (u := (x).toInt) (tgt := 11) hx hb dX3_demandLosses_1 (by decide) (rfl) (fun c_1 => ?_) (fun c_1 => ?_)
  · skip
    exact q_throw (b0 := b0) (text := "losses is not 0 to 2047") (Ts := wsX3_demandLosses) hx hb hfl hown (by decide +kernel) hts (List.mem_of_getElem? (i := 1) rfl) (List.mem_of_getElem? (i := 2) rfl) hX (List.mem_of_getElem? (i := 3) rfl) htX3_demandLosses_51 vx_bad_51 vx_good_51 (hl.1.trans hml.symm) dX3_demandLosses_11 dX3_demandLosses_14 dX3_demandLosses_15 dX3_demandLosses_17 dX3_demandLosses_20 htab (by decide) (by decide) (by decide) (by decide) hlocks (by first | exact ⟨rfl, by omega⟩ | omega) (by decide) (by decide)
  · skip
    refine lv_iload_n hx hb dX3_demandLosses_4 rfl (lv_at hl 0 rfl) ?_
    refine lv_sipush (v := nI (2047)) hx hb dX3_demandLosses_5 (by decide) ?_
    refine q_icmp_le (u := (x).toInt) (v := ((2047 : Nat) : Int)) (tgt := 21) hx hb dX3_demandLosses_8 (by decide) (rfl) (nI_toInt (by omega)) (fun c_8 => ?_) (fun c_8 => ?_)
    · skip
      refine W.widen (k := 1) (n := 6) (by decide) (by decide) ?_
      refine vx_ret ?_
      exact W.vret hx hb hr (fun t ht hW => ⟨rfl, (by show _ ∧ _; omega), ht⟩) (fun q h => by cases h) dX3_demandLosses_21
    · skip
      exact q_throw (b0 := b0) (text := "losses is not 0 to 2047") (Ts := wsX3_demandLosses) hx hb hfl hown (by decide +kernel) hts (List.mem_of_getElem? (i := 1) rfl) (List.mem_of_getElem? (i := 2) rfl) hX (List.mem_of_getElem? (i := 3) rfl) htX3_demandLosses_51 vx_bad_51 vx_good_51 (hl.1.trans hml.symm) dX3_demandLosses_11 dX3_demandLosses_14 dX3_demandLosses_15 dX3_demandLosses_17 dX3_demandLosses_20 htab (by decide) (by decide) (by decide) (by decide) hlocks (by first | exact ⟨rfl, by omega⟩ | omega) (by decide) (by decide)

theorem htX3_demandWait_51 : ∀ w ∈ (vx_atS RX3 51 "java/lang/IllegalArgumentException" ["java/lang/RuntimeException", "java/lang/Exception"]).filter goodWord, w ∈ wsX3_demandWait := by decide +kernel
set_option maxHeartbeats 4000000 in
set_option maxRecDepth 100000 in
theorem c_X3_demandWait (l : Launch) (D : va_G) (cI cZ cQ cL : ClassId) (hfl : l.stackTraces = false) (b0 : Nat) (x : Int32) (sz : Nat) : vx_Met l yX3_demandWait wsX3_demandWait ({ frames := 6, cells := 1, slots := 6, locals := 96 } : Room) (P0X b0 [.int (x)]) (va_Sv (fun _ => 0 ≤ x.toInt ∧ x.toInt ≤ 20)) (XC (fun E => E = "java/lang/IllegalArgumentException" ∧ ¬ (0 ≤ x.toInt ∧ x.toInt ≤ 20))) 1 6 (fun _ => False) := by
  refine vx_ofW (cc := cX3_demandWait) (maxL := 1) (ret := none) (by decide) rfl ?_
  intro p e s m args below meth c s₁ B hml htab hv
  obtain ⟨rfl, hX⟩ := hv
  have hx := B.exec
  have hb := B.bytes
  have hr := B.returns
  have hts := atoms_spec (ws := wsX3_demandWait) B.pre
  have hown : s.vm.findClass RX3 = some m.cls := findClass_of_methodNamed B.named
  have hlocks := B.notSynchronized
  have hl := lv_entry ([.int (x)]) (n := 1) (Nat.le_of_ble_eq_true rfl)
  rw [lg_entry_eq]
  generalize (lg_sl ([.int (x)]) ++ List.replicate (1 - (lg_sl ([.int (x)])).length) Slot.unset).toArray = ls at hl ⊢
  have hl : lv_has ls 1 [(0, .int (x))] := hl
  refine lv_iload_n hx hb dX3_demandWait_0 rfl (lv_at hl 0 rfl) ?_
  refine q_if_lt (u := (x).toInt) (tgt := 10) hx hb dX3_demandWait_1 (by decide) (rfl) (fun c_1 => ?_) (fun c_1 => ?_)
  · skip
    exact q_throw (b0 := b0) (text := "wait is not 0 to 20") (Ts := wsX3_demandWait) hx hb hfl hown (by decide +kernel) hts (List.mem_of_getElem? (i := 1) rfl) (List.mem_of_getElem? (i := 2) rfl) hX (List.mem_of_getElem? (i := 4) rfl) htX3_demandWait_51 vx_bad_51 vx_good_51 (hl.1.trans hml.symm) dX3_demandWait_10 dX3_demandWait_13 dX3_demandWait_14 dX3_demandWait_16 dX3_demandWait_19 htab (by decide) (by decide) (by decide) (by decide) hlocks (by first | exact ⟨rfl, by omega⟩ | omega) (by decide) (by decide)
  · skip
    refine lv_iload_n hx hb dX3_demandWait_4 rfl (lv_at hl 0 rfl) ?_
    refine lv_bipush (v := nI (20)) hx hb dX3_demandWait_5 (by decide) ?_
    refine q_icmp_le (u := (x).toInt) (v := ((20 : Nat) : Int)) (tgt := 20) hx hb dX3_demandWait_7 (by decide) (rfl) (nI_toInt (by omega)) (fun c_7 => ?_) (fun c_7 => ?_)
    · skip
      refine W.widen (k := 1) (n := 6) (by decide) (by decide) ?_
      refine vx_ret ?_
      exact W.vret hx hb hr (fun t ht hW => ⟨rfl, (by show _ ∧ _; omega), ht⟩) (fun q h => by cases h) dX3_demandWait_20
    · skip
      exact q_throw (b0 := b0) (text := "wait is not 0 to 20") (Ts := wsX3_demandWait) hx hb hfl hown (by decide +kernel) hts (List.mem_of_getElem? (i := 1) rfl) (List.mem_of_getElem? (i := 2) rfl) hX (List.mem_of_getElem? (i := 4) rfl) htX3_demandWait_51 vx_bad_51 vx_good_51 (hl.1.trans hml.symm) dX3_demandWait_10 dX3_demandWait_13 dX3_demandWait_14 dX3_demandWait_16 dX3_demandWait_19 htab (by decide) (by decide) (by decide) (by decide) hlocks (by first | exact ⟨rfl, by omega⟩ | omega) (by decide) (by decide)

theorem htX3_demandReceiver_133 : ∀ w ∈ (vx_atS RX3 133 "java/lang/IndexOutOfBoundsException" ["java/lang/RuntimeException", "java/lang/Exception"]).filter goodWord, w ∈ wsX3_demandReceiver := by decide +kernel
theorem iwX3_demandReceiver_X3 : ∀ w ∈ wsX30, w ∈ wsX3_demandReceiver := by decide +kernel
set_option maxHeartbeats 4000000 in
set_option maxRecDepth 100000 in
theorem c_X3_demandReceiver (l : Launch) (D : va_G) (cI cZ cQ cL : ClassId) (hfl : l.stackTraces = false) (b0 : Nat) (ad : Nat → Nat) (pat : Nat) (sent : Nat) (rep : Nat) (kept : Nat) (rc : Nat) (los : Nat → Nat) (wai : Nat → Nat) (set : Nat → Nat) (bad : Nat → Nat) (gon : Nat → Nat) (bk : Nat) (bp : Nat → B8) (bv : Nat → B8) (x : Int32) (sz : Nat) (hrc : rc ≤ 6) : vx_Met l yX3_demandReceiver wsX3_demandReceiver ({ frames := 6, cells := 1, slots := 6, locals := 96 } : Room) (PX b0 D (TY cI cZ cQ cL) (wA cI cZ ad (pat) (sent) (rep) (kept) (rc) (los) (wai) (set) (bad) (gon) (bk) (bp) (bv)) sz [.ref (ad 0), .int (x)]) (va_Sv (fun _ => 0 ≤ x.toInt ∧ x.toInt < rc)) (XC (fun E => E = "java/lang/IndexOutOfBoundsException" ∧ ¬ (0 ≤ x.toInt ∧ x.toInt < rc))) 1 6 (fun _ => False) := by
  refine vx_ofW (cc := cX3_demandReceiver) (maxL := 2) (ret := none) (by decide) rfl ?_
  intro p e s m args below meth c s₁ B hml htab hv
  obtain ⟨rfl, hsz, hP, hK, hD0, hN, hX⟩ := hv
  have hx := B.exec
  have hb := B.bytes
  have hr := B.returns
  have hts := atoms_spec (ws := wsX3_demandReceiver) B.pre
  have hown : s.vm.findClass RX3 = some m.cls := findClass_of_methodNamed B.named
  have hlocks := B.notSynchronized
  subst hsz
  have hD := hD0
  have hl := lv_entry ([.ref (ad 0), .int (x)]) (n := 2) (Nat.le_of_ble_eq_true rfl)
  rw [lg_entry_eq]
  generalize (lg_sl ([.ref (ad 0), .int (x)]) ++ List.replicate (2 - (lg_sl ([.ref (ad 0), .int (x)])).length) Slot.unset).toArray = ls at hl ⊢
  have hl : lv_has ls 2 [(0, .ref (ad 0)), (1, .int (x))] := hl
  refine lv_iload_n hx hb dX3_demandReceiver_0 rfl (lv_at hl 1 rfl) ?_
  refine q_if_lt (u := (x).toInt) (tgt := 12) hx hb dX3_demandReceiver_1 (by decide) (rfl) (fun c_1 => ?_) (fun c_1 => ?_)
  · skip
    exact q_throw (b0 := b0) (text := "no such receiver") (Ts := wsX3_demandReceiver) hx hb hfl hown (by decide +kernel) hts (List.mem_of_getElem? (i := 1) rfl) (List.mem_of_getElem? (i := 2) rfl) hX (List.mem_of_getElem? (i := 5) rfl) htX3_demandReceiver_133 vx_bad_133 vx_good_133 (hl.1.trans hml.symm) dX3_demandReceiver_12 dX3_demandReceiver_15 dX3_demandReceiver_16 dX3_demandReceiver_18 dX3_demandReceiver_21 htab (by decide) (by decide) (by decide) (by decide) hlocks (by first | exact ⟨rfl, by omega⟩ | omega) (by decide) (by decide)
  · skip
    refine lv_iload_n hx hb dX3_demandReceiver_4 rfl (lv_at hl 1 rfl) ?_
    refine lv_aload_n hx hb dX3_demandReceiver_5 rfl (lv_at hl 0 rfl) ?_
    refine va_get (D := D) (ci := 2) (v := .int (nI (rc))) (C := RX3) (T := TX3) (N := 13) hx hb hts iwX3_demandReceiver_X3 hown hK hP 0 rfl rfl 5 (by decide) (hts (.fieldLink RX3 84 "RepairSender" "receiverCount" "I") (List.mem_of_getElem? (i := 3) rfl)) (fun _ h9 => h9) rfl dX3_demandReceiver_6 ?_
    refine q_icmp_lt (u := (x).toInt) (v := ((rc : Nat) : Int)) (tgt := 22) hx hb dX3_demandReceiver_9 (by decide) (rfl) (nI_toInt (by omega)) (fun c_9 => ?_) (fun c_9 => ?_)
    · skip
      refine W.widen (k := 1) (n := 6) (by decide) (by decide) ?_
      refine vx_ret ?_
      exact W.vret hx hb hr (fun t ht hW => ⟨rfl, (by show _ ∧ _; omega), ht⟩) (fun q h => by cases h) dX3_demandReceiver_22
    · skip
      exact q_throw (b0 := b0) (text := "no such receiver") (Ts := wsX3_demandReceiver) hx hb hfl hown (by decide +kernel) hts (List.mem_of_getElem? (i := 1) rfl) (List.mem_of_getElem? (i := 2) rfl) hX (List.mem_of_getElem? (i := 5) rfl) htX3_demandReceiver_133 vx_bad_133 vx_good_133 (hl.1.trans hml.symm) dX3_demandReceiver_12 dX3_demandReceiver_15 dX3_demandReceiver_16 dX3_demandReceiver_18 dX3_demandReceiver_21 htab (by decide) (by decide) (by decide) (by decide) hlocks (by first | exact ⟨rfl, by omega⟩ | omega) (by decide) (by decide)

theorem htX3_demandPlace_133 : ∀ w ∈ (vx_atS RX3 133 "java/lang/IndexOutOfBoundsException" ["java/lang/RuntimeException", "java/lang/Exception"]).filter goodWord, w ∈ wsX3_demandPlace := by decide +kernel
theorem iwX3_demandPlace_X3 : ∀ w ∈ wsX30, w ∈ wsX3_demandPlace := by decide +kernel
theorem iwX3_demandPlace_X2 : ∀ w ∈ wsX20, w ∈ wsX3_demandPlace := by decide +kernel
set_option maxHeartbeats 4000000 in
set_option maxRecDepth 100000 in
theorem c_X3_demandPlace (l : Launch) (D : va_G) (cI cZ cQ cL : ClassId) (hfl : l.stackTraces = false) (b0 : Nat) (ad : Nat → Nat) (pat : Nat) (sent : Nat) (rep : Nat) (kept : Nat) (rc : Nat) (los : Nat → Nat) (wai : Nat → Nat) (set : Nat → Nat) (bad : Nat → Nat) (gon : Nat → Nat) (bk : Nat) (bp : Nat → B8) (bv : Nat → B8) (x : Int32) (sz : Nat) (hbk : bk ≤ 8) : vx_Met l yX3_demandPlace wsX3_demandPlace ({ frames := 6, cells := 1, slots := 6, locals := 96 } : Room) (PX b0 D (TY cI cZ cQ cL) (wA cI cZ ad (pat) (sent) (rep) (kept) (rc) (los) (wai) (set) (bad) (gon) (bk) (bp) (bv)) sz [.ref (ad 0), .int (x)]) (va_Sv (fun _ => 0 ≤ x.toInt ∧ x.toInt < bk)) (XC (fun E => E = "java/lang/IndexOutOfBoundsException" ∧ ¬ (0 ≤ x.toInt ∧ x.toInt < bk))) 1 6 (fun _ => False) := by
  refine vx_ofW (cc := cX3_demandPlace) (maxL := 2) (ret := none) (by decide) rfl ?_
  intro p e s m args below meth c s₁ B hml htab hv
  obtain ⟨rfl, hsz, hP, hK, hD0, hN, hX⟩ := hv
  have hx := B.exec
  have hb := B.bytes
  have hr := B.returns
  have hts := atoms_spec (ws := wsX3_demandPlace) B.pre
  have hown : s.vm.findClass RX3 = some m.cls := findClass_of_methodNamed B.named
  have hlocks := B.notSynchronized
  subst hsz
  have hD := hD0
  have hl := lv_entry ([.ref (ad 0), .int (x)]) (n := 2) (Nat.le_of_ble_eq_true rfl)
  rw [lg_entry_eq]
  generalize (lg_sl ([.ref (ad 0), .int (x)]) ++ List.replicate (2 - (lg_sl ([.ref (ad 0), .int (x)])).length) Slot.unset).toArray = ls at hl ⊢
  have hl : lv_has ls 2 [(0, .ref (ad 0)), (1, .int (x))] := hl
  refine lv_iload_n hx hb dX3_demandPlace_0 rfl (lv_at hl 1 rfl) ?_
  refine q_if_lt (u := (x).toInt) (tgt := 15) hx hb dX3_demandPlace_1 (by decide) (rfl) (fun c_1 => ?_) (fun c_1 => ?_)
  · skip
    exact q_throw (b0 := b0) (text := "no such place") (Ts := wsX3_demandPlace) hx hb hfl hown (by decide +kernel) hts (List.mem_of_getElem? (i := 1) rfl) (List.mem_of_getElem? (i := 2) rfl) hX (List.mem_of_getElem? (i := 6) rfl) htX3_demandPlace_133 vx_bad_133 vx_good_133 (hl.1.trans hml.symm) dX3_demandPlace_15 dX3_demandPlace_18 dX3_demandPlace_19 dX3_demandPlace_21 dX3_demandPlace_24 htab (by decide) (by decide) (by decide) (by decide) hlocks (by first | exact ⟨rfl, by omega⟩ | omega) (by decide) (by decide)
  · skip
    refine lv_iload_n hx hb dX3_demandPlace_4 rfl (lv_at hl 1 rfl) ?_
    refine lv_aload_n hx hb dX3_demandPlace_5 rfl (lv_at hl 0 rfl) ?_
    refine va_get (D := D) (ci := 2) (v := .ref (ad 6)) (C := RX3) (T := TX3) (N := 13) hx hb hts iwX3_demandPlace_X3 hown hK hP 0 rfl rfl 0 (by decide) (hts (.fieldLink RX3 10 "RepairSender" "block" "LRepairSender$Points;") (List.mem_of_getElem? (i := 3) rfl)) (fun _ h9 => h9) rfl dX3_demandPlace_6 ?_
    refine va_getN (D := D) (ci := 1) (v := .int (nI (bk))) (C := RX2) (T := TX2) (N := 3) (host := "RepairSender") hx hb hts iwX3_demandPlace_X2 hown hK hP 6 rfl rfl 2 (by decide) (va_Nw.use rfl (hN _ (List.mem_of_getElem? (i := 5) rfl))) (fun _ h9 => h9) rfl dX3_demandPlace_9 ?_
    refine q_icmp_lt (u := (x).toInt) (v := ((bk : Nat) : Int)) (tgt := 25) hx hb dX3_demandPlace_12 (by decide) (rfl) (nI_toInt (by omega)) (fun c_12 => ?_) (fun c_12 => ?_)
    · skip
      refine W.widen (k := 1) (n := 6) (by decide) (by decide) ?_
      refine vx_ret ?_
      exact W.vret hx hb hr (fun t ht hW => ⟨rfl, (by show _ ∧ _; omega), ht⟩) (fun q h => by cases h) dX3_demandPlace_25
    · skip
      exact q_throw (b0 := b0) (text := "no such place") (Ts := wsX3_demandPlace) hx hb hfl hown (by decide +kernel) hts (List.mem_of_getElem? (i := 1) rfl) (List.mem_of_getElem? (i := 2) rfl) hX (List.mem_of_getElem? (i := 6) rfl) htX3_demandPlace_133 vx_bad_133 vx_good_133 (hl.1.trans hml.symm) dX3_demandPlace_15 dX3_demandPlace_18 dX3_demandPlace_19 dX3_demandPlace_21 dX3_demandPlace_24 htab (by decide) (by decide) (by decide) (by decide) hlocks (by first | exact ⟨rfl, by omega⟩ | omega) (by decide) (by decide)

theorem iwX3_needOf_X3 : ∀ w ∈ wsX30, w ∈ wsX3_needOf := by decide +kernel
theorem iwX3_needOf_X2 : ∀ w ∈ wsX20, w ∈ wsX3_needOf := by decide +kernel
set_option maxHeartbeats 4000000 in
set_option maxRecDepth 100000 in
theorem c_X3_needOf (l : Launch) (D : va_G) (cI cZ cQ cL : ClassId) (ad : Nat → Nat) (pat : Nat) (sent : Nat) (rep : Nat) (kept : Nat) (rc : Nat) (los : Nat → Nat) (wai : Nat → Nat) (set : Nat → Nat) (bad : Nat → Nat) (gon : Nat → Nat) (bk : Nat) (bp : Nat → B8) (bv : Nat → B8) (r : Nat) (sz : Nat) (hr6 : r < 6) (hset : ∀ r, r < 6 → set r < 65536) (hbk : bk ≤ 8) : Met l yX3_needOf wsX3_needOf ({ frames := 1, cells := 0, slots := 0, locals := 20 } : Room) (PW D (TY cI cZ cQ cL) (wA cI cZ ad (pat) (sent) (rep) (kept) (rc) (los) (wai) (set) (bad) (gon) (bk) (bp) (bv)) sz [.ref (ad 0), .int (nI (r))]) (vp_Si (fun z9 => z9 = nI (bk - pc (set r)))) 0 0 (fun _ => False) := by
  refine Met.ofW (cc := cX3_needOf) (maxL := 2) (ret := (some .int)) (by decide) rfl ?_
  intro p e s m args below meth c s₁ B hml hv
  obtain ⟨rfl, hsz, hP, hK, hD0, hN⟩ := hv
  have hx := B.exec
  have hb := B.bytes
  have hr := B.returns
  have hts := atoms_spec (ws := wsX3_needOf) B.pre
  have hown : s.vm.findClass RX3 = some m.cls := findClass_of_methodNamed B.named
  have hlocks := B.notSynchronized
  subst hsz
  have hD := hD0
  have hl := lv_entry ([.ref (ad 0), .int (nI (r))]) (n := 2) (Nat.le_of_ble_eq_true rfl)
  rw [lg_entry_eq]
  generalize (lg_sl ([.ref (ad 0), .int (nI (r))]) ++ List.replicate (2 - (lg_sl ([.ref (ad 0), .int (nI (r))])).length) Slot.unset).toArray = ls at hl ⊢
  have hl : lv_has ls 2 [(0, .ref (ad 0)), (1, .int (nI (r)))] := hl
  have hs6 := hset r hr6
  have hp6 := pc_le (set r)
  refine lv_iconst (v := nI (0)) hx hb dX3_needOf_0 (by decide) ?_
  refine lv_aload_n hx hb dX3_needOf_1 rfl (lv_at hl 0 rfl) ?_
  refine va_get (D := D) (ci := 2) (v := .ref (ad 6)) (C := RX3) (T := TX3) (N := 13) hx hb hts iwX3_needOf_X3 hown hK hP 0 rfl rfl 0 (by decide) (hts (.fieldLink RX3 10 "RepairSender" "block" "LRepairSender$Points;") (List.mem_of_getElem? (i := 1) rfl)) (fun _ h9 => h9) rfl dX3_needOf_2 ?_
  refine va_getN (D := D) (ci := 1) (v := .int (nI (bk))) (C := RX2) (T := TX2) (N := 3) (host := "RepairSender") hx hb hts iwX3_needOf_X2 hown hK hP 6 rfl rfl 2 (by decide) (va_Nw.use rfl (hN _ (List.mem_of_getElem? (i := 5) rfl))) (fun _ h9 => h9) rfl dX3_needOf_5 ?_
  refine lv_aload_n hx hb dX3_needOf_8 rfl (lv_at hl 0 rfl) ?_
  refine va_get (D := D) (ci := 2) (v := .ref (ad 3)) (C := RX3) (T := TX3) (N := 13) hx hb hts iwX3_needOf_X3 hown hK hP 0 rfl rfl 8 (by decide) (hts (.fieldLink RX3 23 "RepairSender" "packetSets" "[I") (List.mem_of_getElem? (i := 2) rfl)) (fun _ h9 => h9) rfl dX3_needOf_9 ?_
  refine lv_iload_n hx hb dX3_needOf_12 rfl (lv_at hl 1 rfl) ?_
  refine q_iald (f := set) (j := r) hx hb hK hP 3 0 rfl rfl (by omega) (by decide) dX3_needOf_13 ?_
  refine q_csi (va_runS (As := [.int (nI (set r))]) (rest := [.int (nI (bk)), .int (nI (0))]) ⟨hx, hb, hml, hown, hts⟩ (c_J6_bitCount_0f7a4 l (set r) (by omega)) (va_cwS 1 hts gX3_needOf_J6_bitCount_0f7a4 rfl rfl rfl hd_J6_bitCount_0f7a4 ⟨Nat.le_of_ble_eq_true rfl, Nat.le_of_ble_eq_true rfl⟩) P0_s rfl rfl hl.1 rfl (lv_room (Nat.le_of_ble_eq_true rfl)) dX3_needOf_14 ⟨Nat.le_of_ble_eq_true rfl, Nat.le_of_ble_eq_true rfl⟩) (fun r_14 hr_14 => ?_)
  obtain rfl : r_14 = nI (pc (set r)) := hr_14
  refine lv_isub hx hb dX3_needOf_17 ?_
  refine va_mmax hx hb (hml.trans hl.1.symm) hown (hts (.methodLink RX3 181 Lib.Math.max.name) (List.mem_of_getElem? (i := 3) rfl)) (hts (.static Lib.Math.max.name) (List.mem_of_getElem? (i := 4) rfl)) (hts (.initialized "java/lang/Math") (List.mem_of_getElem? (i := 5) rfl)) (hts (.code Lib.Math.max.name Lib.Math.max.code 2 (some .int)) (List.mem_of_getElem? (i := 6) rfl)) (Nat.le_of_ble_eq_true rfl) (Nat.le_of_ble_eq_true rfl) (Nat.le_of_ble_eq_true rfl) (Nat.le_of_ble_eq_true rfl) dX3_needOf_18 ?_
  refine q_top (show (if nI (0) < (nI (bk) - nI (pc (set r))) then (nI (bk) - nI (pc (set r))) else nI (0)) = nI (bk - pc (set r)) from nI_max0 (by omega) (by omega)) ?_
  exact W.iret (v := nI (bk - pc (set r))) hx hb hr (fun t ht hW => ⟨_, rfl, (by rfl), ht⟩) (fun q h => by cases h) dX3_needOf_21

theorem iwX3_isLiveAndLacks_X3 : ∀ w ∈ wsX30, w ∈ wsX3_isLiveAndLacks := by decide +kernel
set_option maxHeartbeats 4000000 in
set_option maxRecDepth 100000 in
theorem c_X3_isLiveAndLacks (l : Launch) (D : va_G) (cI cZ cQ cL : ClassId) (ad : Nat → Nat) (pat : Nat) (sent : Nat) (rep : Nat) (kept : Nat) (rc : Nat) (los : Nat → Nat) (wai : Nat → Nat) (set : Nat → Nat) (bad : Nat → Nat) (gon : Nat → Nat) (bk : Nat) (bp : Nat → B8) (bv : Nat → B8) (r : Nat) (sz : Nat) (hr6 : r < 6) (hset : ∀ r, r < 6 → set r < 65536) (hbk : bk ≤ 8) (hgon : ∀ r, r < 6 → gon r ≤ 1) : Met l yX3_isLiveAndLacks wsX3_isLiveAndLacks ({ frames := 2, cells := 0, slots := 0, locals := 41 } : Room) (PW D (TY cI cZ cQ cL) (wA cI cZ ad (pat) (sent) (rep) (kept) (rc) (los) (wai) (set) (bad) (gon) (bk) (bp) (bv)) sz [.ref (ad 0), .int (nI (r))]) (vp_Si (fun z9 => (z9 = nI (1) ∧ (gon r = 0 ∧ 0 < bk - pc (set r))) ∨ (z9 = nI (0) ∧ (¬ (gon r = 0 ∧ 0 < bk - pc (set r)))))) 0 0 (fun _ => False) := by
  refine Met.ofW (cc := cX3_isLiveAndLacks) (maxL := 2) (ret := (some .boolean)) (by decide) rfl ?_
  intro p e s m args below meth c s₁ B hml hv
  obtain ⟨rfl, hsz, hP, hK, hD0, hN⟩ := hv
  have hx := B.exec
  have hb := B.bytes
  have hr := B.returns
  have hts := atoms_spec (ws := wsX3_isLiveAndLacks) B.pre
  have hown : s.vm.findClass RX3 = some m.cls := findClass_of_methodNamed B.named
  have hlocks := B.notSynchronized
  subst hsz
  have hD := hD0
  have hl := lv_entry ([.ref (ad 0), .int (nI (r))]) (n := 2) (Nat.le_of_ble_eq_true rfl)
  rw [lg_entry_eq]
  generalize (lg_sl ([.ref (ad 0), .int (nI (r))]) ++ List.replicate (2 - (lg_sl ([.ref (ad 0), .int (nI (r))])).length) Slot.unset).toArray = ls at hl ⊢
  have hl : lv_has ls 2 [(0, .ref (ad 0)), (1, .int (nI (r)))] := hl
  have hg6 := hgon r hr6
  refine lv_aload_n hx hb dX3_isLiveAndLacks_0 rfl (lv_at hl 0 rfl) ?_
  refine va_get (D := D) (ci := 2) (v := .ref (ad 5)) (C := RX3) (T := TX3) (N := 13) hx hb hts iwX3_isLiveAndLacks_X3 hown hK hP 0 rfl rfl 10 (by decide) (hts (.fieldLink RX3 29 "RepairSender" "dropped" "[Z") (List.mem_of_getElem? (i := 1) rfl)) (fun _ h9 => h9) rfl dX3_isLiveAndLacks_1 ?_
  refine lv_iload_n hx hb dX3_isLiveAndLacks_4 rfl (lv_at hl 1 rfl) ?_
  refine q_zald (f := gon) (j := r) hx hb hK hP 5 1 rfl rfl (by omega) (by decide) dX3_isLiveAndLacks_5 ?_
  refine q_if_ne (u := ((gon r : Nat) : Int)) (tgt := 21) hx hb dX3_isLiveAndLacks_6 (by decide) (nI_toInt (by omega)) (fun c_6 => ?_) (fun c_6 => ?_)
  · skip
    refine lv_iconst (v := nI (0)) hx hb dX3_isLiveAndLacks_21 (by decide) ?_
    exact W.zret (v := nI (0)) hx hb hr (rfl) (fun t ht hW => ⟨_, rfl, (by first | exact Or.inl ⟨rfl, by omega⟩ | exact Or.inr ⟨rfl, by omega⟩), ht⟩) (fun q h => by cases h) dX3_isLiveAndLacks_22
  · skip
    refine lv_aload_n hx hb dX3_isLiveAndLacks_9 rfl (lv_at hl 0 rfl) ?_
    refine lv_iload_n hx hb dX3_isLiveAndLacks_10 rfl (lv_at hl 1 rfl) ?_
    have hPc : va_P D vwCl (wA cI cZ ad (pat) (sent) (rep) (kept) (rc) (los) (wai) (set) (bad) (gon) (bk) (bp) (bv)) s.heap := hP
    refine q_csi (va_runV (As := [.int (nI (r))]) (rest := []) ⟨hx, hb, hml, hown, hts⟩ (c_X3_needOf l D cI cZ cQ cL (ad) (pat) (sent) (rep) (kept) (rc) (los) (wai) (set) (bad) (gon) (bk) (bp) (bv) (r) s.heap.size (hr6) (hset) (hbk)) (cwV 1 hts gX3_isLiveAndLacks_X3_needOf rfl rfl rfl ⟨rfl, hd_X3_needOf⟩ ⟨Nat.le_of_ble_eq_true rfl, Nat.le_of_ble_eq_true rfl⟩) (PW_v (q := (RX3, TX3, 13)) (ci := 2) (q0 := 0) hPc hK hD hN rfl rfl) rfl rfl hl.1 rfl (lv_room (Nat.le_of_ble_eq_true rfl)) dX3_isLiveAndLacks_11 ⟨Nat.le_of_ble_eq_true rfl, Nat.le_of_ble_eq_true rfl⟩) (fun r_11 hr_11 => ?_)
    obtain rfl : r_11 = nI (bk - pc (set r)) := hr_11
    refine q_if_le (u := ((bk - pc (set r) : Nat) : Int)) (tgt := 21) hx hb dX3_isLiveAndLacks_14 (by decide) (nI_toInt (by omega)) (fun c_14 => ?_) (fun c_14 => ?_)
    · skip
      refine lv_iconst (v := nI (0)) hx hb dX3_isLiveAndLacks_21 (by decide) ?_
      exact W.zret (v := nI (0)) hx hb hr (rfl) (fun t ht hW => ⟨_, rfl, (by first | exact Or.inl ⟨rfl, by omega⟩ | exact Or.inr ⟨rfl, by omega⟩), ht⟩) (fun q h => by cases h) dX3_isLiveAndLacks_22
    · skip
      refine lv_iconst (v := nI (1)) hx hb dX3_isLiveAndLacks_17 (by decide) ?_
      refine lv_goto (tgt := 22) hx hb dX3_isLiveAndLacks_18 (by decide) ?_
      exact W.zret (v := nI (1)) hx hb hr (rfl) (fun t ht hW => ⟨_, rfl, (by first | exact Or.inl ⟨rfl, by omega⟩ | exact Or.inr ⟨rfl, by omega⟩), ht⟩) (fun q h => by cases h) dX3_isLiveAndLacks_22

theorem iwX3_completeCount_X3 : ∀ w ∈ wsX30, w ∈ wsX3_completeCount := by decide +kernel
set_option maxHeartbeats 4000000 in
set_option maxRecDepth 100000 in
theorem c_X3_completeCount (l : Launch) (D : va_G) (cI cZ cQ cL : ClassId) (ad : Nat → Nat) (pat : Nat) (sent : Nat) (rep : Nat) (kept : Nat) (rc : Nat) (los : Nat → Nat) (wai : Nat → Nat) (set : Nat → Nat) (bad : Nat → Nat) (gon : Nat → Nat) (bk : Nat) (bp : Nat → B8) (bv : Nat → B8) (sz : Nat) (hrc : rc ≤ 6) (hset : ∀ r, r < 6 → set r < 65536) (hbk : bk ≤ 8) (hgon : ∀ r, r < 6 → gon r ≤ 1) : Met l yX3_completeCount wsX3_completeCount ({ frames := 2, cells := 0, slots := 0, locals := 41 } : Room) (PW D (TY cI cZ cQ cL) (wA cI cZ ad (pat) (sent) (rep) (kept) (rc) (los) (wai) (set) (bad) (gon) (bk) (bp) (bv)) sz [.ref (ad 0)]) (vp_Si (fun z9 => z9 = nI (ccn bk set gon rc))) 0 0 (fun _ => False) := by
  refine Met.ofW (cc := cX3_completeCount) (maxL := 3) (ret := (some .int)) (by decide) rfl ?_
  intro p e s m args below meth c s₁ B hml hv
  obtain ⟨rfl, hsz, hP, hK, hD0, hN⟩ := hv
  have hx := B.exec
  have hb := B.bytes
  have hr := B.returns
  have hts := atoms_spec (ws := wsX3_completeCount) B.pre
  have hown : s.vm.findClass RX3 = some m.cls := findClass_of_methodNamed B.named
  have hlocks := B.notSynchronized
  subst hsz
  have hD := hD0
  have hl := lv_entry ([.ref (ad 0)]) (n := 3) (Nat.le_of_ble_eq_true rfl)
  rw [lg_entry_eq]
  generalize (lg_sl ([.ref (ad 0)]) ++ List.replicate (3 - (lg_sl ([.ref (ad 0)])).length) Slot.unset).toArray = ls at hl ⊢
  have hl : lv_has ls 3 [(0, .ref (ad 0))] := hl
  refine lv_iconst (v := nI (0)) hx hb dX3_completeCount_0 (by decide) ?_
  refine lv_istore_n (lv' := [(1, .int (nI (0))), (0, .ref (ad 0))]) hx hb dX3_completeCount_1 rfl hl (by decide) rfl (fun ls hl => ?_)
  refine lv_iconst (v := nI (0)) hx hb dX3_completeCount_2 (by decide) ?_
  refine lv_istore_n (lv' := [(2, .int (nI (0))), (1, .int (nI (0))), (0, .ref (ad 0))]) hx hb dX3_completeCount_3 rfl hl (by decide) rfl (fun ls hl => ?_)
  have L4_1 : ∀ (n4_1 : Nat) (i : Nat), rc - i < n4_1 → (i ≤ rc) → ∀ (ls : Array Slot), lv_has ls 3 [(0, .ref (ad 0)), (1, .int (nI (ccn bk set gon i))), (2, .int (nI (i)))] → W p l e (headSpec wsX3_completeCount ({ frames := 2, cells := 0, slots := 0, locals := 41 } : Room)).room s m ([.ref (ad 0)] : List Value).toArray below meth c s.heap [] 0 0 (MQ below (vp_Si (fun z9 => z9 = nI (ccn bk set gon rc))) ([.ref (ad 0)] : List Value).toArray s 0 0 (fun _ => False)) (F0 m 4 ls []) := by
    intro n4_1
    induction n4_1 with
    | zero =>
      intro i hn4_1
      exact absurd hn4_1 (Nat.not_lt_zero _)
    | succ n4_1 ih4_1 =>
      intro i hn4_1 hi ls hl
      refine lv_iload_n hx hb dX3_completeCount_4 rfl (lv_at hl 2 rfl) ?_
      refine lv_aload_n hx hb dX3_completeCount_5 rfl (lv_at hl 0 rfl) ?_
      refine va_get (D := D) (ci := 2) (v := .int (nI (rc))) (C := RX3) (T := TX3) (N := 13) hx hb hts iwX3_completeCount_X3 hown hK hP 0 rfl rfl 5 (by decide) (hts (.fieldLink RX3 84 "RepairSender" "receiverCount" "I") (List.mem_of_getElem? (i := 1) rfl)) (fun _ h9 => h9) rfl dX3_completeCount_6 ?_
      refine q_icmp_ge (u := ((i : Nat) : Int)) (v := ((rc : Nat) : Int)) (tgt := 38) hx hb dX3_completeCount_9 (by decide) (nI_toInt (by omega)) (nI_toInt (by omega)) (fun c_9 => ?_) (fun c_9 => ?_)
      · obtain rfl : rc = i := by omega
        refine lv_iload_n hx hb dX3_completeCount_38 rfl (lv_at hl 1 rfl) ?_
        exact W.iret (v := nI (ccn bk set gon rc)) hx hb hr (fun t ht hW => ⟨_, rfl, (by rfl), ht⟩) (fun q h => by cases h) dX3_completeCount_39
      · skip
        have hg6 := hgon i (by omega)
        refine lv_aload_n hx hb dX3_completeCount_12 rfl (lv_at hl 0 rfl) ?_
        refine va_get (D := D) (ci := 2) (v := .ref (ad 5)) (C := RX3) (T := TX3) (N := 13) hx hb hts iwX3_completeCount_X3 hown hK hP 0 rfl rfl 10 (by decide) (hts (.fieldLink RX3 29 "RepairSender" "dropped" "[Z") (List.mem_of_getElem? (i := 2) rfl)) (fun _ h9 => h9) rfl dX3_completeCount_13 ?_
        refine lv_iload_n hx hb dX3_completeCount_16 rfl (lv_at hl 2 rfl) ?_
        refine q_zald (f := gon) (j := i) hx hb hK hP 5 1 rfl rfl (by omega) (by decide) dX3_completeCount_17 ?_
        refine q_if_ne (u := ((gon i : Nat) : Int)) (tgt := 32) hx hb dX3_completeCount_18 (by decide) (nI_toInt (by omega)) (fun c_18 => ?_) (fun c_18 => ?_)
        · have e1 : ccn bk set gon (i + 1) = ccn bk set gon i := if_neg (by omega)
          refine lv_iinc (v := nI (i + 1)) (lv' := [(2, .int (nI (i + 1))), (0, .ref (ad 0)), (1, .int (nI (ccn bk set gon i)))]) hx hb dX3_completeCount_32 hl (k := 2) rfl (show nI (i) + Int32.ofInt 1 = nI (i + 1) from nI_add (i) 1) (by decide) rfl (fun ls hl => ?_)
          refine lv_goto (tgt := 4) hx hb dX3_completeCount_35 (by decide) ?_
          exact ih4_1 (i + 1) (by omega) (by omega) ls (lv_sub hl [1, 2, 0] (by rw [e1]; rfl))
        · skip
          refine lv_aload_n hx hb dX3_completeCount_21 rfl (lv_at hl 0 rfl) ?_
          refine lv_iload_n hx hb dX3_completeCount_22 rfl (lv_at hl 2 rfl) ?_
          have hPc : va_P D vwCl (wA cI cZ ad (pat) (sent) (rep) (kept) (rc) (los) (wai) (set) (bad) (gon) (bk) (bp) (bv)) s.heap := hP
          refine q_csi (va_runV (As := [.int (nI (i))]) (rest := []) ⟨hx, hb, hml, hown, hts⟩ (c_X3_needOf l D cI cZ cQ cL (ad) (pat) (sent) (rep) (kept) (rc) (los) (wai) (set) (bad) (gon) (bk) (bp) (bv) (i) s.heap.size (by omega) (hset) (hbk)) (cwV 1 hts gX3_completeCount_X3_needOf rfl rfl rfl ⟨rfl, hd_X3_needOf⟩ ⟨Nat.le_of_ble_eq_true rfl, Nat.le_of_ble_eq_true rfl⟩) (PW_v (q := (RX3, TX3, 13)) (ci := 2) (q0 := 0) hPc hK hD hN rfl rfl) rfl rfl hl.1 rfl (lv_room (Nat.le_of_ble_eq_true rfl)) dX3_completeCount_23 ⟨Nat.le_of_ble_eq_true rfl, Nat.le_of_ble_eq_true rfl⟩) (fun r_23 hr_23 => ?_)
          obtain rfl : r_23 = nI (bk - pc (set i)) := hr_23
          refine q_if_ne (u := ((bk - pc (set i) : Nat) : Int)) (tgt := 32) hx hb dX3_completeCount_26 (by decide) (nI_toInt (by omega)) (fun c_26 => ?_) (fun c_26 => ?_)
          · have e1 : ccn bk set gon (i + 1) = ccn bk set gon i := if_neg (by omega)
            refine lv_iinc (v := nI (i + 1)) (lv' := [(2, .int (nI (i + 1))), (0, .ref (ad 0)), (1, .int (nI (ccn bk set gon i)))]) hx hb dX3_completeCount_32 hl (k := 2) rfl (show nI (i) + Int32.ofInt 1 = nI (i + 1) from nI_add (i) 1) (by decide) rfl (fun ls hl => ?_)
            refine lv_goto (tgt := 4) hx hb dX3_completeCount_35 (by decide) ?_
            exact ih4_1 (i + 1) (by omega) (by omega) ls (lv_sub hl [1, 2, 0] (by rw [e1]; rfl))
          · have e1 : ccn bk set gon (i + 1) = ccn bk set gon i + 1 := if_pos (by omega)
            refine lv_iinc (v := nI (ccn bk set gon i + 1)) (lv' := [(1, .int (nI (ccn bk set gon i + 1))), (0, .ref (ad 0)), (2, .int (nI (i)))]) hx hb dX3_completeCount_29 hl (k := 1) rfl (show nI (ccn bk set gon i) + Int32.ofInt 1 = nI (ccn bk set gon i + 1) from nI_add (ccn bk set gon i) 1) (by decide) rfl (fun ls hl => ?_)
            refine lv_iinc (v := nI (i + 1)) (lv' := [(2, .int (nI (i + 1))), (1, .int (nI (ccn bk set gon i + 1))), (0, .ref (ad 0))]) hx hb dX3_completeCount_32 hl (k := 2) rfl (show nI (i) + Int32.ofInt 1 = nI (i + 1) from nI_add (i) 1) (by decide) rfl (fun ls hl => ?_)
            refine lv_goto (tgt := 4) hx hb dX3_completeCount_35 (by decide) ?_
            exact ih4_1 (i + 1) (by omega) (by omega) ls (lv_sub hl [2, 1, 0] (by rw [e1]; rfl))
  exact L4_1 _ (0) (Nat.lt_succ_self _) (by omega) ls (lv_sub hl [2, 1, 0] rfl)
end
section
theorem iwX3_sendNextPacket_X3 : ∀ w ∈ wsX30, w ∈ wsX3_sendNextPacket := by decide +kernel
set_option maxHeartbeats 4000000 in
set_option maxRecDepth 100000 in
theorem c_X3_sendNextPacket (l : Launch) (D : va_G) (cI cZ cQ cL : ClassId) (ad : Nat → Nat) (pat : Nat) (sent : Nat) (rep : Nat) (kept : Nat) (rc : Nat) (los : Nat → Nat) (wai : Nat → Nat) (set : Nat → Nat) (bad : Nat → Nat) (gon : Nat → Nat) (bk : Nat) (bp : Nat → B8) (bv : Nat → B8) (sz : Nat) (hrc : rc ≤ 6) (hse : sent < 2 ^ 30) (hlos : ∀ r, r < 6 → los r ≤ 2047) (hgon : ∀ r, r < 6 → gon r ≤ 1) (hset : ∀ r, r < 6 → set r < 65536) : Met l yX3_sendNextPacket wsX3_sendNextPacket ({ frames := 0, cells := 0, slots := 0, locals := 0 } : Room) (PW D (TY cI cZ cQ cL) (wA cI cZ ad (pat) (sent) (rep) (kept) (rc) (los) (wai) (set) (bad) (gon) (bk) (bp) (bv)) sz [.ref (ad 0)]) (QV D (va_A (wA cI cZ ad (pat) (sent) (rep) (kept) (rc) (los) (wai) (set) (bad) (gon) (bk) (bp) (bv)) sz) (fun (_ : Unit) => True) (fun _ => (wA cI cZ ad (pat) (sent + 1) (rep) (kept) (rc) (los) (wai) (snd1 rc sent los gon set) (bad) (gon) (bk) (bp) (bv)))) 0 0 (va_A (wA cI cZ ad (pat) (sent) (rep) (kept) (rc) (los) (wai) (set) (bad) (gon) (bk) (bp) (bv)) sz) := by
  refine Met.ofW (cc := cX3_sendNextPacket) (maxL := 4) (ret := none) (by decide) rfl ?_
  intro p e s m args below meth c s₁ B hml hv
  obtain ⟨rfl, hsz, hP, hK, hD0, hN⟩ := hv
  have hx := B.exec
  have hb := B.bytes
  have hr := B.returns
  have hts := atoms_spec (ws := wsX3_sendNextPacket) B.pre
  have hown : s.vm.findClass RX3 = some m.cls := findClass_of_methodNamed B.named
  have hlocks := B.notSynchronized
  subst hsz
  have hD := hD0.self (sz := s.heap.size)
  generalize hAe : va_A (wA cI cZ ad (pat) (sent) (rep) (kept) (rc) (los) (wai) (set) (bad) (gon) (bk) (bp) (bv)) s.heap.size = A at hD ⊢
  have hA : ∀ q : Nat, s.heap.size ≤ q → A q := fun q h => by rw [← hAe]; exact Or.inr h
  have hS : va_S A s.heap s.heap [] := va_S.rf
  have hl := lv_entry ([.ref (ad 0)]) (n := 4) (Nat.le_of_ble_eq_true rfl)
  rw [lg_entry_eq]
  generalize (lg_sl ([.ref (ad 0)]) ++ List.replicate (4 - (lg_sl ([.ref (ad 0)])).length) Slot.unset).toArray = ls at hl ⊢
  have hl : lv_has ls 4 [(0, .ref (ad 0))] := hl
  refine lv_iconst (v := nI (1)) hx hb dX3_sendNextPacket_0 (by decide) ?_
  refine lv_aload_n hx hb dX3_sendNextPacket_1 rfl (lv_at hl 0 rfl) ?_
  refine va_get (D := D) (ci := 2) (v := .int (nI (sent))) (C := RX3) (T := TX3) (N := 13) hx hb hts iwX3_sendNextPacket_X3 hown hK hP 0 rfl rfl 2 (by decide) (hts (.fieldLink RX3 56 "RepairSender" "sentCount" "I") (List.mem_of_getElem? (i := 1) rfl)) (fun _ h9 => h9) rfl dX3_sendNextPacket_2 ?_
  refine lv_bipush (v := nI (16)) hx hb dX3_sendNextPacket_5 (by decide) ?_
  refine lv_irem hx hb dX3_sendNextPacket_7 (by decide) ?_
  refine q_top (show (nI (sent) - nI (sent) / nI (16) * nI (16)) = nI ((sent) % 16) from pk_rem (by omega) (by decide) (by decide)) ?_
  refine lv_ishl hx hb dX3_sendNextPacket_8 ?_
  refine q_top (show (nI (1) <<< (nI ((sent) % 16) &&& 31)) = nI (2 ^ ((sent) % 16)) from nI_shl2 (by omega)) ?_
  refine lv_istore_n (lv' := [(1, .int (nI (2 ^ ((sent) % 16)))), (0, .ref (ad 0))]) hx hb dX3_sendNextPacket_9 rfl hl (by decide) rfl (fun ls hl => ?_)
  refine lv_iconst (v := nI (1)) hx hb dX3_sendNextPacket_10 (by decide) ?_
  refine lv_aload_n hx hb dX3_sendNextPacket_11 rfl (lv_at hl 1 rfl) ?_
  refine va_get (D := D) (ci := 2) (v := .int (nI (sent))) (C := RX3) (T := TX3) (N := 13) hx hb hts iwX3_sendNextPacket_X3 hown hK hP 0 rfl rfl 2 (by decide) (hts (.fieldLink RX3 56 "RepairSender" "sentCount" "I") (List.mem_of_getElem? (i := 1) rfl)) (fun _ h9 => h9) rfl dX3_sendNextPacket_12 ?_
  refine lv_bipush (v := nI (11)) hx hb dX3_sendNextPacket_15 (by decide) ?_
  refine lv_irem hx hb dX3_sendNextPacket_17 (by decide) ?_
  refine q_top (show (nI (sent) - nI (sent) / nI (11) * nI (11)) = nI ((sent) % 11) from pk_rem (by omega) (by decide) (by decide)) ?_
  refine lv_ishl hx hb dX3_sendNextPacket_18 ?_
  refine q_top (show (nI (1) <<< (nI ((sent) % 11) &&& 31)) = nI (2 ^ ((sent) % 11)) from nI_shl2 (by omega)) ?_
  refine lv_istore_n (lv' := [(2, .int (nI (2 ^ ((sent) % 11)))), (1, .int (nI (2 ^ ((sent) % 16)))), (0, .ref (ad 0))]) hx hb dX3_sendNextPacket_19 rfl hl (by decide) rfl (fun ls hl => ?_)
  refine lv_iconst (v := nI (0)) hx hb dX3_sendNextPacket_20 (by decide) ?_
  refine lv_istore_n (lv' := [(3, .int (nI (0))), (2, .int (nI (2 ^ ((sent) % 11)))), (1, .int (nI (2 ^ ((sent) % 16)))), (0, .ref (ad 0))]) hx hb dX3_sendNextPacket_21 rfl hl (by decide) rfl (fun ls hl => ?_)
  have L22_1 : ∀ (n22_1 : Nat) (i : Nat), rc - i < n22_1 → (i ≤ rc) → ∀ (H : Heap) (locs : List Loc), va_P D vwCl (wA cI cZ ad (pat) (sent) (rep) (kept) (rc) (los) (wai) (snd1 i sent los gon set) (bad) (gon) (bk) (bp) (bv)) H → va_D A (wA cI cZ ad (pat) (sent) (rep) (kept) (rc) (los) (wai) (snd1 i sent los gon set) (bad) (gon) (bk) (bp) (bv)) → va_S A s.heap H locs → ∀ (ls : Array Slot), lv_has ls 4 [(0, .ref (ad 0)), (1, .int (nI (2 ^ (sent % 16)))), (2, .int (nI (2 ^ (sent % 11)))), (3, .int (nI (i)))] → W p l e (headSpec wsX3_sendNextPacket ({ frames := 0, cells := 0, slots := 0, locals := 0 } : Room)).room s m ([.ref (ad 0)] : List Value).toArray below meth c H locs 0 0 (MQ below (QV D A (fun (_ : Unit) => True) (fun _ => (wA cI cZ ad (pat) (sent + 1) (rep) (kept) (rc) (los) (wai) (snd1 rc sent los gon set) (bad) (gon) (bk) (bp) (bv)))) ([.ref (ad 0)] : List Value).toArray s 0 0 A) (F0 m 22 ls []) := by
    intro n22_1
    induction n22_1 with
    | zero =>
      intro i hn22_1
      exact absurd hn22_1 (Nat.not_lt_zero _)
    | succ n22_1 ih22_1 =>
      intro i hn22_1 hi H locs hP hD hS ls hl
      refine lv_iload_n hx hb dX3_sendNextPacket_22 rfl (lv_at hl 3 rfl) ?_
      refine lv_aload_n hx hb dX3_sendNextPacket_23 rfl (lv_at hl 0 rfl) ?_
      refine va_get (D := D) (ci := 2) (v := .int (nI (rc))) (C := RX3) (T := TX3) (N := 13) hx hb hts iwX3_sendNextPacket_X3 hown hK hP 0 rfl rfl 5 (by decide) (hts (.fieldLink RX3 84 "RepairSender" "receiverCount" "I") (List.mem_of_getElem? (i := 2) rfl)) (fun _ h9 => h9) rfl dX3_sendNextPacket_24 ?_
      refine q_icmp_ge (u := ((i : Nat) : Int)) (v := ((rc : Nat) : Int)) (tgt := 66) hx hb dX3_sendNextPacket_27 (by decide) (nI_toInt (by omega)) (nI_toInt (by omega)) (fun c_27 => ?_) (fun c_27 => ?_)
      · obtain rfl : rc = i := by omega
        refine lv_aload_n hx hb dX3_sendNextPacket_66 rfl (lv_at hl 0 rfl) ?_
        refine lv_dup hx hb dX3_sendNextPacket_67 rfl ?_
        refine va_get (D := D) (ci := 2) (v := .int (nI (sent))) (C := RX3) (T := TX3) (N := 13) hx hb hts iwX3_sendNextPacket_X3 hown hK hP 0 rfl rfl 2 (by decide) (hts (.fieldLink RX3 56 "RepairSender" "sentCount" "I") (List.mem_of_getElem? (i := 1) rfl)) (fun _ h9 => h9) rfl dX3_sendNextPacket_68 ?_
        refine lv_iconst (v := nI (1)) hx hb dX3_sendNextPacket_71 (by decide) ?_
        refine lv_iadd hx hb dX3_sendNextPacket_72 ?_
        refine q_top (show (nI (sent) + nI (1)) = nI (sent + 1) from nI_add _ _) ?_
        refine va_put (D := D) (ci := 2) (v := .int (nI (sent + 1))) (ty := .int) (C := RX3) (T := TX3) (N := 13) hx hb hts iwX3_sendNextPacket_X3 tyX3 tyX3_ok nmX3 hown hK hP hD hS 0 rfl rfl 2 (by decide) (hts (.fieldLink RX3 56 "RepairSender" "sentCount" "I") (List.mem_of_getElem? (i := 1) rfl)) (fun _ h9 => h9) rfl (by decide +kernel) rfl rfl (Nat.le_of_ble_eq_true rfl) dX3_sendNextPacket_73 (fun H locs hP hD hS => ?_)
        have hP : va_P D vwCl (wA cI cZ ad (pat) (sent + 1) (rep) (kept) (rc) (los) (wai) (snd1 rc sent los gon set) (bad) (gon) (bk) (bp) (bv)) H := hP
        have hD : va_D A (wA cI cZ ad (pat) (sent + 1) (rep) (kept) (rc) (los) (wai) (snd1 rc sent los gon set) (bad) (gon) (bk) (bp) (bv)) := hD
        have hP : va_P D vwCl (wA cI cZ ad (pat) (sent + 1) (rep) (kept) (rc) (los) (wai) (snd1 rc sent los gon set) (bad) (gon) (bk) (bp) (bv)) H := hP
        have hD : va_D A (wA cI cZ ad (pat) (sent + 1) (rep) (kept) (rc) (los) (wai) (snd1 rc sent los gon set) (bad) (gon) (bk) (bp) (bv)) := hD
        exact W.vret hx hb hr (fun t ht hW => ⟨⟨(), rfl, trivial, by rw [ht]; exact hP, hD⟩, hS.F ht⟩) hS.2.2 dX3_sendNextPacket_76
      · skip
        have hg6 := hgon i (by omega)
        have hl6 := hlos i (by omega)
        have hbt := and_bit (los i) (sent % 11)
        have hal : (los i) &&& (2 ^ (sent % 11)) ≤ los i := Nat.and_le_left
        refine lv_aload_n hx hb dX3_sendNextPacket_30 rfl (lv_at hl 0 rfl) ?_
        refine va_get (D := D) (ci := 2) (v := .ref (ad 5)) (C := RX3) (T := TX3) (N := 13) hx hb hts iwX3_sendNextPacket_X3 hown hK hP 0 rfl rfl 10 (by decide) (hts (.fieldLink RX3 29 "RepairSender" "dropped" "[Z") (List.mem_of_getElem? (i := 3) rfl)) (fun _ h9 => h9) rfl dX3_sendNextPacket_31 ?_
        refine lv_iload_n hx hb dX3_sendNextPacket_34 rfl (lv_at hl 3 rfl) ?_
        refine q_zald (f := gon) (j := i) hx hb hK hP 5 1 rfl rfl (by omega) (by decide) dX3_sendNextPacket_35 ?_
        refine q_if_ne (u := ((gon i : Nat) : Int)) (tgt := 60) hx hb dX3_sendNextPacket_36 (by decide) (nI_toInt (by omega)) (fun c_36 => ?_) (fun c_36 => ?_)
        · skip
          refine lv_iinc (v := nI (i + 1)) (lv' := [(3, .int (nI (i + 1))), (0, .ref (ad 0)), (1, .int (nI (2 ^ (sent % 16)))), (2, .int (nI (2 ^ (sent % 11))))]) hx hb dX3_sendNextPacket_60 hl (k := 3) rfl (show nI (i) + Int32.ofInt 1 = nI (i + 1) from nI_add (i) 1) (by decide) rfl (fun ls hl => ?_)
          refine lv_goto (tgt := 22) hx hb dX3_sendNextPacket_63 (by decide) ?_
          have eW : (wA cI cZ ad (pat) (sent) (rep) (kept) (rc) (los) (wai) (snd1 i sent los gon set) (bad) (gon) (bk) (bp) (bv)) = (wA cI cZ ad (pat) (sent) (rep) (kept) (rc) (los) (wai) (snd1 (i + 1) sent los gon set) (bad) (gon) (bk) (bp) (bv)) := by first | rw [snd1_y (by omega) hbit] | rw [snd1_n (by omega)]
          rw [eW] at hP hD
          clear eW
          exact ih22_1 (i + 1) (by omega) (by omega) _ _ hP hD hS ls (lv_sub hl [1, 2, 3, 0] rfl)
        · skip
          refine lv_aload_n hx hb dX3_sendNextPacket_39 rfl (lv_at hl 0 rfl) ?_
          refine va_get (D := D) (ci := 2) (v := .ref (ad 1)) (C := RX3) (T := TX3) (N := 13) hx hb hts iwX3_sendNextPacket_X3 hown hK hP 0 rfl rfl 6 (by decide) (hts (.fieldLink RX3 16 "RepairSender" "losses" "[I") (List.mem_of_getElem? (i := 4) rfl)) (fun _ h9 => h9) rfl dX3_sendNextPacket_40 ?_
          refine lv_iload_n hx hb dX3_sendNextPacket_43 rfl (lv_at hl 3 rfl) ?_
          refine q_iald (f := los) (j := i) hx hb hK hP 1 0 rfl rfl (by omega) (by decide) dX3_sendNextPacket_44 ?_
          refine lv_iload_n hx hb dX3_sendNextPacket_45 rfl (lv_at hl 2 rfl) ?_
          refine lv_iand hx hb dX3_sendNextPacket_46 ?_
          refine q_top (show (nI (los i) &&& nI (2 ^ (sent % 11))) = nI ((los i) &&& (2 ^ (sent % 11))) from nI_and _ _) ?_
          refine q_if_ne (u := (((los i) &&& (2 ^ (sent % 11)) : Nat) : Int)) (tgt := 60) hx hb dX3_sendNextPacket_47 (by decide) (nI_toInt (by omega)) (fun c_47 => ?_) (fun c_47 => ?_)
          · have hbit : ¬ (los i / 2 ^ (sent % 11) % 2 = 0) := fun z => absurd (hbt.mpr z) (by omega)
            refine lv_iinc (v := nI (i + 1)) (lv' := [(3, .int (nI (i + 1))), (0, .ref (ad 0)), (1, .int (nI (2 ^ (sent % 16)))), (2, .int (nI (2 ^ (sent % 11))))]) hx hb dX3_sendNextPacket_60 hl (k := 3) rfl (show nI (i) + Int32.ofInt 1 = nI (i + 1) from nI_add (i) 1) (by decide) rfl (fun ls hl => ?_)
            refine lv_goto (tgt := 22) hx hb dX3_sendNextPacket_63 (by decide) ?_
            have eW : (wA cI cZ ad (pat) (sent) (rep) (kept) (rc) (los) (wai) (snd1 i sent los gon set) (bad) (gon) (bk) (bp) (bv)) = (wA cI cZ ad (pat) (sent) (rep) (kept) (rc) (los) (wai) (snd1 (i + 1) sent los gon set) (bad) (gon) (bk) (bp) (bv)) := by first | rw [snd1_y (by omega) hbit] | rw [snd1_n (by omega)]
            rw [eW] at hP hD
            clear eW
            exact ih22_1 (i + 1) (by omega) (by omega) _ _ hP hD hS ls (lv_sub hl [1, 2, 3, 0] rfl)
          · have hbit : los i / 2 ^ (sent % 11) % 2 = 0 := hbt.mp (by omega)
            refine lv_aload_n hx hb dX3_sendNextPacket_50 rfl (lv_at hl 0 rfl) ?_
            refine va_get (D := D) (ci := 2) (v := .ref (ad 3)) (C := RX3) (T := TX3) (N := 13) hx hb hts iwX3_sendNextPacket_X3 hown hK hP 0 rfl rfl 8 (by decide) (hts (.fieldLink RX3 23 "RepairSender" "packetSets" "[I") (List.mem_of_getElem? (i := 5) rfl)) (fun _ h9 => h9) rfl dX3_sendNextPacket_51 ?_
            refine lv_iload_n hx hb dX3_sendNextPacket_54 rfl (lv_at hl 3 rfl) ?_
            refine lv_dup2_11 hx hb dX3_sendNextPacket_55 rfl rfl ?_
            refine q_iald (f := (snd1 i sent los gon set)) (j := i) hx hb hK hP 3 0 rfl rfl (by omega) (by decide) dX3_sendNextPacket_56 ?_
            refine lv_iload_n hx hb dX3_sendNextPacket_57 rfl (lv_at hl 1 rfl) ?_
            refine lv_ior hx hb dX3_sendNextPacket_58 ?_
            refine q_top (show (nI ((snd1 i sent los gon set) i) ||| nI (2 ^ (sent % 16))) = nI (((snd1 i sent los gon set) i) ||| (2 ^ (sent % 16))) from nI_or _ _) ?_
            refine q_iast (f := (snd1 i sent los gon set)) (j := i) (y := ((snd1 i sent los gon set) i) ||| (2 ^ (sent % 16))) hx hb hK hP hD hS 3 0 rfl rfl (by omega) (by decide) dX3_sendNextPacket_59 (fun H locs hP hD hS => ?_)
            have hP : va_P D vwCl (wA cI cZ ad (pat) (sent) (rep) (kept) (rc) (los) (wai) (un (snd1 i sent los gon set) i (((snd1 i sent los gon set) i) ||| (2 ^ (sent % 16)))) (bad) (gon) (bk) (bp) (bv)) H := hP
            have hD : va_D A (wA cI cZ ad (pat) (sent) (rep) (kept) (rc) (los) (wai) (un (snd1 i sent los gon set) i (((snd1 i sent los gon set) i) ||| (2 ^ (sent % 16)))) (bad) (gon) (bk) (bp) (bv)) := hD
            refine lv_iinc (v := nI (i + 1)) (lv' := [(3, .int (nI (i + 1))), (0, .ref (ad 0)), (1, .int (nI (2 ^ (sent % 16)))), (2, .int (nI (2 ^ (sent % 11))))]) hx hb dX3_sendNextPacket_60 hl (k := 3) rfl (show nI (i) + Int32.ofInt 1 = nI (i + 1) from nI_add (i) 1) (by decide) rfl (fun ls hl => ?_)
            refine lv_goto (tgt := 22) hx hb dX3_sendNextPacket_63 (by decide) ?_
            have eW : (wA cI cZ ad (pat) (sent) (rep) (kept) (rc) (los) (wai) (un (snd1 i sent los gon set) i (((snd1 i sent los gon set) i) ||| (2 ^ (sent % 16)))) (bad) (gon) (bk) (bp) (bv)) = (wA cI cZ ad (pat) (sent) (rep) (kept) (rc) (los) (wai) (snd1 (i + 1) sent los gon set) (bad) (gon) (bk) (bp) (bv)) := by first | rw [snd1_y (by omega) hbit] | rw [snd1_n (by omega)]
            rw [eW] at hP hD
            clear eW
            exact ih22_1 (i + 1) (by omega) (by omega) _ _ hP hD hS ls (lv_sub hl [1, 2, 3, 0] rfl)
  have eW : (wA cI cZ ad (pat) (sent) (rep) (kept) (rc) (los) (wai) (set) (bad) (gon) (bk) (bp) (bv)) = (wA cI cZ ad (pat) (sent) (rep) (kept) (rc) (los) (wai) (snd1 0 sent los gon set) (bad) (gon) (bk) (bp) (bv)) := by rw [snd1_0]
  rw [eW] at hP hD
  clear eW
  exact L22_1 _ (0) (Nat.lt_succ_self _) (by omega) _ _ hP hD hS ls (lv_sub hl [3, 2, 1, 0] rfl)

set_option maxHeartbeats 4000000 in
set_option maxRecDepth 100000 in
theorem c_X3_sendPackets (l : Launch) (D : va_G) (cI cZ cQ cL : ClassId) (ad : Nat → Nat) (pat : Nat) (sent : Nat) (rep : Nat) (kept : Nat) (rc : Nat) (los : Nat → Nat) (wai : Nat → Nat) (set : Nat → Nat) (bad : Nat → Nat) (gon : Nat → Nat) (bk : Nat) (bp : Nat → B8) (bv : Nat → B8) (mn : Nat) (sz : Nat) (hrc : rc ≤ 6) (hse : sent + mn < 2 ^ 30) (hlos : ∀ r, r < 6 → los r ≤ 2047) (hgon : ∀ r, r < 6 → gon r ≤ 1) (hset : ∀ r, r < 6 → set r < 65536) : Met l yX3_sendPackets wsX3_sendPackets ({ frames := 1, cells := 0, slots := 0, locals := 23 } : Room) (PW D (TY cI cZ cQ cL) (wA cI cZ ad (pat) (sent) (rep) (kept) (rc) (los) (wai) (set) (bad) (gon) (bk) (bp) (bv)) sz [.ref (ad 0), .int (nI (mn))]) (QV D (va_A (wA cI cZ ad (pat) (sent) (rep) (kept) (rc) (los) (wai) (set) (bad) (gon) (bk) (bp) (bv)) sz) (fun (_ : Unit) => True) (fun _ => (wA cI cZ ad (pat) (sent + mn) (rep) (kept) (rc) (los) (wai) (sndM rc sent los gon set mn) (bad) (gon) (bk) (bp) (bv)))) 0 0 (va_A (wA cI cZ ad (pat) (sent) (rep) (kept) (rc) (los) (wai) (set) (bad) (gon) (bk) (bp) (bv)) sz) := by
  refine Met.ofW (cc := cX3_sendPackets) (maxL := 3) (ret := none) (by decide) rfl ?_
  intro p e s m args below meth c s₁ B hml hv
  obtain ⟨rfl, hsz, hP, hK, hD0, hN⟩ := hv
  have hx := B.exec
  have hb := B.bytes
  have hr := B.returns
  have hts := atoms_spec (ws := wsX3_sendPackets) B.pre
  have hown : s.vm.findClass RX3 = some m.cls := findClass_of_methodNamed B.named
  have hlocks := B.notSynchronized
  subst hsz
  have hD := hD0.self (sz := s.heap.size)
  generalize hAe : va_A (wA cI cZ ad (pat) (sent) (rep) (kept) (rc) (los) (wai) (set) (bad) (gon) (bk) (bp) (bv)) s.heap.size = A at hD ⊢
  have hA : ∀ q : Nat, s.heap.size ≤ q → A q := fun q h => by rw [← hAe]; exact Or.inr h
  have hS : va_S A s.heap s.heap [] := va_S.rf
  have hl := lv_entry ([.ref (ad 0), .int (nI (mn))]) (n := 3) (Nat.le_of_ble_eq_true rfl)
  rw [lg_entry_eq]
  generalize (lg_sl ([.ref (ad 0), .int (nI (mn))]) ++ List.replicate (3 - (lg_sl ([.ref (ad 0), .int (nI (mn))])).length) Slot.unset).toArray = ls at hl ⊢
  have hl : lv_has ls 3 [(0, .ref (ad 0)), (1, .int (nI (mn)))] := hl
  refine lv_iconst (v := nI (0)) hx hb dX3_sendPackets_0 (by decide) ?_
  refine lv_istore_n (lv' := [(2, .int (nI (0))), (0, .ref (ad 0)), (1, .int (nI (mn)))]) hx hb dX3_sendPackets_1 rfl hl (by decide) rfl (fun ls hl => ?_)
  have L2_1 : ∀ (n2_1 : Nat) (i : Nat), mn - i < n2_1 → (i ≤ mn) → ∀ (H : Heap) (locs : List Loc), va_P D vwCl (wA cI cZ ad (pat) (sent + i) (rep) (kept) (rc) (los) (wai) (sndM rc sent los gon set i) (bad) (gon) (bk) (bp) (bv)) H → va_D A (wA cI cZ ad (pat) (sent + i) (rep) (kept) (rc) (los) (wai) (sndM rc sent los gon set i) (bad) (gon) (bk) (bp) (bv)) → va_S A s.heap H locs → ∀ (ls : Array Slot), lv_has ls 3 [(0, .ref (ad 0)), (1, .int (nI (mn))), (2, .int (nI (i)))] → W p l e (headSpec wsX3_sendPackets ({ frames := 1, cells := 0, slots := 0, locals := 23 } : Room)).room s m ([.ref (ad 0), .int (nI (mn))] : List Value).toArray below meth c H locs 0 0 (MQ below (QV D A (fun (_ : Unit) => True) (fun _ => (wA cI cZ ad (pat) (sent + mn) (rep) (kept) (rc) (los) (wai) (sndM rc sent los gon set mn) (bad) (gon) (bk) (bp) (bv)))) ([.ref (ad 0), .int (nI (mn))] : List Value).toArray s 0 0 A) (F0 m 2 ls []) := by
    intro n2_1
    induction n2_1 with
    | zero =>
      intro i hn2_1
      exact absurd hn2_1 (Nat.not_lt_zero _)
    | succ n2_1 ih2_1 =>
      intro i hn2_1 hi H locs hP hD hS ls hl
      refine lv_iload_n hx hb dX3_sendPackets_2 rfl (lv_at hl 2 rfl) ?_
      refine lv_iload_n hx hb dX3_sendPackets_3 rfl (lv_at hl 1 rfl) ?_
      refine q_icmp_ge (u := ((i : Nat) : Int)) (v := ((mn : Nat) : Int)) (tgt := 17) hx hb dX3_sendPackets_4 (by decide) (nI_toInt (by omega)) (nI_toInt (by omega)) (fun c_4 => ?_) (fun c_4 => ?_)
      · obtain rfl : mn = i := by omega
        have hP : va_P D vwCl (wA cI cZ ad (pat) (sent + mn) (rep) (kept) (rc) (los) (wai) (sndM rc sent los gon set mn) (bad) (gon) (bk) (bp) (bv)) H := hP
        have hD : va_D A (wA cI cZ ad (pat) (sent + mn) (rep) (kept) (rc) (los) (wai) (sndM rc sent los gon set mn) (bad) (gon) (bk) (bp) (bv)) := hD
        exact W.vret hx hb hr (fun t ht hW => ⟨⟨(), rfl, trivial, by rw [ht]; exact hP, hD⟩, hS.F ht⟩) hS.2.2 dX3_sendPackets_17
      · skip
        refine lv_aload_n hx hb dX3_sendPackets_7 rfl (lv_at hl 0 rfl) ?_
        have hPc : va_P D vwCl (wA cI cZ ad (pat) ((sent + i)) (rep) (kept) (rc) (los) (wai) ((sndM rc sent los gon set i)) (bad) (gon) (bk) (bp) (bv)) H := hP
        refine q_cv (wc := (wA cI cZ ad (pat) ((sent + i)) (rep) (kept) (rc) (los) (wai) ((sndM rc sent los gon set i)) (bad) (gon) (bk) (bp) (bv))) (wr := []) (w1 := fun _ => (wA cI cZ ad (pat) ((sent + i) + 1) (rep) (kept) (rc) (los) (wai) (snd1 rc (sent + i) los gon (sndM rc sent los gon set i)) (bad) (gon) (bk) (bp) (bv))) (va_runV (As := []) (rest := []) ⟨hx, hb, hml, hown, hts⟩ (c_X3_sendNextPacket l D cI cZ cQ cL (ad) (pat) (sent + i) (rep) (kept) (rc) (los) (wai) (sndM rc sent los gon set i) (bad) (gon) (bk) (bp) (bv) H.size (hrc) (by omega) (hlos) (hgon) (sndM_lt hset i)) (cwV 0 hts gX3_sendPackets_X3_sendNextPacket rfl rfl rfl ⟨rfl, hd_X3_sendNextPacket⟩ ⟨Nat.le_of_ble_eq_true rfl, Nat.le_of_ble_eq_true rfl⟩) (PW_v (q := (RX3, TX3, 13)) (ci := 2) (q0 := 0) hPc hK hD hN rfl rfl) rfl rfl hl.1 rfl (lv_room (Nat.le_of_ble_eq_true rfl)) dX3_sendPackets_8 ⟨Nat.le_of_ble_eq_true rfl, Nat.le_of_ble_eq_true rfl⟩) hP hD hS hA [0, 1, 2, 3, 4, 5, 6, 7, 8] [] rfl rfl (by decide) (by decide) (fun u_8 H locs h_8 hP hD hS => ?_)
        have hP : va_P D vwCl (wA cI cZ ad (pat) ((sent + i) + 1) (rep) (kept) (rc) (los) (wai) (snd1 rc (sent + i) los gon (sndM rc sent los gon set i)) (bad) (gon) (bk) (bp) (bv)) H := hP
        have hD : va_D A (wA cI cZ ad (pat) ((sent + i) + 1) (rep) (kept) (rc) (los) (wai) (snd1 rc (sent + i) los gon (sndM rc sent los gon set i)) (bad) (gon) (bk) (bp) (bv)) := hD
        refine lv_iinc (v := nI (i + 1)) (lv' := [(2, .int (nI (i + 1))), (0, .ref (ad 0)), (1, .int (nI (mn)))]) hx hb dX3_sendPackets_11 hl (k := 2) rfl (show nI (i) + Int32.ofInt 1 = nI (i + 1) from nI_add (i) 1) (by decide) rfl (fun ls hl => ?_)
        refine lv_goto (tgt := 2) hx hb dX3_sendPackets_14 (by decide) ?_
        have eW : (wA cI cZ ad (pat) ((sent + i) + 1) (rep) (kept) (rc) (los) (wai) (snd1 rc (sent + i) los gon (sndM rc sent los gon set i)) (bad) (gon) (bk) (bp) (bv)) = (wA cI cZ ad (pat) (sent + (i + 1)) (rep) (kept) (rc) (los) (wai) (sndM rc sent los gon set (i + 1)) (bad) (gon) (bk) (bp) (bv)) := by rfl
        rw [eW] at hP hD
        clear eW
        exact ih2_1 (i + 1) (by omega) (by omega) _ _ hP hD hS ls (lv_sub hl [1, 2, 0] rfl)
  have eW : (wA cI cZ ad (pat) (sent) (rep) (kept) (rc) (los) (wai) (set) (bad) (gon) (bk) (bp) (bv)) = (wA cI cZ ad (pat) (sent + 0) (rep) (kept) (rc) (los) (wai) (sndM rc sent los gon set 0) (bad) (gon) (bk) (bp) (bv)) := by rfl
  rw [eW] at hP hD
  clear eW
  exact L2_1 _ (0) (Nat.lt_succ_self _) (by omega) _ _ hP hD hS ls (lv_sub hl [1, 2, 0] rfl)

theorem iwX3_hearReportsAt_X3 : ∀ w ∈ wsX30, w ∈ wsX3_hearReportsAt := by decide +kernel
set_option maxHeartbeats 4000000 in
set_option maxRecDepth 100000 in
theorem c_X3_hearReportsAt (l : Launch) (D : va_G) (cI cZ cQ cL : ClassId) (ad : Nat → Nat) (pat : Nat) (sent : Nat) (rep : Nat) (kept : Nat) (rc : Nat) (los : Nat → Nat) (wai : Nat → Nat) (set : Nat → Nat) (bad : Nat → Nat) (gon : Nat → Nat) (bk : Nat) (bp : Nat → B8) (bv : Nat → B8) (wt : Nat) (hbd : Nat) (sz : Nat) (hrc : rc ≤ 6) (hwai : ∀ r, r < 6 → wai r ≤ 20) (hset : ∀ r, r < 6 → set r < 65536) (hbk : bk ≤ 8) (hgon : ∀ r, r < 6 → gon r ≤ 1) (hwt : wt ≤ 20) (hhb : hbd ≤ 8) : Met l yX3_hearReportsAt wsX3_hearReportsAt ({ frames := 3, cells := 0, slots := 0, locals := 62 } : Room) (PW D (TY cI cZ cQ cL) (wA cI cZ ad (pat) (sent) (rep) (kept) (rc) (los) (wai) (set) (bad) (gon) (bk) (bp) (bv)) sz [.ref (ad 0), .int (nI (wt)), .int (nI (hbd))]) (QI D (va_A (wA cI cZ ad (pat) (sent) (rep) (kept) (rc) (los) (wai) (set) (bad) (gon) (bk) (bp) (bv)) sz) (fun z9 (_ : Unit) => z9 = nI (hrH (ndf bk set gon) wai wt hbd rc)) (fun _ => (wA cI cZ ad (pat) (sent) (rep + hrR (ndf bk set gon) wai wt hbd rc) (kept + hrK (ndf bk set gon) wai wt hbd rc) (rc) (los) (wai) (set) (bad) (gon) (bk) (bp) (bv)))) 0 0 (va_A (wA cI cZ ad (pat) (sent) (rep) (kept) (rc) (los) (wai) (set) (bad) (gon) (bk) (bp) (bv)) sz) := by
  refine Met.ofW (cc := cX3_hearReportsAt) (maxL := 6) (ret := (some .int)) (by decide) rfl ?_
  intro p e s m args below meth c s₁ B hml hv
  obtain ⟨rfl, hsz, hP, hK, hD0, hN⟩ := hv
  have hx := B.exec
  have hb := B.bytes
  have hr := B.returns
  have hts := atoms_spec (ws := wsX3_hearReportsAt) B.pre
  have hown : s.vm.findClass RX3 = some m.cls := findClass_of_methodNamed B.named
  have hlocks := B.notSynchronized
  subst hsz
  have hD := hD0.self (sz := s.heap.size)
  generalize hAe : va_A (wA cI cZ ad (pat) (sent) (rep) (kept) (rc) (los) (wai) (set) (bad) (gon) (bk) (bp) (bv)) s.heap.size = A at hD ⊢
  have hA : ∀ q : Nat, s.heap.size ≤ q → A q := fun q h => by rw [← hAe]; exact Or.inr h
  have hS : va_S A s.heap s.heap [] := va_S.rf
  have hl := lv_entry ([.ref (ad 0), .int (nI (wt)), .int (nI (hbd))]) (n := 6) (Nat.le_of_ble_eq_true rfl)
  rw [lg_entry_eq]
  generalize (lg_sl ([.ref (ad 0), .int (nI (wt)), .int (nI (hbd))]) ++ List.replicate (6 - (lg_sl ([.ref (ad 0), .int (nI (wt)), .int (nI (hbd))])).length) Slot.unset).toArray = ls at hl ⊢
  have hl : lv_has ls 6 [(0, .ref (ad 0)), (1, .int (nI (wt))), (2, .int (nI (hbd)))] := hl
  refine lv_iload_n hx hb dX3_hearReportsAt_0 rfl (lv_at hl 2 rfl) ?_
  refine lv_istore_n (lv' := [(3, .int (nI (hbd))), (0, .ref (ad 0)), (1, .int (nI (wt))), (2, .int (nI (hbd)))]) hx hb dX3_hearReportsAt_1 rfl hl (by decide) rfl (fun ls hl => ?_)
  refine lv_iconst (v := nI (0)) hx hb dX3_hearReportsAt_2 (by decide) ?_
  refine lv_istore (lv' := [(4, .int (nI (0))), (3, .int (nI (hbd))), (0, .ref (ad 0)), (1, .int (nI (wt))), (2, .int (nI (hbd)))]) hx hb dX3_hearReportsAt_3 hl (by decide) rfl (fun ls hl => ?_)
  have L5_1 : ∀ (n5_1 : Nat) (i : Nat), rc - i < n5_1 → (i ≤ rc) → ∀ (H : Heap) (locs : List Loc), va_P D vwCl (wA cI cZ ad (pat) (sent) (rep + hrR (ndf bk set gon) wai wt hbd i) (kept + hrK (ndf bk set gon) wai wt hbd i) (rc) (los) (wai) (set) (bad) (gon) (bk) (bp) (bv)) H → va_D A (wA cI cZ ad (pat) (sent) (rep + hrR (ndf bk set gon) wai wt hbd i) (kept + hrK (ndf bk set gon) wai wt hbd i) (rc) (los) (wai) (set) (bad) (gon) (bk) (bp) (bv)) → va_S A s.heap H locs → ∀ (ls : Array Slot), lv_has ls 6 [(0, .ref (ad 0)), (1, .int (nI (wt))), (2, .int (nI (hbd))), (3, .int (nI (hrH (ndf bk set gon) wai wt hbd i))), (4, .int (nI (i)))] → W p l e (headSpec wsX3_hearReportsAt ({ frames := 3, cells := 0, slots := 0, locals := 62 } : Room)).room s m ([.ref (ad 0), .int (nI (wt)), .int (nI (hbd))] : List Value).toArray below meth c H locs 0 0 (MQ below (QI D A (fun z9 (_ : Unit) => z9 = nI (hrH (ndf bk set gon) wai wt hbd rc)) (fun _ => (wA cI cZ ad (pat) (sent) (rep + hrR (ndf bk set gon) wai wt hbd rc) (kept + hrK (ndf bk set gon) wai wt hbd rc) (rc) (los) (wai) (set) (bad) (gon) (bk) (bp) (bv)))) ([.ref (ad 0), .int (nI (wt)), .int (nI (hbd))] : List Value).toArray s 0 0 A) (F0 m 5 ls []) := by
    intro n5_1
    induction n5_1 with
    | zero =>
      intro i hn5_1
      exact absurd hn5_1 (Nat.not_lt_zero _)
    | succ n5_1 ih5_1 =>
      intro i hn5_1 hi H locs hP hD hS ls hl
      refine lv_iload hx hb dX3_hearReportsAt_5 (lv_at hl 4 rfl) ?_
      refine lv_aload_n hx hb dX3_hearReportsAt_7 rfl (lv_at hl 0 rfl) ?_
      refine va_get (D := D) (ci := 2) (v := .int (nI (rc))) (C := RX3) (T := TX3) (N := 13) hx hb hts iwX3_hearReportsAt_X3 hown hK hP 0 rfl rfl 5 (by decide) (hts (.fieldLink RX3 84 "RepairSender" "receiverCount" "I") (List.mem_of_getElem? (i := 1) rfl)) (fun _ h9 => h9) rfl dX3_hearReportsAt_8 ?_
      refine q_icmp_ge (u := ((i : Nat) : Int)) (v := ((rc : Nat) : Int)) (tgt := 84) hx hb dX3_hearReportsAt_11 (by decide) (nI_toInt (by omega)) (nI_toInt (by omega)) (fun c_11 => ?_) (fun c_11 => ?_)
      · obtain rfl : rc = i := by omega
        refine lv_iload_n hx hb dX3_hearReportsAt_84 rfl (lv_at hl 3 rfl) ?_
        have hP : va_P D vwCl (wA cI cZ ad (pat) (sent) (rep + hrR (ndf bk set gon) wai wt hbd rc) (kept + hrK (ndf bk set gon) wai wt hbd rc) (rc) (los) (wai) (set) (bad) (gon) (bk) (bp) (bv)) H := hP
        have hD : va_D A (wA cI cZ ad (pat) (sent) (rep + hrR (ndf bk set gon) wai wt hbd rc) (kept + hrK (ndf bk set gon) wai wt hbd rc) (rc) (los) (wai) (set) (bad) (gon) (bk) (bp) (bv)) := hD
        exact W.iret (v := nI (hrH (ndf bk set gon) wai wt hbd rc)) hx hb hr (fun t ht hW => ⟨⟨_, (), rfl, (by rfl), by rw [ht]; exact hP, hD⟩, hS.F ht⟩) hS.2.2 dX3_hearReportsAt_85
      · skip
        have hw6 := hwai i (by omega)
        have hhl : hrH (ndf bk set gon) wai wt hbd i ≤ 8 := hrH_le hhb i (fun r _ => Nat.le_trans (ndf_le bk set gon r) hbk)
        refine lv_aload_n hx hb dX3_hearReportsAt_14 rfl (lv_at hl 0 rfl) ?_
        refine va_get (D := D) (ci := 2) (v := .ref (ad 2)) (C := RX3) (T := TX3) (N := 13) hx hb hts iwX3_hearReportsAt_X3 hown hK hP 0 rfl rfl 7 (by decide) (hts (.fieldLink RX3 20 "RepairSender" "waits" "[I") (List.mem_of_getElem? (i := 2) rfl)) (fun _ h9 => h9) rfl dX3_hearReportsAt_15 ?_
        refine lv_iload hx hb dX3_hearReportsAt_18 (lv_at hl 4 rfl) ?_
        refine q_iald (f := wai) (j := i) hx hb hK hP 2 0 rfl rfl (by omega) (by decide) dX3_hearReportsAt_20 ?_
        refine lv_iload_n hx hb dX3_hearReportsAt_21 rfl (lv_at hl 1 rfl) ?_
        refine q_icmp_ne (u := ((wai i : Nat) : Int)) (v := ((wt : Nat) : Int)) (tgt := 78) hx hb dX3_hearReportsAt_22 (by decide) (nI_toInt (by omega)) (nI_toInt (by omega)) (fun c_22 => ?_) (fun c_22 => ?_)
        · have eR : hrR (ndf bk set gon) wai wt hbd (i + 1) = hrR (ndf bk set gon) wai wt hbd i := if_neg (by omega)
          have eK : hrK (ndf bk set gon) wai wt hbd (i + 1) = hrK (ndf bk set gon) wai wt hbd i := if_neg (by omega)
          have eH : hrH (ndf bk set gon) wai wt hbd (i + 1) = hrH (ndf bk set gon) wai wt hbd i := if_neg (by omega)
          refine lv_iinc (v := nI (i + 1)) (lv' := [(4, .int (nI (i + 1))), (0, .ref (ad 0)), (1, .int (nI (wt))), (2, .int (nI (hbd))), (3, .int (nI (hrH (ndf bk set gon) wai wt hbd i)))]) hx hb dX3_hearReportsAt_78 hl (k := 4) rfl (show nI (i) + Int32.ofInt 1 = nI (i + 1) from nI_add (i) 1) (by decide) rfl (fun ls hl => ?_)
          refine lv_goto (tgt := 5) hx hb dX3_hearReportsAt_81 (by decide) ?_
          have eW : (wA cI cZ ad (pat) (sent) (rep + hrR (ndf bk set gon) wai wt hbd i) (kept + hrK (ndf bk set gon) wai wt hbd i) (rc) (los) (wai) (set) (bad) (gon) (bk) (bp) (bv)) = (wA cI cZ ad (pat) (sent) (rep + hrR (ndf bk set gon) wai wt hbd (i + 1)) (kept + hrK (ndf bk set gon) wai wt hbd (i + 1)) (rc) (los) (wai) (set) (bad) (gon) (bk) (bp) (bv)) := by rw [eR, eK]; try rfl
          rw [eW] at hP hD
          clear eW
          exact ih5_1 (i + 1) (by omega) (by omega) _ _ hP hD hS ls (lv_sub hl [1, 2, 3, 4, 0] (by rw [eH]; rfl))
        · skip
          refine lv_aload_n hx hb dX3_hearReportsAt_25 rfl (lv_at hl 0 rfl) ?_
          refine lv_iload hx hb dX3_hearReportsAt_26 (lv_at hl 4 rfl) ?_
          have hPc : va_P D vwCl (wA cI cZ ad (pat) (sent) ((rep + hrR (ndf bk set gon) wai wt hbd i)) ((kept + hrK (ndf bk set gon) wai wt hbd i)) (rc) (los) (wai) (set) (bad) (gon) (bk) (bp) (bv)) H := hP
          refine q_csi (va_runV (As := [.int (nI (i))]) (rest := []) ⟨hx, hb, hml, hown, hts⟩ (c_X3_isLiveAndLacks l D cI cZ cQ cL (ad) (pat) (sent) (rep + hrR (ndf bk set gon) wai wt hbd i) (kept + hrK (ndf bk set gon) wai wt hbd i) (rc) (los) (wai) (set) (bad) (gon) (bk) (bp) (bv) (i) H.size (by omega) (hset) (hbk) (hgon)) (cwV 1 hts gX3_hearReportsAt_X3_isLiveAndLacks rfl rfl rfl ⟨rfl, hd_X3_isLiveAndLacks⟩ ⟨Nat.le_of_ble_eq_true rfl, Nat.le_of_ble_eq_true rfl⟩) (PW_v (q := (RX3, TX3, 13)) (ci := 2) (q0 := 0) hPc hK hD hN rfl rfl) rfl rfl hl.1 rfl (lv_room (Nat.le_of_ble_eq_true rfl)) dX3_hearReportsAt_28 ⟨Nat.le_of_ble_eq_true rfl, Nat.le_of_ble_eq_true rfl⟩) (fun r_28 hr_28 => ?_)
          rcases hr_28 with ⟨rfl, h_28⟩ | ⟨rfl, h_28⟩
          · have h_28 : gon i = 0 ∧ 0 < bk - pc (set i) := h_28
            have hnd : ndf bk set gon i = bk - pc (set i) := if_pos h_28.1
            refine q_if_eq (u := ((1 : Nat) : Int)) (tgt := 78) hx hb dX3_hearReportsAt_31 (by decide) (nI_toInt (by omega)) (fun c_31 => absurd c_31 (by decide)) (fun _ => ?_)
            refine lv_aload_n hx hb dX3_hearReportsAt_34 rfl (lv_at hl 0 rfl) ?_
            refine lv_iload hx hb dX3_hearReportsAt_35 (lv_at hl 4 rfl) ?_
            have hPc : va_P D vwCl (wA cI cZ ad (pat) (sent) ((rep + hrR (ndf bk set gon) wai wt hbd i)) ((kept + hrK (ndf bk set gon) wai wt hbd i)) (rc) (los) (wai) (set) (bad) (gon) (bk) (bp) (bv)) H := hP
            refine q_csi (va_runV (As := [.int (nI (i))]) (rest := []) ⟨hx, hb, hml, hown, hts⟩ (c_X3_needOf l D cI cZ cQ cL (ad) (pat) (sent) (rep + hrR (ndf bk set gon) wai wt hbd i) (kept + hrK (ndf bk set gon) wai wt hbd i) (rc) (los) (wai) (set) (bad) (gon) (bk) (bp) (bv) (i) H.size (by omega) (hset) (hbk)) (cwV 1 hts gX3_hearReportsAt_X3_needOf rfl rfl rfl ⟨rfl, hd_X3_needOf⟩ ⟨Nat.le_of_ble_eq_true rfl, Nat.le_of_ble_eq_true rfl⟩) (PW_v (q := (RX3, TX3, 13)) (ci := 2) (q0 := 0) hPc hK hD hN rfl rfl) rfl rfl hl.1 rfl (lv_room (Nat.le_of_ble_eq_true rfl)) dX3_hearReportsAt_37 ⟨Nat.le_of_ble_eq_true rfl, Nat.le_of_ble_eq_true rfl⟩) (fun r_37 hr_37 => ?_)
            obtain rfl : r_37 = nI (bk - pc (set i)) := hr_37
            refine lv_istore (lv' := [(5, .int (nI (bk - pc (set i)))), (0, .ref (ad 0)), (1, .int (nI (wt))), (2, .int (nI (hbd))), (3, .int (nI (hrH (ndf bk set gon) wai wt hbd i))), (4, .int (nI (i)))]) hx hb dX3_hearReportsAt_40 hl (by decide) rfl (fun ls hl => ?_)
            refine lv_iload hx hb dX3_hearReportsAt_42 (lv_at hl 0 rfl) ?_
            refine lv_iload_n hx hb dX3_hearReportsAt_44 rfl (lv_at hl 3 rfl) ?_
            refine q_icmp_le (u := ((bk - pc (set i) : Nat) : Int)) (v := ((hbd : Nat) : Int)) (tgt := 68) hx hb dX3_hearReportsAt_45 (by decide) (nI_toInt (by omega)) (nI_toInt (by omega)) (fun c_45 => ?_) (fun c_45 => ?_)
            · have eR : hrR (ndf bk set gon) wai wt hbd (i + 1) = hrR (ndf bk set gon) wai wt hbd i := if_neg (by omega)
              have eK : hrK (ndf bk set gon) wai wt hbd (i + 1) = hrK (ndf bk set gon) wai wt hbd i + 1 := if_pos (by omega)
              have eH : hrH (ndf bk set gon) wai wt hbd (i + 1) = hrH (ndf bk set gon) wai wt hbd i := if_neg (by omega)
              refine lv_aload_n hx hb dX3_hearReportsAt_68 rfl (lv_at hl 1 rfl) ?_
              refine lv_dup hx hb dX3_hearReportsAt_69 rfl ?_
              refine va_get (D := D) (ci := 2) (v := .int (nI (kept + hrK (ndf bk set gon) wai wt hbd i))) (C := RX3) (T := TX3) (N := 13) hx hb hts iwX3_hearReportsAt_X3 hown hK hP 0 rfl rfl 4 (by decide) (hts (.fieldLink RX3 114 "RepairSender" "keptBackCount" "I") (List.mem_of_getElem? (i := 8) rfl)) (fun _ h9 => h9) rfl dX3_hearReportsAt_70 ?_
              refine lv_iconst (v := nI (1)) hx hb dX3_hearReportsAt_73 (by decide) ?_
              refine lv_iadd hx hb dX3_hearReportsAt_74 ?_
              refine q_top (show (nI (kept + hrK (ndf bk set gon) wai wt hbd i) + nI (1)) = nI ((kept + hrK (ndf bk set gon) wai wt hbd i) + 1) from nI_add _ _) ?_
              refine va_put (D := D) (ci := 2) (v := .int (nI ((kept + hrK (ndf bk set gon) wai wt hbd i) + 1))) (ty := .int) (C := RX3) (T := TX3) (N := 13) hx hb hts iwX3_hearReportsAt_X3 tyX3 tyX3_ok nmX3 hown hK hP hD hS 0 rfl rfl 4 (by decide) (hts (.fieldLink RX3 114 "RepairSender" "keptBackCount" "I") (List.mem_of_getElem? (i := 8) rfl)) (fun _ h9 => h9) rfl (by decide +kernel) rfl rfl (Nat.le_of_ble_eq_true rfl) dX3_hearReportsAt_75 (fun H locs hP hD hS => ?_)
              have hP : va_P D vwCl (wA cI cZ ad (pat) (sent) (rep + hrR (ndf bk set gon) wai wt hbd i) ((kept + hrK (ndf bk set gon) wai wt hbd i) + 1) (rc) (los) (wai) (set) (bad) (gon) (bk) (bp) (bv)) H := hP
              have hD : va_D A (wA cI cZ ad (pat) (sent) (rep + hrR (ndf bk set gon) wai wt hbd i) ((kept + hrK (ndf bk set gon) wai wt hbd i) + 1) (rc) (los) (wai) (set) (bad) (gon) (bk) (bp) (bv)) := hD
              refine lv_iinc (v := nI (i + 1)) (lv' := [(4, .int (nI (i + 1))), (5, .int (nI (bk - pc (set i)))), (0, .ref (ad 0)), (1, .int (nI (wt))), (2, .int (nI (hbd))), (3, .int (nI (hrH (ndf bk set gon) wai wt hbd i)))]) hx hb dX3_hearReportsAt_78 hl (k := 5) rfl (show nI (i) + Int32.ofInt 1 = nI (i + 1) from nI_add (i) 1) (by decide) rfl (fun ls hl => ?_)
              refine lv_goto (tgt := 5) hx hb dX3_hearReportsAt_81 (by decide) ?_
              have eW : (wA cI cZ ad (pat) (sent) (rep + hrR (ndf bk set gon) wai wt hbd i) ((kept + hrK (ndf bk set gon) wai wt hbd i) + 1) (rc) (los) (wai) (set) (bad) (gon) (bk) (bp) (bv)) = (wA cI cZ ad (pat) (sent) (rep + hrR (ndf bk set gon) wai wt hbd (i + 1)) (kept + hrK (ndf bk set gon) wai wt hbd (i + 1)) (rc) (los) (wai) (set) (bad) (gon) (bk) (bp) (bv)) := by rw [eR, eK]; try rfl
              rw [eW] at hP hD
              clear eW
              exact ih5_1 (i + 1) (by omega) (by omega) _ _ hP hD hS ls (lv_sub hl [2, 3, 4, 5, 0] (by rw [eH]; rfl))
            · have eR : hrR (ndf bk set gon) wai wt hbd (i + 1) = hrR (ndf bk set gon) wai wt hbd i + 1 := if_pos (by omega)
              have eK : hrK (ndf bk set gon) wai wt hbd (i + 1) = hrK (ndf bk set gon) wai wt hbd i := if_neg (by omega)
              have eH : hrH (ndf bk set gon) wai wt hbd (i + 1) = max (hrH (ndf bk set gon) wai wt hbd i) (bk - pc (set i)) := by
                rw [← hnd]
                exact if_pos (by omega)
              refine lv_aload_n hx hb dX3_hearReportsAt_48 rfl (lv_at hl 1 rfl) ?_
              refine lv_dup hx hb dX3_hearReportsAt_49 rfl ?_
              refine va_get (D := D) (ci := 2) (v := .int (nI (rep + hrR (ndf bk set gon) wai wt hbd i))) (C := RX3) (T := TX3) (N := 13) hx hb hts iwX3_hearReportsAt_X3 hown hK hP 0 rfl rfl 3 (by decide) (hts (.fieldLink RX3 111 "RepairSender" "reportCount" "I") (List.mem_of_getElem? (i := 3) rfl)) (fun _ h9 => h9) rfl dX3_hearReportsAt_50 ?_
              refine lv_iconst (v := nI (1)) hx hb dX3_hearReportsAt_53 (by decide) ?_
              refine lv_iadd hx hb dX3_hearReportsAt_54 ?_
              refine q_top (show (nI (rep + hrR (ndf bk set gon) wai wt hbd i) + nI (1)) = nI ((rep + hrR (ndf bk set gon) wai wt hbd i) + 1) from nI_add _ _) ?_
              refine va_put (D := D) (ci := 2) (v := .int (nI ((rep + hrR (ndf bk set gon) wai wt hbd i) + 1))) (ty := .int) (C := RX3) (T := TX3) (N := 13) hx hb hts iwX3_hearReportsAt_X3 tyX3 tyX3_ok nmX3 hown hK hP hD hS 0 rfl rfl 3 (by decide) (hts (.fieldLink RX3 111 "RepairSender" "reportCount" "I") (List.mem_of_getElem? (i := 3) rfl)) (fun _ h9 => h9) rfl (by decide +kernel) rfl rfl (Nat.le_of_ble_eq_true rfl) dX3_hearReportsAt_55 (fun H locs hP hD hS => ?_)
              have hP : va_P D vwCl (wA cI cZ ad (pat) (sent) ((rep + hrR (ndf bk set gon) wai wt hbd i) + 1) (kept + hrK (ndf bk set gon) wai wt hbd i) (rc) (los) (wai) (set) (bad) (gon) (bk) (bp) (bv)) H := hP
              have hD : va_D A (wA cI cZ ad (pat) (sent) ((rep + hrR (ndf bk set gon) wai wt hbd i) + 1) (kept + hrK (ndf bk set gon) wai wt hbd i) (rc) (los) (wai) (set) (bad) (gon) (bk) (bp) (bv)) := hD
              refine lv_iload_n hx hb dX3_hearReportsAt_58 rfl (lv_at hl 4 rfl) ?_
              refine lv_iload hx hb dX3_hearReportsAt_59 (lv_at hl 0 rfl) ?_
              refine va_mmax hx hb (hml.trans hl.1.symm) hown (hts (.methodLink RX3 181 Lib.Math.max.name) (List.mem_of_getElem? (i := 4) rfl)) (hts (.static Lib.Math.max.name) (List.mem_of_getElem? (i := 5) rfl)) (hts (.initialized "java/lang/Math") (List.mem_of_getElem? (i := 6) rfl)) (hts (.code Lib.Math.max.name Lib.Math.max.code 2 (some .int)) (List.mem_of_getElem? (i := 7) rfl)) (Nat.le_of_ble_eq_true rfl) (Nat.le_of_ble_eq_true rfl) (Nat.le_of_ble_eq_true rfl) (Nat.le_of_ble_eq_true rfl) dX3_hearReportsAt_61 ?_
              refine q_top (show (if nI (hrH (ndf bk set gon) wai wt hbd i) < nI (bk - pc (set i)) then nI (bk - pc (set i)) else nI (hrH (ndf bk set gon) wai wt hbd i)) = nI (max (hrH (ndf bk set gon) wai wt hbd i) (bk - pc (set i))) from nI_max (by omega) (by omega)) ?_
              refine lv_istore_n (lv' := [(3, .int (nI (max (hrH (ndf bk set gon) wai wt hbd i) (bk - pc (set i))))), (5, .int (nI (bk - pc (set i)))), (0, .ref (ad 0)), (1, .int (nI (wt))), (2, .int (nI (hbd))), (4, .int (nI (i)))]) hx hb dX3_hearReportsAt_64 rfl hl (by decide) rfl (fun ls hl => ?_)
              refine lv_goto (tgt := 78) hx hb dX3_hearReportsAt_65 (by decide) ?_
              refine lv_iinc (v := nI (i + 1)) (lv' := [(4, .int (nI (i + 1))), (3, .int (nI (max (hrH (ndf bk set gon) wai wt hbd i) (bk - pc (set i))))), (5, .int (nI (bk - pc (set i)))), (0, .ref (ad 0)), (1, .int (nI (wt))), (2, .int (nI (hbd)))]) hx hb dX3_hearReportsAt_78 hl (k := 5) rfl (show nI (i) + Int32.ofInt 1 = nI (i + 1) from nI_add (i) 1) (by decide) rfl (fun ls hl => ?_)
              refine lv_goto (tgt := 5) hx hb dX3_hearReportsAt_81 (by decide) ?_
              have eW : (wA cI cZ ad (pat) (sent) ((rep + hrR (ndf bk set gon) wai wt hbd i) + 1) (kept + hrK (ndf bk set gon) wai wt hbd i) (rc) (los) (wai) (set) (bad) (gon) (bk) (bp) (bv)) = (wA cI cZ ad (pat) (sent) (rep + hrR (ndf bk set gon) wai wt hbd (i + 1)) (kept + hrK (ndf bk set gon) wai wt hbd (i + 1)) (rc) (los) (wai) (set) (bad) (gon) (bk) (bp) (bv)) := by rw [eR, eK]; try rfl
              rw [eW] at hP hD
              clear eW
              exact ih5_1 (i + 1) (by omega) (by omega) _ _ hP hD hS ls (lv_sub hl [3, 4, 5, 1, 0] (by rw [eH]; rfl))
          · have h_28 : ¬ (gon i = 0 ∧ 0 < bk - pc (set i)) := h_28
            have hnd : ndf bk set gon i = 0 := by
              unfold ndf
              split <;> omega
            have eR : hrR (ndf bk set gon) wai wt hbd (i + 1) = hrR (ndf bk set gon) wai wt hbd i := if_neg (by omega)
            have eK : hrK (ndf bk set gon) wai wt hbd (i + 1) = hrK (ndf bk set gon) wai wt hbd i := if_neg (by omega)
            have eH : hrH (ndf bk set gon) wai wt hbd (i + 1) = hrH (ndf bk set gon) wai wt hbd i := if_neg (by omega)
            refine q_if_eq (u := ((0 : Nat) : Int)) (tgt := 78) hx hb dX3_hearReportsAt_31 (by decide) (nI_toInt (by omega)) (fun _ => ?_) (fun c_31 => absurd c_31 (by decide))
            refine lv_iinc (v := nI (i + 1)) (lv' := [(4, .int (nI (i + 1))), (0, .ref (ad 0)), (1, .int (nI (wt))), (2, .int (nI (hbd))), (3, .int (nI (hrH (ndf bk set gon) wai wt hbd i)))]) hx hb dX3_hearReportsAt_78 hl (k := 4) rfl (show nI (i) + Int32.ofInt 1 = nI (i + 1) from nI_add (i) 1) (by decide) rfl (fun ls hl => ?_)
            refine lv_goto (tgt := 5) hx hb dX3_hearReportsAt_81 (by decide) ?_
            have eW : (wA cI cZ ad (pat) (sent) (rep + hrR (ndf bk set gon) wai wt hbd i) (kept + hrK (ndf bk set gon) wai wt hbd i) (rc) (los) (wai) (set) (bad) (gon) (bk) (bp) (bv)) = (wA cI cZ ad (pat) (sent) (rep + hrR (ndf bk set gon) wai wt hbd (i + 1)) (kept + hrK (ndf bk set gon) wai wt hbd (i + 1)) (rc) (los) (wai) (set) (bad) (gon) (bk) (bp) (bv)) := by rw [eR, eK]; try rfl
            rw [eW] at hP hD
            clear eW
            exact ih5_1 (i + 1) (by omega) (by omega) _ _ hP hD hS ls (lv_sub hl [1, 2, 3, 4, 0] (by rw [eH]; rfl))
  have eW : (wA cI cZ ad (pat) (sent) (rep) (kept) (rc) (los) (wai) (set) (bad) (gon) (bk) (bp) (bv)) = (wA cI cZ ad (pat) (sent) (rep + hrR (ndf bk set gon) wai wt hbd 0) (kept + hrK (ndf bk set gon) wai wt hbd 0) (rc) (los) (wai) (set) (bad) (gon) (bk) (bp) (bv)) := by rfl
  rw [eW] at hP hD
  clear eW
  exact L5_1 _ (0) (Nat.lt_succ_self _) (by omega) _ _ hP hD hS ls (lv_sub hl [2, 3, 4, 1, 0] rfl)

set_option maxHeartbeats 4000000 in
set_option maxRecDepth 100000 in
theorem c_X3_hearReports (l : Launch) (D : va_G) (cI cZ cQ cL : ClassId) (ad : Nat → Nat) (pat : Nat) (sent : Nat) (rep : Nat) (kept : Nat) (rc : Nat) (los : Nat → Nat) (wai : Nat → Nat) (set : Nat → Nat) (bad : Nat → Nat) (gon : Nat → Nat) (bk : Nat) (bp : Nat → B8) (bv : Nat → B8) (sz : Nat) (hrc : rc ≤ 6) (hwai : ∀ r, r < 6 → wai r ≤ 20) (hset : ∀ r, r < 6 → set r < 65536) (hbk : bk ≤ 8) (hgon : ∀ r, r < 6 → gon r ≤ 1) : Met l yX3_hearReports wsX3_hearReports ({ frames := 4, cells := 0, slots := 0, locals := 87 } : Room) (PW D (TY cI cZ cQ cL) (wA cI cZ ad (pat) (sent) (rep) (kept) (rc) (los) (wai) (set) (bad) (gon) (bk) (bp) (bv)) sz [.ref (ad 0)]) (QI D (va_A (wA cI cZ ad (pat) (sent) (rep) (kept) (rc) (los) (wai) (set) (bad) (gon) (bk) (bp) (bv)) sz) (fun z9 (_ : Unit) => z9 = nI (rnH (ndf bk set gon) wai rc 21)) (fun _ => (wA cI cZ ad (pat) (sent) (rep + rnR (ndf bk set gon) wai rc 21) (kept + rnK (ndf bk set gon) wai rc 21) (rc) (los) (wai) (set) (bad) (gon) (bk) (bp) (bv)))) 0 0 (va_A (wA cI cZ ad (pat) (sent) (rep) (kept) (rc) (los) (wai) (set) (bad) (gon) (bk) (bp) (bv)) sz) := by
  refine Met.ofW (cc := cX3_hearReports) (maxL := 3) (ret := (some .int)) (by decide) rfl ?_
  intro p e s m args below meth c s₁ B hml hv
  obtain ⟨rfl, hsz, hP, hK, hD0, hN⟩ := hv
  have hx := B.exec
  have hb := B.bytes
  have hr := B.returns
  have hts := atoms_spec (ws := wsX3_hearReports) B.pre
  have hown : s.vm.findClass RX3 = some m.cls := findClass_of_methodNamed B.named
  have hlocks := B.notSynchronized
  subst hsz
  have hD := hD0.self (sz := s.heap.size)
  generalize hAe : va_A (wA cI cZ ad (pat) (sent) (rep) (kept) (rc) (los) (wai) (set) (bad) (gon) (bk) (bp) (bv)) s.heap.size = A at hD ⊢
  have hA : ∀ q : Nat, s.heap.size ≤ q → A q := fun q h => by rw [← hAe]; exact Or.inr h
  have hS : va_S A s.heap s.heap [] := va_S.rf
  have hl := lv_entry ([.ref (ad 0)]) (n := 3) (Nat.le_of_ble_eq_true rfl)
  rw [lg_entry_eq]
  generalize (lg_sl ([.ref (ad 0)]) ++ List.replicate (3 - (lg_sl ([.ref (ad 0)])).length) Slot.unset).toArray = ls at hl ⊢
  have hl : lv_has ls 3 [(0, .ref (ad 0))] := hl
  refine lv_iconst (v := nI (0)) hx hb dX3_hearReports_0 (by decide) ?_
  refine lv_istore_n (lv' := [(1, .int (nI (0))), (0, .ref (ad 0))]) hx hb dX3_hearReports_1 rfl hl (by decide) rfl (fun ls hl => ?_)
  refine lv_iconst (v := nI (0)) hx hb dX3_hearReports_2 (by decide) ?_
  refine lv_istore_n (lv' := [(2, .int (nI (0))), (1, .int (nI (0))), (0, .ref (ad 0))]) hx hb dX3_hearReports_3 rfl hl (by decide) rfl (fun ls hl => ?_)
  have L4_1 : ∀ (n4_1 : Nat) (w : Nat), 21 - w < n4_1 → (w ≤ 21) → ∀ (H : Heap) (locs : List Loc), va_P D vwCl (wA cI cZ ad (pat) (sent) (rep + rnR (ndf bk set gon) wai rc w) (kept + rnK (ndf bk set gon) wai rc w) (rc) (los) (wai) (set) (bad) (gon) (bk) (bp) (bv)) H → va_D A (wA cI cZ ad (pat) (sent) (rep + rnR (ndf bk set gon) wai rc w) (kept + rnK (ndf bk set gon) wai rc w) (rc) (los) (wai) (set) (bad) (gon) (bk) (bp) (bv)) → va_S A s.heap H locs → ∀ (ls : Array Slot), lv_has ls 3 [(0, .ref (ad 0)), (1, .int (nI (rnH (ndf bk set gon) wai rc w))), (2, .int (nI (w)))] → W p l e (headSpec wsX3_hearReports ({ frames := 4, cells := 0, slots := 0, locals := 87 } : Room)).room s m ([.ref (ad 0)] : List Value).toArray below meth c H locs 0 0 (MQ below (QI D A (fun z9 (_ : Unit) => z9 = nI (rnH (ndf bk set gon) wai rc 21)) (fun _ => (wA cI cZ ad (pat) (sent) (rep + rnR (ndf bk set gon) wai rc 21) (kept + rnK (ndf bk set gon) wai rc 21) (rc) (los) (wai) (set) (bad) (gon) (bk) (bp) (bv)))) ([.ref (ad 0)] : List Value).toArray s 0 0 A) (F0 m 4 ls []) := by
    intro n4_1
    induction n4_1 with
    | zero =>
      intro w hn4_1
      exact absurd hn4_1 (Nat.not_lt_zero _)
    | succ n4_1 ih4_1 =>
      intro w hn4_1 hw H locs hP hD hS ls hl
      refine lv_iload_n hx hb dX3_hearReports_4 rfl (lv_at hl 2 rfl) ?_
      refine lv_bipush (v := nI (20)) hx hb dX3_hearReports_5 (by decide) ?_
      refine q_icmp_gt (u := ((w : Nat) : Int)) (v := ((20 : Nat) : Int)) (tgt := 23) hx hb dX3_hearReports_7 (by decide) (nI_toInt (by omega)) (nI_toInt (by omega)) (fun c_7 => ?_) (fun c_7 => ?_)
      · obtain rfl : 21 = w := by omega
        refine lv_iload_n hx hb dX3_hearReports_23 rfl (lv_at hl 1 rfl) ?_
        have hP : va_P D vwCl (wA cI cZ ad (pat) (sent) (rep + rnR (ndf bk set gon) wai rc 21) (kept + rnK (ndf bk set gon) wai rc 21) (rc) (los) (wai) (set) (bad) (gon) (bk) (bp) (bv)) H := hP
        have hD : va_D A (wA cI cZ ad (pat) (sent) (rep + rnR (ndf bk set gon) wai rc 21) (kept + rnK (ndf bk set gon) wai rc 21) (rc) (los) (wai) (set) (bad) (gon) (bk) (bp) (bv)) := hD
        exact W.iret (v := nI (rnH (ndf bk set gon) wai rc 21)) hx hb hr (fun t ht hW => ⟨⟨_, (), rfl, (by rfl), by rw [ht]; exact hP, hD⟩, hS.F ht⟩) hS.2.2 dX3_hearReports_24
      · skip
        refine lv_aload_n hx hb dX3_hearReports_10 rfl (lv_at hl 0 rfl) ?_
        refine lv_iload_n hx hb dX3_hearReports_11 rfl (lv_at hl 2 rfl) ?_
        refine lv_iload_n hx hb dX3_hearReports_12 rfl (lv_at hl 1 rfl) ?_
        have hPc : va_P D vwCl (wA cI cZ ad (pat) (sent) ((rep + rnR (ndf bk set gon) wai rc w)) ((kept + rnK (ndf bk set gon) wai rc w)) (rc) (los) (wai) (set) (bad) (gon) (bk) (bp) (bv)) H := hP
        refine q_ci (wc := (wA cI cZ ad (pat) (sent) ((rep + rnR (ndf bk set gon) wai rc w)) ((kept + rnK (ndf bk set gon) wai rc w)) (rc) (los) (wai) (set) (bad) (gon) (bk) (bp) (bv))) (wr := []) (w1 := fun _ => (wA cI cZ ad (pat) (sent) ((rep + rnR (ndf bk set gon) wai rc w) + hrR (ndf bk set gon) wai w (rnH (ndf bk set gon) wai rc w) rc) ((kept + rnK (ndf bk set gon) wai rc w) + hrK (ndf bk set gon) wai w (rnH (ndf bk set gon) wai rc w) rc) (rc) (los) (wai) (set) (bad) (gon) (bk) (bp) (bv))) (va_runV (As := [.int (nI (w)), .int (nI (rnH (ndf bk set gon) wai rc w))]) (rest := []) ⟨hx, hb, hml, hown, hts⟩ (c_X3_hearReportsAt l D cI cZ cQ cL (ad) (pat) (sent) (rep + rnR (ndf bk set gon) wai rc w) (kept + rnK (ndf bk set gon) wai rc w) (rc) (los) (wai) (set) (bad) (gon) (bk) (bp) (bv) (w) (rnH (ndf bk set gon) wai rc w) H.size (hrc) (hwai) (hset) (hbk) (hgon) (by omega) (rnH_le (fun r _ => Nat.le_trans (ndf_le bk set gon r) hbk) w)) (cwV 2 hts gX3_hearReports_X3_hearReportsAt rfl rfl rfl ⟨rfl, hd_X3_hearReportsAt⟩ ⟨Nat.le_of_ble_eq_true rfl, Nat.le_of_ble_eq_true rfl⟩) (PW_v (q := (RX3, TX3, 13)) (ci := 2) (q0 := 0) hPc hK hD hN rfl rfl) rfl rfl hl.1 rfl (lv_room (Nat.le_of_ble_eq_true rfl)) dX3_hearReports_13 ⟨Nat.le_of_ble_eq_true rfl, Nat.le_of_ble_eq_true rfl⟩) hP hD hS hA [0, 1, 2, 3, 4, 5, 6, 7, 8] [] rfl rfl (by decide) (by decide) (fun r_13 u_13 H locs h_13 hP hD hS => ?_)
        have hP : va_P D vwCl (wA cI cZ ad (pat) (sent) ((rep + rnR (ndf bk set gon) wai rc w) + hrR (ndf bk set gon) wai w (rnH (ndf bk set gon) wai rc w) rc) ((kept + rnK (ndf bk set gon) wai rc w) + hrK (ndf bk set gon) wai w (rnH (ndf bk set gon) wai rc w) rc) (rc) (los) (wai) (set) (bad) (gon) (bk) (bp) (bv)) H := hP
        have hD : va_D A (wA cI cZ ad (pat) (sent) ((rep + rnR (ndf bk set gon) wai rc w) + hrR (ndf bk set gon) wai w (rnH (ndf bk set gon) wai rc w) rc) ((kept + rnK (ndf bk set gon) wai rc w) + hrK (ndf bk set gon) wai w (rnH (ndf bk set gon) wai rc w) rc) (rc) (los) (wai) (set) (bad) (gon) (bk) (bp) (bv)) := hD
        obtain rfl : r_13 = nI (hrH (ndf bk set gon) wai w (rnH (ndf bk set gon) wai rc w) rc) := h_13
        refine lv_istore_n (lv' := [(1, .int (nI (hrH (ndf bk set gon) wai w (rnH (ndf bk set gon) wai rc w) rc))), (0, .ref (ad 0)), (2, .int (nI (w)))]) hx hb dX3_hearReports_16 rfl hl (by decide) rfl (fun ls hl => ?_)
        refine lv_iinc (v := nI (w + 1)) (lv' := [(2, .int (nI (w + 1))), (1, .int (nI (hrH (ndf bk set gon) wai w (rnH (ndf bk set gon) wai rc w) rc))), (0, .ref (ad 0))]) hx hb dX3_hearReports_17 hl (k := 2) rfl (show nI (w) + Int32.ofInt 1 = nI (w + 1) from nI_add (w) 1) (by decide) rfl (fun ls hl => ?_)
        refine lv_goto (tgt := 4) hx hb dX3_hearReports_20 (by decide) ?_
        have eW : (wA cI cZ ad (pat) (sent) ((rep + rnR (ndf bk set gon) wai rc w) + hrR (ndf bk set gon) wai w (rnH (ndf bk set gon) wai rc w) rc) ((kept + rnK (ndf bk set gon) wai rc w) + hrK (ndf bk set gon) wai w (rnH (ndf bk set gon) wai rc w) rc) (rc) (los) (wai) (set) (bad) (gon) (bk) (bp) (bv)) = (wA cI cZ ad (pat) (sent) (rep + rnR (ndf bk set gon) wai rc (w + 1)) (kept + rnK (ndf bk set gon) wai rc (w + 1)) (rc) (los) (wai) (set) (bad) (gon) (bk) (bp) (bv)) := by simp only [rnR, rnK, Nat.add_assoc]
        rw [eW] at hP hD
        clear eW
        exact ih4_1 (w + 1) (by omega) (by omega) _ _ hP hD hS ls (lv_sub hl [2, 1, 0] rfl)
  have eW : (wA cI cZ ad (pat) (sent) (rep) (kept) (rc) (los) (wai) (set) (bad) (gon) (bk) (bp) (bv)) = (wA cI cZ ad (pat) (sent) (rep + rnR (ndf bk set gon) wai rc 0) (kept + rnK (ndf bk set gon) wai rc 0) (rc) (los) (wai) (set) (bad) (gon) (bk) (bp) (bv)) := by rfl
  rw [eW] at hP hD
  clear eW
  exact L4_1 _ (0) (Nat.lt_succ_self _) (by omega) _ _ hP hD hS ls (lv_sub hl [2, 1, 0] rfl)

theorem iwX3_countBadRounds_X3 : ∀ w ∈ wsX30, w ∈ wsX3_countBadRounds := by decide +kernel
set_option maxHeartbeats 4000000 in
set_option maxRecDepth 100000 in
theorem c_X3_countBadRounds (l : Launch) (D : va_G) (cI cZ cQ cL : ClassId) (ad : Nat → Nat) (pat : Nat) (sent : Nat) (rep : Nat) (kept : Nat) (rc : Nat) (los : Nat → Nat) (wai : Nat → Nat) (set : Nat → Nat) (bad : Nat → Nat) (gon : Nat → Nat) (bk : Nat) (bp : Nat → B8) (bv : Nat → B8) (sz : Nat) (hrc : rc ≤ 6) (hset : ∀ r, r < 6 → set r < 65536) (hbk : bk ≤ 8) (hgon : ∀ r, r < 6 → gon r ≤ 1) (hbad : ∀ r, r < 6 → bad r ≤ 20) (hpa : pat ≤ 20) : Met l yX3_countBadRounds wsX3_countBadRounds ({ frames := 3, cells := 0, slots := 0, locals := 62 } : Room) (PW D (TY cI cZ cQ cL) (wA cI cZ ad (pat) (sent) (rep) (kept) (rc) (los) (wai) (set) (bad) (gon) (bk) (bp) (bv)) sz [.ref (ad 0)]) (QV D (va_A (wA cI cZ ad (pat) (sent) (rep) (kept) (rc) (los) (wai) (set) (bad) (gon) (bk) (bp) (bv)) sz) (fun (_ : Unit) => True) (fun _ => (wA cI cZ ad (pat) (sent) (rep) (kept) (rc) (los) (wai) (set) (bdB rc bk set gon bad) (bdG rc bk pat set gon bad) (bk) (bp) (bv)))) 0 0 (va_A (wA cI cZ ad (pat) (sent) (rep) (kept) (rc) (los) (wai) (set) (bad) (gon) (bk) (bp) (bv)) sz) := by
  refine Met.ofW (cc := cX3_countBadRounds) (maxL := 2) (ret := none) (by decide) rfl ?_
  intro p e s m args below meth c s₁ B hml hv
  obtain ⟨rfl, hsz, hP, hK, hD0, hN⟩ := hv
  have hx := B.exec
  have hb := B.bytes
  have hr := B.returns
  have hts := atoms_spec (ws := wsX3_countBadRounds) B.pre
  have hown : s.vm.findClass RX3 = some m.cls := findClass_of_methodNamed B.named
  have hlocks := B.notSynchronized
  subst hsz
  have hD := hD0.self (sz := s.heap.size)
  generalize hAe : va_A (wA cI cZ ad (pat) (sent) (rep) (kept) (rc) (los) (wai) (set) (bad) (gon) (bk) (bp) (bv)) s.heap.size = A at hD ⊢
  have hA : ∀ q : Nat, s.heap.size ≤ q → A q := fun q h => by rw [← hAe]; exact Or.inr h
  have hS : va_S A s.heap s.heap [] := va_S.rf
  have hl := lv_entry ([.ref (ad 0)]) (n := 2) (Nat.le_of_ble_eq_true rfl)
  rw [lg_entry_eq]
  generalize (lg_sl ([.ref (ad 0)]) ++ List.replicate (2 - (lg_sl ([.ref (ad 0)])).length) Slot.unset).toArray = ls at hl ⊢
  have hl : lv_has ls 2 [(0, .ref (ad 0))] := hl
  refine lv_iconst (v := nI (0)) hx hb dX3_countBadRounds_0 (by decide) ?_
  refine lv_istore_n (lv' := [(1, .int (nI (0))), (0, .ref (ad 0))]) hx hb dX3_countBadRounds_1 rfl hl (by decide) rfl (fun ls hl => ?_)
  have L2_1 : ∀ (n2_1 : Nat) (i : Nat), rc - i < n2_1 → (i ≤ rc) → ∀ (H : Heap) (locs : List Loc), va_P D vwCl (wA cI cZ ad (pat) (sent) (rep) (kept) (rc) (los) (wai) (set) (bdB i bk set gon bad) (bdG i bk pat set gon bad) (bk) (bp) (bv)) H → va_D A (wA cI cZ ad (pat) (sent) (rep) (kept) (rc) (los) (wai) (set) (bdB i bk set gon bad) (bdG i bk pat set gon bad) (bk) (bp) (bv)) → va_S A s.heap H locs → ∀ (ls : Array Slot), lv_has ls 2 [(0, .ref (ad 0)), (1, .int (nI (i)))] → W p l e (headSpec wsX3_countBadRounds ({ frames := 3, cells := 0, slots := 0, locals := 62 } : Room)).room s m ([.ref (ad 0)] : List Value).toArray below meth c H locs 0 0 (MQ below (QV D A (fun (_ : Unit) => True) (fun _ => (wA cI cZ ad (pat) (sent) (rep) (kept) (rc) (los) (wai) (set) (bdB rc bk set gon bad) (bdG rc bk pat set gon bad) (bk) (bp) (bv)))) ([.ref (ad 0)] : List Value).toArray s 0 0 A) (F0 m 2 ls []) := by
    intro n2_1
    induction n2_1 with
    | zero =>
      intro i hn2_1
      exact absurd hn2_1 (Nat.not_lt_zero _)
    | succ n2_1 ih2_1 =>
      intro i hn2_1 hi H locs hP hD hS ls hl
      refine lv_iload_n hx hb dX3_countBadRounds_2 rfl (lv_at hl 1 rfl) ?_
      refine lv_aload_n hx hb dX3_countBadRounds_3 rfl (lv_at hl 0 rfl) ?_
      refine va_get (D := D) (ci := 2) (v := .int (nI (rc))) (C := RX3) (T := TX3) (N := 13) hx hb hts iwX3_countBadRounds_X3 hown hK hP 0 rfl rfl 5 (by decide) (hts (.fieldLink RX3 84 "RepairSender" "receiverCount" "I") (List.mem_of_getElem? (i := 1) rfl)) (fun _ h9 => h9) rfl dX3_countBadRounds_4 ?_
      refine q_icmp_ge (u := ((i : Nat) : Int)) (v := ((rc : Nat) : Int)) (tgt := 58) hx hb dX3_countBadRounds_7 (by decide) (nI_toInt (by omega)) (nI_toInt (by omega)) (fun c_7 => ?_) (fun c_7 => ?_)
      · obtain rfl : rc = i := by omega
        have hP : va_P D vwCl (wA cI cZ ad (pat) (sent) (rep) (kept) (rc) (los) (wai) (set) (bdB rc bk set gon bad) (bdG rc bk pat set gon bad) (bk) (bp) (bv)) H := hP
        have hD : va_D A (wA cI cZ ad (pat) (sent) (rep) (kept) (rc) (los) (wai) (set) (bdB rc bk set gon bad) (bdG rc bk pat set gon bad) (bk) (bp) (bv)) := hD
        exact W.vret hx hb hr (fun t ht hW => ⟨⟨(), rfl, trivial, by rw [ht]; exact hP, hD⟩, hS.F ht⟩) hS.2.2 dX3_countBadRounds_58
      · skip
        have hb6 := hbad i (by omega)
        refine lv_aload_n hx hb dX3_countBadRounds_10 rfl (lv_at hl 0 rfl) ?_
        refine lv_iload_n hx hb dX3_countBadRounds_11 rfl (lv_at hl 1 rfl) ?_
        have hPc : va_P D vwCl (wA cI cZ ad (pat) (sent) (rep) (kept) (rc) (los) (wai) (set) ((bdB i bk set gon bad)) ((bdG i bk pat set gon bad)) (bk) (bp) (bv)) H := hP
        refine q_csi (va_runV (As := [.int (nI (i))]) (rest := []) ⟨hx, hb, hml, hown, hts⟩ (c_X3_isLiveAndLacks l D cI cZ cQ cL (ad) (pat) (sent) (rep) (kept) (rc) (los) (wai) (set) (bdB i bk set gon bad) (bdG i bk pat set gon bad) (bk) (bp) (bv) (i) H.size (by omega) (hset) (hbk) (bdG_le hgon)) (cwV 1 hts gX3_countBadRounds_X3_isLiveAndLacks rfl rfl rfl ⟨rfl, hd_X3_isLiveAndLacks⟩ ⟨Nat.le_of_ble_eq_true rfl, Nat.le_of_ble_eq_true rfl⟩) (PW_v (q := (RX3, TX3, 13)) (ci := 2) (q0 := 0) hPc hK hD hN rfl rfl) rfl rfl hl.1 rfl (lv_room (Nat.le_of_ble_eq_true rfl)) dX3_countBadRounds_12 ⟨Nat.le_of_ble_eq_true rfl, Nat.le_of_ble_eq_true rfl⟩) (fun r_12 hr_12 => ?_)
        rcases hr_12 with ⟨rfl, h_12⟩ | ⟨rfl, h_12⟩
        · have h_12 : (bdG i bk pat set gon bad) i = 0 ∧ 0 < bk - pc (set i) := h_12
          rw [bdG_at] at h_12
          obtain ⟨h1, h2⟩ := h_12
          refine q_if_eq (u := ((1 : Nat) : Int)) (tgt := 52) hx hb dX3_countBadRounds_15 (by decide) (nI_toInt (by omega)) (fun c_15 => absurd c_15 (by decide)) (fun _ => ?_)
          refine lv_aload_n hx hb dX3_countBadRounds_18 rfl (lv_at hl 0 rfl) ?_
          refine va_get (D := D) (ci := 2) (v := .ref (ad 4)) (C := RX3) (T := TX3) (N := 13) hx hb hts iwX3_countBadRounds_X3 hown hK hP 0 rfl rfl 9 (by decide) (hts (.fieldLink RX3 26 "RepairSender" "badCounts" "[I") (List.mem_of_getElem? (i := 2) rfl)) (fun _ h9 => h9) rfl dX3_countBadRounds_19 ?_
          refine lv_iload_n hx hb dX3_countBadRounds_22 rfl (lv_at hl 1 rfl) ?_
          refine lv_dup2_11 hx hb dX3_countBadRounds_23 rfl rfl ?_
          refine q_iald (f := (bdB i bk set gon bad)) (j := i) hx hb hK hP 4 0 rfl rfl (by omega) (by decide) dX3_countBadRounds_24 ?_
          refine lv_iconst (v := nI (1)) hx hb dX3_countBadRounds_25 (by decide) ?_
          refine lv_iadd hx hb dX3_countBadRounds_26 ?_
          refine q_top (show (nI ((bdB i bk set gon bad) i) + nI (1)) = nI ((bdB i bk set gon bad) i + 1) from nI_add _ _) ?_
          refine q_iast (f := (bdB i bk set gon bad)) (j := i) (y := (bdB i bk set gon bad) i + 1) hx hb hK hP hD hS 4 0 rfl rfl (by omega) (by decide) dX3_countBadRounds_27 (fun H locs hP hD hS => ?_)
          have hP : va_P D vwCl (wA cI cZ ad (pat) (sent) (rep) (kept) (rc) (los) (wai) (set) (un (bdB i bk set gon bad) i ((bdB i bk set gon bad) i + 1)) (bdG i bk pat set gon bad) (bk) (bp) (bv)) H := hP
          have hD : va_D A (wA cI cZ ad (pat) (sent) (rep) (kept) (rc) (los) (wai) (set) (un (bdB i bk set gon bad) i ((bdB i bk set gon bad) i + 1)) (bdG i bk pat set gon bad) (bk) (bp) (bv)) := hD
          have eW : (wA cI cZ ad (pat) (sent) (rep) (kept) (rc) (los) (wai) (set) (un (bdB i bk set gon bad) i ((bdB i bk set gon bad) i + 1)) (bdG i bk pat set gon bad) (bk) (bp) (bv)) = (wA cI cZ ad (pat) (sent) (rep) (kept) (rc) (los) (wai) (set) (bdB (i + 1) bk set gon bad) (bdG i bk pat set gon bad) (bk) (bp) (bv)) := by rw [bdB_at, bdB_y h1 h2]
          rw [eW] at hP hD
          clear eW
          refine lv_aload_n hx hb dX3_countBadRounds_28 rfl (lv_at hl 0 rfl) ?_
          refine va_get (D := D) (ci := 2) (v := .ref (ad 5)) (C := RX3) (T := TX3) (N := 13) hx hb hts iwX3_countBadRounds_X3 hown hK hP 0 rfl rfl 10 (by decide) (hts (.fieldLink RX3 29 "RepairSender" "dropped" "[Z") (List.mem_of_getElem? (i := 3) rfl)) (fun _ h9 => h9) rfl dX3_countBadRounds_29 ?_
          refine lv_iload_n hx hb dX3_countBadRounds_32 rfl (lv_at hl 1 rfl) ?_
          refine lv_aload_n hx hb dX3_countBadRounds_33 rfl (lv_at hl 0 rfl) ?_
          have eB : bdB (i + 1) bk set gon bad i = bad i + 1 := if_pos ⟨by omega, h1, h2⟩
          refine va_get (D := D) (ci := 2) (v := .ref (ad 4)) (C := RX3) (T := TX3) (N := 13) hx hb hts iwX3_countBadRounds_X3 hown hK hP 0 rfl rfl 9 (by decide) (hts (.fieldLink RX3 26 "RepairSender" "badCounts" "[I") (List.mem_of_getElem? (i := 2) rfl)) (fun _ h9 => h9) rfl dX3_countBadRounds_34 ?_
          refine lv_iload_n hx hb dX3_countBadRounds_37 rfl (lv_at hl 1 rfl) ?_
          refine q_iald (f := (bdB (i + 1) bk set gon bad)) (j := i) hx hb hK hP 4 0 rfl rfl (by omega) (by decide) dX3_countBadRounds_38 ?_
          refine lv_aload_n hx hb dX3_countBadRounds_39 rfl (lv_at hl 0 rfl) ?_
          refine va_get (D := D) (ci := 2) (v := .int (nI (pat))) (C := RX3) (T := TX3) (N := 13) hx hb hts iwX3_countBadRounds_X3 hown hK hP 0 rfl rfl 1 (by decide) (hts (.fieldLink RX3 173 "RepairSender" "patience" "I") (List.mem_of_getElem? (i := 4) rfl)) (fun _ h9 => h9) rfl dX3_countBadRounds_40 ?_
          refine q_icmp_lt (u := (((bdB (i + 1) bk set gon bad) i : Nat) : Int)) (v := ((pat : Nat) : Int)) (tgt := 50) hx hb dX3_countBadRounds_43 (by decide) (nI_toInt (by omega)) (nI_toInt (by omega)) (fun c_43 => ?_) (fun c_43 => ?_)
          · have eG : un (bdG i bk pat set gon bad) i 0 = bdG (i + 1) bk pat set gon bad := by rw [← bdG_y h1 h2, if_neg (by omega)]
            refine lv_iconst (v := nI (0)) hx hb dX3_countBadRounds_50 (by decide) ?_
            refine q_zast (f := (bdG i bk pat set gon bad)) (j := i) (y := 0) hx hb hK hP hD hS 5 1 rfl rfl (by omega) (by decide) (by omega) dX3_countBadRounds_51 (fun H locs hP hD hS => ?_)
            have hP : va_P D vwCl (wA cI cZ ad (pat) (sent) (rep) (kept) (rc) (los) (wai) (set) (bdB (i + 1) bk set gon bad) (un (bdG i bk pat set gon bad) i 0) (bk) (bp) (bv)) H := hP
            have hD : va_D A (wA cI cZ ad (pat) (sent) (rep) (kept) (rc) (los) (wai) (set) (bdB (i + 1) bk set gon bad) (un (bdG i bk pat set gon bad) i 0) (bk) (bp) (bv)) := hD
            have eW : (wA cI cZ ad (pat) (sent) (rep) (kept) (rc) (los) (wai) (set) (bdB (i + 1) bk set gon bad) (un (bdG i bk pat set gon bad) i 0) (bk) (bp) (bv)) = (wA cI cZ ad (pat) (sent) (rep) (kept) (rc) (los) (wai) (set) (bdB (i + 1) bk set gon bad) (bdG (i + 1) bk pat set gon bad) (bk) (bp) (bv)) := by rw [eG]
            rw [eW] at hP hD
            clear eW
            refine lv_iinc (v := nI (i + 1)) (lv' := [(1, .int (nI (i + 1))), (0, .ref (ad 0))]) hx hb dX3_countBadRounds_52 hl (k := 1) rfl (show nI (i) + Int32.ofInt 1 = nI (i + 1) from nI_add (i) 1) (by decide) rfl (fun ls hl => ?_)
            refine lv_goto (tgt := 2) hx hb dX3_countBadRounds_55 (by decide) ?_
            have eW : (wA cI cZ ad (pat) (sent) (rep) (kept) (rc) (los) (wai) (set) (bdB (i + 1) bk set gon bad) (bdG (i + 1) bk pat set gon bad) (bk) (bp) (bv)) = (wA cI cZ ad (pat) (sent) (rep) (kept) (rc) (los) (wai) (set) (bdB (i + 1) bk set gon bad) (bdG (i + 1) bk pat set gon bad) (bk) (bp) (bv)) := by first | rfl | rw [bdB_n h_12, bdG_n h_12]
            rw [eW] at hP hD
            clear eW
            exact ih2_1 (i + 1) (by omega) (by omega) _ _ hP hD hS ls (lv_sub hl [1, 0] rfl)
          · have eG : un (bdG i bk pat set gon bad) i 1 = bdG (i + 1) bk pat set gon bad := by rw [← bdG_y h1 h2, if_pos (by omega)]
            refine lv_iconst (v := nI (1)) hx hb dX3_countBadRounds_46 (by decide) ?_
            refine lv_goto (tgt := 51) hx hb dX3_countBadRounds_47 (by decide) ?_
            refine q_zast (f := (bdG i bk pat set gon bad)) (j := i) (y := 1) hx hb hK hP hD hS 5 1 rfl rfl (by omega) (by decide) (by omega) dX3_countBadRounds_51 (fun H locs hP hD hS => ?_)
            have hP : va_P D vwCl (wA cI cZ ad (pat) (sent) (rep) (kept) (rc) (los) (wai) (set) (bdB (i + 1) bk set gon bad) (un (bdG i bk pat set gon bad) i 1) (bk) (bp) (bv)) H := hP
            have hD : va_D A (wA cI cZ ad (pat) (sent) (rep) (kept) (rc) (los) (wai) (set) (bdB (i + 1) bk set gon bad) (un (bdG i bk pat set gon bad) i 1) (bk) (bp) (bv)) := hD
            have eW : (wA cI cZ ad (pat) (sent) (rep) (kept) (rc) (los) (wai) (set) (bdB (i + 1) bk set gon bad) (un (bdG i bk pat set gon bad) i 1) (bk) (bp) (bv)) = (wA cI cZ ad (pat) (sent) (rep) (kept) (rc) (los) (wai) (set) (bdB (i + 1) bk set gon bad) (bdG (i + 1) bk pat set gon bad) (bk) (bp) (bv)) := by rw [eG]
            rw [eW] at hP hD
            clear eW
            refine lv_iinc (v := nI (i + 1)) (lv' := [(1, .int (nI (i + 1))), (0, .ref (ad 0))]) hx hb dX3_countBadRounds_52 hl (k := 1) rfl (show nI (i) + Int32.ofInt 1 = nI (i + 1) from nI_add (i) 1) (by decide) rfl (fun ls hl => ?_)
            refine lv_goto (tgt := 2) hx hb dX3_countBadRounds_55 (by decide) ?_
            have eW : (wA cI cZ ad (pat) (sent) (rep) (kept) (rc) (los) (wai) (set) (bdB (i + 1) bk set gon bad) (bdG (i + 1) bk pat set gon bad) (bk) (bp) (bv)) = (wA cI cZ ad (pat) (sent) (rep) (kept) (rc) (los) (wai) (set) (bdB (i + 1) bk set gon bad) (bdG (i + 1) bk pat set gon bad) (bk) (bp) (bv)) := by first | rfl | rw [bdB_n h_12, bdG_n h_12]
            rw [eW] at hP hD
            clear eW
            exact ih2_1 (i + 1) (by omega) (by omega) _ _ hP hD hS ls (lv_sub hl [1, 0] rfl)
        · have h_12 : ¬ ((bdG i bk pat set gon bad) i = 0 ∧ 0 < bk - pc (set i)) := h_12
          rw [bdG_at] at h_12
          refine q_if_eq (u := ((0 : Nat) : Int)) (tgt := 52) hx hb dX3_countBadRounds_15 (by decide) (nI_toInt (by omega)) (fun _ => ?_) (fun c_15 => absurd c_15 (by decide))
          refine lv_iinc (v := nI (i + 1)) (lv' := [(1, .int (nI (i + 1))), (0, .ref (ad 0))]) hx hb dX3_countBadRounds_52 hl (k := 1) rfl (show nI (i) + Int32.ofInt 1 = nI (i + 1) from nI_add (i) 1) (by decide) rfl (fun ls hl => ?_)
          refine lv_goto (tgt := 2) hx hb dX3_countBadRounds_55 (by decide) ?_
          have eW : (wA cI cZ ad (pat) (sent) (rep) (kept) (rc) (los) (wai) (set) (bdB i bk set gon bad) (bdG i bk pat set gon bad) (bk) (bp) (bv)) = (wA cI cZ ad (pat) (sent) (rep) (kept) (rc) (los) (wai) (set) (bdB (i + 1) bk set gon bad) (bdG (i + 1) bk pat set gon bad) (bk) (bp) (bv)) := by first | rfl | rw [bdB_n h_12, bdG_n h_12]
          rw [eW] at hP hD
          clear eW
          exact ih2_1 (i + 1) (by omega) (by omega) _ _ hP hD hS ls (lv_sub hl [1, 0] rfl)
  have eW : (wA cI cZ ad (pat) (sent) (rep) (kept) (rc) (los) (wai) (set) (bad) (gon) (bk) (bp) (bv)) = (wA cI cZ ad (pat) (sent) (rep) (kept) (rc) (los) (wai) (set) (bdB 0 bk set gon bad) (bdG 0 bk pat set gon bad) (bk) (bp) (bv)) := by rw [bdB_0, bdG_0]
  rw [eW] at hP hD
  clear eW
  exact L2_1 _ (0) (Nat.lt_succ_self _) (by omega) _ _ hP hD hS ls (lv_sub hl [1, 0] rfl)

theorem iwX3_startBlock_X3 : ∀ w ∈ wsX30, w ∈ wsX3_startBlock := by decide +kernel
set_option maxHeartbeats 4000000 in
set_option maxRecDepth 100000 in
theorem c_X3_startBlock (l : Launch) (D : va_G) (cI cZ cQ cL : ClassId) (ad : Nat → Nat) (pat : Nat) (sent : Nat) (rep : Nat) (kept : Nat) (rc : Nat) (los : Nat → Nat) (wai : Nat → Nat) (set : Nat → Nat) (bad : Nat → Nat) (gon : Nat → Nat) (bk : Nat) (bp : Nat → B8) (bv : Nat → B8) (k0 : Nat) (pt0 : Nat) (sz : Nat) (hk0 : k0 ≤ 8) : Met l yX3_startBlock wsX3_startBlock ({ frames := 1, cells := 0, slots := 0, locals := 22 } : Room) (PW D (TY cI cZ cQ cL) (wA cI cZ ad (pat) (sent) (rep) (kept) (rc) (los) (wai) (set) (bad) (gon) (bk) (bp) (bv)) sz [.ref (ad 0), .int (nI (k0)), .int (nI (pt0))]) (QV D (va_A (wA cI cZ ad (pat) (sent) (rep) (kept) (rc) (los) (wai) (set) (bad) (gon) (bk) (bp) (bv)) sz) (fun (_ : Unit) => True) (fun _ => (wA cI cZ ad (pt0) (0) (0) (0) (0) (los) (wai) (set) (bad) (gon) (k0) (idp k0 bp) (zrv k0 bv)))) 0 0 (va_A (wA cI cZ ad (pat) (sent) (rep) (kept) (rc) (los) (wai) (set) (bad) (gon) (bk) (bp) (bv)) sz) := by
  refine Met.ofW (cc := cX3_startBlock) (maxL := 4) (ret := none) (by decide) rfl ?_
  intro p e s m args below meth c s₁ B hml hv
  obtain ⟨rfl, hsz, hP, hK, hD0, hN⟩ := hv
  have hx := B.exec
  have hb := B.bytes
  have hr := B.returns
  have hts := atoms_spec (ws := wsX3_startBlock) B.pre
  have hown : s.vm.findClass RX3 = some m.cls := findClass_of_methodNamed B.named
  have hlocks := B.notSynchronized
  subst hsz
  have hD := hD0.self (sz := s.heap.size)
  generalize hAe : va_A (wA cI cZ ad (pat) (sent) (rep) (kept) (rc) (los) (wai) (set) (bad) (gon) (bk) (bp) (bv)) s.heap.size = A at hD ⊢
  have hA : ∀ q : Nat, s.heap.size ≤ q → A q := fun q h => by rw [← hAe]; exact Or.inr h
  have hS : va_S A s.heap s.heap [] := va_S.rf
  have hl := lv_entry ([.ref (ad 0), .int (nI (k0)), .int (nI (pt0))]) (n := 4) (Nat.le_of_ble_eq_true rfl)
  rw [lg_entry_eq]
  generalize (lg_sl ([.ref (ad 0), .int (nI (k0)), .int (nI (pt0))]) ++ List.replicate (4 - (lg_sl ([.ref (ad 0), .int (nI (k0)), .int (nI (pt0))])).length) Slot.unset).toArray = ls at hl ⊢
  have hl : lv_has ls 4 [(0, .ref (ad 0)), (1, .int (nI (k0))), (2, .int (nI (pt0)))] := hl
  refine lv_aload_n hx hb dX3_startBlock_0 rfl (lv_at hl 0 rfl) ?_
  refine va_get (D := D) (ci := 2) (v := .ref (ad 6)) (C := RX3) (T := TX3) (N := 13) hx hb hts iwX3_startBlock_X3 hown hK hP 0 rfl rfl 0 (by decide) (hts (.fieldLink RX3 10 "RepairSender" "block" "LRepairSender$Points;") (List.mem_of_getElem? (i := 1) rfl)) (fun _ h9 => h9) rfl dX3_startBlock_1 ?_
  have hPc := hP.sub (ws' := (wPt cI ((ad 6)) ((ad 7)) ((ad 8)) (bk) (bp) (bv))) [6, 7, 8] rfl
  have hDc := hD.sub (ws' := (wPt cI ((ad 6)) ((ad 7)) ((ad 8)) (bk) (bp) (bv))) [6, 7, 8] (by decide) rfl
  refine q_cv (wc := (wPt cI ((ad 6)) ((ad 7)) ((ad 8)) (bk) (bp) (bv))) (wr := (([0, 1, 2, 3, 4, 5] : List Nat).filterMap (fun i => (wA cI cZ ad (pat) (sent) (rep) (kept) (rc) (los) (wai) (set) (bad) (gon) (bk) (bp) (bv))[i]?))) (w1 := fun _ => (wPt cI ((ad 6)) ((ad 7)) ((ad 8)) (0) (bp) (bv))) (va_runVN (As := []) (rest := []) ⟨hx, hb, hml, hown, hts⟩ (c_X2_clear l D cI cZ cQ cL (ad 6) (ad 7) (ad 8) (bk) (bp) (bv) s.heap.size ) ⟨va_cnB 0 hts gX3_startBlock_X2_clear_n167 rfl rfl rfl (hN _ (List.mem_of_getElem? (i := 7) rfl)) (hts (.initialized RX2) (List.mem_of_getElem? (i := 8) rfl)) hd_X2_clear ⟨Nat.le_of_ble_eq_true rfl, Nat.le_of_ble_eq_true rfl⟩, (hts (.instanceMethod yX2_clear) (List.mem_of_getElem? (i := 7) rfl)), (hts (.selects RX2 yX2_clear yX2_clear) (List.mem_of_getElem? (i := 9) rfl))⟩ (PW_v (q := (RX2, TX2, 3)) (ci := 1) (q0 := 0) hPc hK hDc hN rfl rfl) rfl rfl hl.1 rfl (lv_room (Nat.le_of_ble_eq_true rfl)) dX3_startBlock_4 ⟨Nat.le_of_ble_eq_true rfl, Nat.le_of_ble_eq_true rfl⟩) hP hD hS hA [6, 7, 8] [0, 1, 2, 3, 4, 5] rfl rfl (by decide) (by decide) (fun u_4 H locs h_4 hP hD hS => ?_)
  have hP := hP.sub (ws' := (wA cI cZ ad (pat) (sent) (rep) (kept) (rc) (los) (wai) (set) (bad) (gon) (0) (bp) (bv))) [0, 1, 2, 3, 4, 5, 6, 7, 8] rfl
  have hD := hD.sub (ws' := (wA cI cZ ad (pat) (sent) (rep) (kept) (rc) (los) (wai) (set) (bad) (gon) (0) (bp) (bv))) [0, 1, 2, 3, 4, 5, 6, 7, 8] (by decide) rfl
  refine lv_iconst (v := nI (0)) hx hb dX3_startBlock_7 (by decide) ?_
  refine lv_istore_n (lv' := [(3, .int (nI (0))), (0, .ref (ad 0)), (1, .int (nI (k0))), (2, .int (nI (pt0)))]) hx hb dX3_startBlock_8 rfl hl (by decide) rfl (fun ls hl => ?_)
  have L9_1 : ∀ (n9_1 : Nat) (i : Nat), k0 - i < n9_1 → (i ≤ k0) → ∀ (H : Heap) (locs : List Loc), va_P D vwCl (wA cI cZ ad (pat) (sent) (rep) (kept) (rc) (los) (wai) (set) (bad) (gon) (i) (idp i bp) (zrv i bv)) H → va_D A (wA cI cZ ad (pat) (sent) (rep) (kept) (rc) (los) (wai) (set) (bad) (gon) (i) (idp i bp) (zrv i bv)) → va_S A s.heap H locs → ∀ (ls : Array Slot), lv_has ls 4 [(0, .ref (ad 0)), (1, .int (nI (k0))), (2, .int (nI (pt0))), (3, .int (nI (i)))] → W p l e (headSpec wsX3_startBlock ({ frames := 1, cells := 0, slots := 0, locals := 22 } : Room)).room s m ([.ref (ad 0), .int (nI (k0)), .int (nI (pt0))] : List Value).toArray below meth c H locs 0 0 (MQ below (QV D A (fun (_ : Unit) => True) (fun _ => (wA cI cZ ad (pt0) (0) (0) (0) (0) (los) (wai) (set) (bad) (gon) (k0) (idp k0 bp) (zrv k0 bv)))) ([.ref (ad 0), .int (nI (k0)), .int (nI (pt0))] : List Value).toArray s 0 0 A) (F0 m 9 ls []) := by
    intro n9_1
    induction n9_1 with
    | zero =>
      intro i hn9_1
      exact absurd hn9_1 (Nat.not_lt_zero _)
    | succ n9_1 ih9_1 =>
      intro i hn9_1 hi H locs hP hD hS ls hl
      refine lv_iload_n hx hb dX3_startBlock_9 rfl (lv_at hl 3 rfl) ?_
      refine lv_iload_n hx hb dX3_startBlock_10 rfl (lv_at hl 1 rfl) ?_
      refine q_icmp_ge (u := ((i : Nat) : Int)) (v := ((k0 : Nat) : Int)) (tgt := 29) hx hb dX3_startBlock_11 (by decide) (nI_toInt (by omega)) (nI_toInt (by omega)) (fun c_11 => ?_) (fun c_11 => ?_)
      · obtain rfl : k0 = i := by omega
        refine lv_aload_n hx hb dX3_startBlock_29 rfl (lv_at hl 0 rfl) ?_
        refine lv_iload_n hx hb dX3_startBlock_30 rfl (lv_at hl 2 rfl) ?_
        refine va_put (D := D) (ci := 2) (v := .int (nI (pt0))) (ty := .int) (C := RX3) (T := TX3) (N := 13) hx hb hts iwX3_startBlock_X3 tyX3 tyX3_ok nmX3 hown hK hP hD hS 0 rfl rfl 1 (by decide) (hts (.fieldLink RX3 173 "RepairSender" "patience" "I") (List.mem_of_getElem? (i := 2) rfl)) (fun _ h9 => h9) rfl (by decide +kernel) rfl rfl (Nat.le_of_ble_eq_true rfl) dX3_startBlock_31 (fun H locs hP hD hS => ?_)
        have hP : va_P D vwCl (wA cI cZ ad (pt0) (sent) (rep) (kept) (rc) (los) (wai) (set) (bad) (gon) (k0) (idp k0 bp) (zrv k0 bv)) H := hP
        have hD : va_D A (wA cI cZ ad (pt0) (sent) (rep) (kept) (rc) (los) (wai) (set) (bad) (gon) (k0) (idp k0 bp) (zrv k0 bv)) := hD
        refine lv_aload_n hx hb dX3_startBlock_34 rfl (lv_at hl 0 rfl) ?_
        refine lv_iconst (v := nI (0)) hx hb dX3_startBlock_35 (by decide) ?_
        refine va_put (D := D) (ci := 2) (v := .int (nI (0))) (ty := .int) (C := RX3) (T := TX3) (N := 13) hx hb hts iwX3_startBlock_X3 tyX3 tyX3_ok nmX3 hown hK hP hD hS 0 rfl rfl 5 (by decide) (hts (.fieldLink RX3 84 "RepairSender" "receiverCount" "I") (List.mem_of_getElem? (i := 3) rfl)) (fun _ h9 => h9) rfl (by decide +kernel) rfl rfl (Nat.le_of_ble_eq_true rfl) dX3_startBlock_36 (fun H locs hP hD hS => ?_)
        have hP : va_P D vwCl (wA cI cZ ad (pt0) (sent) (rep) (kept) (0) (los) (wai) (set) (bad) (gon) (k0) (idp k0 bp) (zrv k0 bv)) H := hP
        have hD : va_D A (wA cI cZ ad (pt0) (sent) (rep) (kept) (0) (los) (wai) (set) (bad) (gon) (k0) (idp k0 bp) (zrv k0 bv)) := hD
        refine lv_aload_n hx hb dX3_startBlock_39 rfl (lv_at hl 0 rfl) ?_
        refine lv_iconst (v := nI (0)) hx hb dX3_startBlock_40 (by decide) ?_
        refine va_put (D := D) (ci := 2) (v := .int (nI (0))) (ty := .int) (C := RX3) (T := TX3) (N := 13) hx hb hts iwX3_startBlock_X3 tyX3 tyX3_ok nmX3 hown hK hP hD hS 0 rfl rfl 2 (by decide) (hts (.fieldLink RX3 56 "RepairSender" "sentCount" "I") (List.mem_of_getElem? (i := 4) rfl)) (fun _ h9 => h9) rfl (by decide +kernel) rfl rfl (Nat.le_of_ble_eq_true rfl) dX3_startBlock_41 (fun H locs hP hD hS => ?_)
        have hP : va_P D vwCl (wA cI cZ ad (pt0) (0) (rep) (kept) (0) (los) (wai) (set) (bad) (gon) (k0) (idp k0 bp) (zrv k0 bv)) H := hP
        have hD : va_D A (wA cI cZ ad (pt0) (0) (rep) (kept) (0) (los) (wai) (set) (bad) (gon) (k0) (idp k0 bp) (zrv k0 bv)) := hD
        refine lv_aload_n hx hb dX3_startBlock_44 rfl (lv_at hl 0 rfl) ?_
        refine lv_iconst (v := nI (0)) hx hb dX3_startBlock_45 (by decide) ?_
        refine va_put (D := D) (ci := 2) (v := .int (nI (0))) (ty := .int) (C := RX3) (T := TX3) (N := 13) hx hb hts iwX3_startBlock_X3 tyX3 tyX3_ok nmX3 hown hK hP hD hS 0 rfl rfl 3 (by decide) (hts (.fieldLink RX3 111 "RepairSender" "reportCount" "I") (List.mem_of_getElem? (i := 5) rfl)) (fun _ h9 => h9) rfl (by decide +kernel) rfl rfl (Nat.le_of_ble_eq_true rfl) dX3_startBlock_46 (fun H locs hP hD hS => ?_)
        have hP : va_P D vwCl (wA cI cZ ad (pt0) (0) (0) (kept) (0) (los) (wai) (set) (bad) (gon) (k0) (idp k0 bp) (zrv k0 bv)) H := hP
        have hD : va_D A (wA cI cZ ad (pt0) (0) (0) (kept) (0) (los) (wai) (set) (bad) (gon) (k0) (idp k0 bp) (zrv k0 bv)) := hD
        refine lv_aload_n hx hb dX3_startBlock_49 rfl (lv_at hl 0 rfl) ?_
        refine lv_iconst (v := nI (0)) hx hb dX3_startBlock_50 (by decide) ?_
        refine va_put (D := D) (ci := 2) (v := .int (nI (0))) (ty := .int) (C := RX3) (T := TX3) (N := 13) hx hb hts iwX3_startBlock_X3 tyX3 tyX3_ok nmX3 hown hK hP hD hS 0 rfl rfl 4 (by decide) (hts (.fieldLink RX3 114 "RepairSender" "keptBackCount" "I") (List.mem_of_getElem? (i := 6) rfl)) (fun _ h9 => h9) rfl (by decide +kernel) rfl rfl (Nat.le_of_ble_eq_true rfl) dX3_startBlock_51 (fun H locs hP hD hS => ?_)
        have hP : va_P D vwCl (wA cI cZ ad (pt0) (0) (0) (0) (0) (los) (wai) (set) (bad) (gon) (k0) (idp k0 bp) (zrv k0 bv)) H := hP
        have hD : va_D A (wA cI cZ ad (pt0) (0) (0) (0) (0) (los) (wai) (set) (bad) (gon) (k0) (idp k0 bp) (zrv k0 bv)) := hD
        have hP : va_P D vwCl (wA cI cZ ad (pt0) (0) (0) (0) (0) (los) (wai) (set) (bad) (gon) (k0) (idp k0 bp) (zrv k0 bv)) H := hP
        have hD : va_D A (wA cI cZ ad (pt0) (0) (0) (0) (0) (los) (wai) (set) (bad) (gon) (k0) (idp k0 bp) (zrv k0 bv)) := hD
        exact W.vret hx hb hr (fun t ht hW => ⟨⟨(), rfl, trivial, by rw [ht]; exact hP, hD⟩, hS.F ht⟩) hS.2.2 dX3_startBlock_54
      · skip
        refine lv_aload_n hx hb dX3_startBlock_14 rfl (lv_at hl 0 rfl) ?_
        refine va_get (D := D) (ci := 2) (v := .ref (ad 6)) (C := RX3) (T := TX3) (N := 13) hx hb hts iwX3_startBlock_X3 hown hK hP 0 rfl rfl 0 (by decide) (hts (.fieldLink RX3 10 "RepairSender" "block" "LRepairSender$Points;") (List.mem_of_getElem? (i := 1) rfl)) (fun _ h9 => h9) rfl dX3_startBlock_15 ?_
        refine lv_iload_n hx hb dX3_startBlock_18 rfl (lv_at hl 3 rfl) ?_
        refine q_top (show nI (i) = bI (BitVec.ofNat 8 i) from bI_of (by omega)) ?_
        refine lv_iconst (v := nI (0)) hx hb dX3_startBlock_19 (by decide) ?_
        refine q_top (show nI (0) = bI (0) from rfl) ?_
        have hPc := hP.sub (ws' := (wPt cI ((ad 6)) ((ad 7)) ((ad 8)) (i) ((idp i bp)) ((zrv i bv)))) [6, 7, 8] rfl
        have hDc := hD.sub (ws' := (wPt cI ((ad 6)) ((ad 7)) ((ad 8)) (i) ((idp i bp)) ((zrv i bv)))) [6, 7, 8] (by decide) rfl
        refine q_cv (wc := (wPt cI ((ad 6)) ((ad 7)) ((ad 8)) (i) ((idp i bp)) ((zrv i bv)))) (wr := (([0, 1, 2, 3, 4, 5] : List Nat).filterMap (fun i => (wA cI cZ ad (pat) (sent) (rep) (kept) (rc) (los) (wai) (set) (bad) (gon) (i) (idp i bp) (zrv i bv))[i]?))) (w1 := fun _ => (wPt cI ((ad 6)) ((ad 7)) ((ad 8)) (i + 1) (ub (idp i bp) i (BitVec.ofNat 8 i)) (ub (zrv i bv) i 0))) (va_runVN (As := [.int (bI (BitVec.ofNat 8 i)), .int (bI (0))]) (rest := []) ⟨hx, hb, hml, hown, hts⟩ (c_X2_add l D cI cZ cQ cL (ad 6) (ad 7) (ad 8) (i) (idp i bp) (zrv i bv) (BitVec.ofNat 8 i) (0) H.size (by omega)) ⟨va_cnB 2 hts gX3_startBlock_X2_add_n170 rfl rfl rfl (hN _ (List.mem_of_getElem? (i := 8) rfl)) (hts (.initialized RX2) (List.mem_of_getElem? (i := 8) rfl)) hd_X2_add ⟨Nat.le_of_ble_eq_true rfl, Nat.le_of_ble_eq_true rfl⟩, (hts (.instanceMethod yX2_add) (List.mem_of_getElem? (i := 12) rfl)), (hts (.selects RX2 yX2_add yX2_add) (List.mem_of_getElem? (i := 13) rfl))⟩ (PW_v (q := (RX2, TX2, 3)) (ci := 1) (q0 := 0) hPc hK hDc hN rfl rfl) rfl rfl hl.1 rfl (lv_room (Nat.le_of_ble_eq_true rfl)) dX3_startBlock_20 ⟨Nat.le_of_ble_eq_true rfl, Nat.le_of_ble_eq_true rfl⟩) hP hD hS hA [6, 7, 8] [0, 1, 2, 3, 4, 5] rfl rfl (by decide) (by decide) (fun u_20 H locs h_20 hP hD hS => ?_)
        have hP := hP.sub (ws' := (wA cI cZ ad (pat) (sent) (rep) (kept) (rc) (los) (wai) (set) (bad) (gon) (i + 1) (ub (idp i bp) i (BitVec.ofNat 8 i)) (ub (zrv i bv) i 0))) [0, 1, 2, 3, 4, 5, 6, 7, 8] rfl
        have hD := hD.sub (ws' := (wA cI cZ ad (pat) (sent) (rep) (kept) (rc) (los) (wai) (set) (bad) (gon) (i + 1) (ub (idp i bp) i (BitVec.ofNat 8 i)) (ub (zrv i bv) i 0))) [0, 1, 2, 3, 4, 5, 6, 7, 8] (by decide) rfl
        refine lv_iinc (v := nI (i + 1)) (lv' := [(3, .int (nI (i + 1))), (0, .ref (ad 0)), (1, .int (nI (k0))), (2, .int (nI (pt0)))]) hx hb dX3_startBlock_23 hl (k := 3) rfl (show nI (i) + Int32.ofInt 1 = nI (i + 1) from nI_add (i) 1) (by decide) rfl (fun ls hl => ?_)
        refine lv_goto (tgt := 9) hx hb dX3_startBlock_26 (by decide) ?_
        have eW : (wA cI cZ ad (pat) (sent) (rep) (kept) (rc) (los) (wai) (set) (bad) (gon) (i + 1) (ub (idp i bp) i (BitVec.ofNat 8 i)) (ub (zrv i bv) i 0)) = (wA cI cZ ad (pat) (sent) (rep) (kept) (rc) (los) (wai) (set) (bad) (gon) ((i + 1)) (idp (i + 1) bp) (zrv (i + 1) bv)) := by rw [idp_s, zrv_s]
        rw [eW] at hP hD
        clear eW
        exact ih9_1 (i + 1) (by omega) (by omega) _ _ hP hD hS ls (lv_sub hl [1, 2, 3, 0] rfl)
  have eW : (wA cI cZ ad (pat) (sent) (rep) (kept) (rc) (los) (wai) (set) (bad) (gon) (0) (bp) (bv)) = (wA cI cZ ad (pat) (sent) (rep) (kept) (rc) (los) (wai) (set) (bad) (gon) (0) (idp 0 bp) (zrv 0 bv)) := by rw [idp_0, zrv_0]
  rw [eW] at hP hD
  clear eW
  exact L9_1 _ (0) (Nat.lt_succ_self _) (by omega) _ _ hP hD hS ls (lv_sub hl [1, 2, 3, 0] rfl)

theorem iwX3_chooseIfWanted_X3 : ∀ w ∈ wsX30, w ∈ wsX3_chooseIfWanted := by decide +kernel
theorem iwX3_chooseIfWanted_X2 : ∀ w ∈ wsX20, w ∈ wsX3_chooseIfWanted := by decide +kernel
set_option maxHeartbeats 4000000 in
set_option maxRecDepth 100000 in
theorem c_X3_chooseIfWanted (l : Launch) (D : va_G) (cI cZ cQ cL : ClassId) (ad : Nat → Nat) (pat : Nat) (sent : Nat) (rep : Nat) (kept : Nat) (rc : Nat) (los : Nat → Nat) (wai : Nat → Nat) (set : Nat → Nat) (bad : Nat → Nat) (gon : Nat → Nat) (bk : Nat) (bp : Nat → B8) (bv : Nat → B8) (ck : Nat) (cp : Nat → B8) (cv : Nat → B8) (ek : Nat) (em : Nat → Nat → B8) (q0 : Nat) (nu : Nat) (sz : Nat) (hq : q0 < 65536) (hnu : nu < 16) (hck : ck ≤ bk) (hbk : bk ≤ 8) : Met l yX3_chooseIfWanted wsX3_chooseIfWanted ({ frames := 4, cells := 0, slots := 0, locals := 95 } : Room) (PW D (TY cI cZ cQ cL) (wF cI cZ cQ ad (pat) (sent) (rep) (kept) (rc) (los) (wai) (set) (bad) (gon) (bk) (bp) (bv) (ck) (cp) (cv) (ek) (em)) sz [.ref (ad 0), .int (nI (q0)), .int (nI (nu))]) (QV D (va_A (wF cI cZ cQ ad (pat) (sent) (rep) (kept) (rc) (los) (wai) (set) (bad) (gon) (bk) (bp) (bv) (ck) (cp) (cv) (ek) (em)) sz) (fun (_ : Unit) => True) (fun _ => (wF cI cZ cQ ad (pat) (sent) (rep) (kept) (rc) (los) (wai) (set) (bad) (gon) (bk) (bp) (bv) (if q0 / 2 ^ nu % 2 = 1 ∧ ck < bk then ck + 1 else ck) (if q0 / 2 ^ nu % 2 = 1 ∧ ck < bk then ub cp ck (BitVec.ofNat 8 nu) else cp) (if q0 / 2 ^ nu % 2 = 1 ∧ ck < bk then ub cv ck (lag bk bp bv (BitVec.ofNat 8 nu)) else cv) (ek) (em)))) 0 0 (va_A (wF cI cZ cQ ad (pat) (sent) (rep) (kept) (rc) (los) (wai) (set) (bad) (gon) (bk) (bp) (bv) (ck) (cp) (cv) (ek) (em)) sz) := by
  refine Met.ofW (cc := cX3_chooseIfWanted) (maxL := 4) (ret := none) (by decide) rfl ?_
  intro p e s m args below meth c s₁ B hml hv
  obtain ⟨rfl, hsz, hP, hK, hD0, hN⟩ := hv
  have hx := B.exec
  have hb := B.bytes
  have hr := B.returns
  have hts := atoms_spec (ws := wsX3_chooseIfWanted) B.pre
  have hown : s.vm.findClass RX3 = some m.cls := findClass_of_methodNamed B.named
  have hlocks := B.notSynchronized
  subst hsz
  have hD := hD0.self (sz := s.heap.size)
  generalize hAe : va_A (wF cI cZ cQ ad (pat) (sent) (rep) (kept) (rc) (los) (wai) (set) (bad) (gon) (bk) (bp) (bv) (ck) (cp) (cv) (ek) (em)) s.heap.size = A at hD ⊢
  have hA : ∀ q : Nat, s.heap.size ≤ q → A q := fun q h => by rw [← hAe]; exact Or.inr h
  have hS : va_S A s.heap s.heap [] := va_S.rf
  have hl := lv_entry ([.ref (ad 0), .int (nI (q0)), .int (nI (nu))]) (n := 4) (Nat.le_of_ble_eq_true rfl)
  rw [lg_entry_eq]
  generalize (lg_sl ([.ref (ad 0), .int (nI (q0)), .int (nI (nu))]) ++ List.replicate (4 - (lg_sl ([.ref (ad 0), .int (nI (q0)), .int (nI (nu))])).length) Slot.unset).toArray = ls at hl ⊢
  have hl : lv_has ls 4 [(0, .ref (ad 0)), (1, .int (nI (q0))), (2, .int (nI (nu)))] := hl
  refine lv_iload_n hx hb dX3_chooseIfWanted_0 rfl (lv_at hl 1 rfl) ?_
  refine lv_iload_n hx hb dX3_chooseIfWanted_1 rfl (lv_at hl 2 rfl) ?_
  refine lv_ishr hx hb dX3_chooseIfWanted_2 ?_
  refine q_top (show (nI (q0) >>> (nI (nu) &&& 31)) = nI ((q0) / 2 ^ (nu)) from nI_shr (by omega) (by omega)) ?_
  refine lv_iconst (v := nI (1)) hx hb dX3_chooseIfWanted_3 (by decide) ?_
  refine lv_iand hx hb dX3_chooseIfWanted_4 ?_
  refine q_top (show (nI ((q0) / 2 ^ (nu)) &&& nI (1)) = nI (((q0) / 2 ^ (nu)) % 2) from nI_and1 _) ?_
  refine q_if_eq (u := ((((q0) / 2 ^ (nu)) % 2 : Nat) : Int)) (tgt := 12) hx hb dX3_chooseIfWanted_5 (by decide) (nI_toInt (by omega)) (fun c_5 => ?_) (fun c_5 => ?_)
  · have hc : ¬ (q0 / 2 ^ nu % 2 = 1 ∧ ck < bk) := by omega
    refine lv_iconst (v := nI (0)) hx hb dX3_chooseIfWanted_12 (by decide) ?_
    refine lv_istore_n (lv' := [(3, .int (nI (0))), (0, .ref (ad 0)), (1, .int (nI (q0))), (2, .int (nI (nu)))]) hx hb dX3_chooseIfWanted_13 rfl hl (by decide) rfl (fun ls hl => ?_)
    refine lv_iload_n hx hb dX3_chooseIfWanted_14 rfl (lv_at hl 0 rfl) ?_
    refine q_if_eq (u := ((0 : Nat) : Int)) (tgt := 51) hx hb dX3_chooseIfWanted_15 (by decide) (nI_toInt (by omega)) (fun _ => ?_) (fun c_15 => absurd c_15 (by decide))
    have eW : (wF cI cZ cQ ad (pat) (sent) (rep) (kept) (rc) (los) (wai) (set) (bad) (gon) (bk) (bp) (bv) (ck) (cp) (cv) (ek) (em)) = (wF cI cZ cQ ad (pat) (sent) (rep) (kept) (rc) (los) (wai) (set) (bad) (gon) (bk) (bp) (bv) (if q0 / 2 ^ nu % 2 = 1 ∧ ck < bk then ck + 1 else ck) (if q0 / 2 ^ nu % 2 = 1 ∧ ck < bk then ub cp ck (BitVec.ofNat 8 nu) else cp) (if q0 / 2 ^ nu % 2 = 1 ∧ ck < bk then ub cv ck (lag bk bp bv (BitVec.ofNat 8 nu)) else cv) (ek) (em)) := by first | rw [if_pos hc, if_pos hc, if_pos hc] | rw [if_neg hc, if_neg hc, if_neg hc]
    rw [eW] at hP hD
    exact W.vret hx hb hr (fun t ht hW => ⟨⟨(), rfl, trivial, by rw [ht]; exact hP, hD⟩, hS.F ht⟩) hS.2.2 dX3_chooseIfWanted_51
  · skip
    refine lv_iconst (v := nI (1)) hx hb dX3_chooseIfWanted_8 (by decide) ?_
    refine lv_goto (tgt := 13) hx hb dX3_chooseIfWanted_9 (by decide) ?_
    refine lv_istore_n (lv' := [(3, .int (nI (1))), (0, .ref (ad 0)), (1, .int (nI (q0))), (2, .int (nI (nu)))]) hx hb dX3_chooseIfWanted_13 rfl hl (by decide) rfl (fun ls hl => ?_)
    refine lv_iload_n hx hb dX3_chooseIfWanted_14 rfl (lv_at hl 0 rfl) ?_
    refine q_if_eq (u := ((1 : Nat) : Int)) (tgt := 51) hx hb dX3_chooseIfWanted_15 (by decide) (nI_toInt (by omega)) (fun c_15 => absurd c_15 (by decide)) (fun _ => ?_)
    refine lv_aload_n hx hb dX3_chooseIfWanted_18 rfl (lv_at hl 1 rfl) ?_
    refine va_get (D := D) (ci := 2) (v := .ref (ad 9)) (C := RX3) (T := TX3) (N := 13) hx hb hts iwX3_chooseIfWanted_X3 hown hK hP 0 rfl rfl 11 (by decide) (hts (.fieldLink RX3 33 "RepairSender" "chosen" "LRepairSender$Points;") (List.mem_of_getElem? (i := 1) rfl)) (fun _ h9 => h9) rfl dX3_chooseIfWanted_19 ?_
    refine va_getN (D := D) (ci := 1) (v := .int (nI (ck))) (C := RX2) (T := TX2) (N := 3) (host := "RepairSender") hx hb hts iwX3_chooseIfWanted_X2 hown hK hP 9 rfl rfl 2 (by decide) (va_Nw.use rfl (hN _ (List.mem_of_getElem? (i := 5) rfl))) (fun _ h9 => h9) rfl dX3_chooseIfWanted_22 ?_
    refine lv_aload_n hx hb dX3_chooseIfWanted_25 rfl (lv_at hl 1 rfl) ?_
    refine va_get (D := D) (ci := 2) (v := .ref (ad 6)) (C := RX3) (T := TX3) (N := 13) hx hb hts iwX3_chooseIfWanted_X3 hown hK hP 0 rfl rfl 0 (by decide) (hts (.fieldLink RX3 10 "RepairSender" "block" "LRepairSender$Points;") (List.mem_of_getElem? (i := 2) rfl)) (fun _ h9 => h9) rfl dX3_chooseIfWanted_26 ?_
    refine va_getN (D := D) (ci := 1) (v := .int (nI (bk))) (C := RX2) (T := TX2) (N := 3) (host := "RepairSender") hx hb hts iwX3_chooseIfWanted_X2 hown hK hP 6 rfl rfl 2 (by decide) (va_Nw.use rfl (hN _ (List.mem_of_getElem? (i := 5) rfl))) (fun _ h9 => h9) rfl dX3_chooseIfWanted_29 ?_
    refine q_icmp_ge (u := ((ck : Nat) : Int)) (v := ((bk : Nat) : Int)) (tgt := 51) hx hb dX3_chooseIfWanted_32 (by decide) (nI_toInt (by omega)) (nI_toInt (by omega)) (fun c_32 => ?_) (fun c_32 => ?_)
    · have hc : ¬ (q0 / 2 ^ nu % 2 = 1 ∧ ck < bk) := by omega
      have eW : (wF cI cZ cQ ad (pat) (sent) (rep) (kept) (rc) (los) (wai) (set) (bad) (gon) (bk) (bp) (bv) (ck) (cp) (cv) (ek) (em)) = (wF cI cZ cQ ad (pat) (sent) (rep) (kept) (rc) (los) (wai) (set) (bad) (gon) (bk) (bp) (bv) (if q0 / 2 ^ nu % 2 = 1 ∧ ck < bk then ck + 1 else ck) (if q0 / 2 ^ nu % 2 = 1 ∧ ck < bk then ub cp ck (BitVec.ofNat 8 nu) else cp) (if q0 / 2 ^ nu % 2 = 1 ∧ ck < bk then ub cv ck (lag bk bp bv (BitVec.ofNat 8 nu)) else cv) (ek) (em)) := by first | rw [if_pos hc, if_pos hc, if_pos hc] | rw [if_neg hc, if_neg hc, if_neg hc]
      rw [eW] at hP hD
      exact W.vret hx hb hr (fun t ht hW => ⟨⟨(), rfl, trivial, by rw [ht]; exact hP, hD⟩, hS.F ht⟩) hS.2.2 dX3_chooseIfWanted_51
    · have hc : q0 / 2 ^ nu % 2 = 1 ∧ ck < bk := by omega
      refine lv_aload_n hx hb dX3_chooseIfWanted_35 rfl (lv_at hl 1 rfl) ?_
      refine va_get (D := D) (ci := 2) (v := .ref (ad 9)) (C := RX3) (T := TX3) (N := 13) hx hb hts iwX3_chooseIfWanted_X3 hown hK hP 0 rfl rfl 11 (by decide) (hts (.fieldLink RX3 33 "RepairSender" "chosen" "LRepairSender$Points;") (List.mem_of_getElem? (i := 1) rfl)) (fun _ h9 => h9) rfl dX3_chooseIfWanted_36 ?_
      refine lv_iload_n hx hb dX3_chooseIfWanted_39 rfl (lv_at hl 3 rfl) ?_
      refine q_top (show nI (nu) = bI (BitVec.ofNat 8 nu) from bI_of (by omega)) ?_
      refine lv_aload_n hx hb dX3_chooseIfWanted_40 rfl (lv_at hl 1 rfl) ?_
      refine va_get (D := D) (ci := 2) (v := .ref (ad 6)) (C := RX3) (T := TX3) (N := 13) hx hb hts iwX3_chooseIfWanted_X3 hown hK hP 0 rfl rfl 0 (by decide) (hts (.fieldLink RX3 10 "RepairSender" "block" "LRepairSender$Points;") (List.mem_of_getElem? (i := 2) rfl)) (fun _ h9 => h9) rfl dX3_chooseIfWanted_41 ?_
      refine lv_iload_n hx hb dX3_chooseIfWanted_44 rfl (lv_at hl 3 rfl) ?_
      refine q_top (show nI (nu) = bI (BitVec.ofNat 8 nu) from bI_of (by omega)) ?_
      have hPc := hP.sub (ws' := (wPt cI ((ad 6)) ((ad 7)) ((ad 8)) (bk) (bp) (bv))) [6, 7, 8] rfl
      have hDc := hD.sub (ws' := (wPt cI ((ad 6)) ((ad 7)) ((ad 8)) (bk) (bp) (bv))) [6, 7, 8] (by decide) rfl
      refine q_csi (va_runVN (As := [.int (bI (BitVec.ofNat 8 nu))]) (rest := [.int (bI (BitVec.ofNat 8 nu)), .ref (ad 9)]) ⟨hx, hb, hml, hown, hts⟩ (c_X2_polynomialAt l D cI cZ cQ cL (ad 6) (ad 7) (ad 8) (bk) (bp) (bv) (BitVec.ofNat 8 nu) s.heap.size (by omega)) ⟨va_cnB 1 hts gX3_chooseIfWanted_X2_polynomialAt_n134 rfl rfl rfl (hN _ (List.mem_of_getElem? (i := 10) rfl)) (hts (.initialized RX2) (List.mem_of_getElem? (i := 4) rfl)) hd_X2_polynomialAt ⟨Nat.le_of_ble_eq_true rfl, Nat.le_of_ble_eq_true rfl⟩, (hts (.instanceMethod yX2_polynomialAt) (List.mem_of_getElem? (i := 3) rfl)), (hts (.selects RX2 yX2_polynomialAt yX2_polynomialAt) (List.mem_of_getElem? (i := 5) rfl))⟩ (PW_v (q := (RX2, TX2, 3)) (ci := 1) (q0 := 0) hPc hK hDc hN rfl rfl) rfl rfl hl.1 rfl (lv_room (Nat.le_of_ble_eq_true rfl)) dX3_chooseIfWanted_45 ⟨Nat.le_of_ble_eq_true rfl, Nat.le_of_ble_eq_true rfl⟩) (fun r_45 hr_45 => ?_)
      obtain rfl : r_45 = bI (lag bk bp bv (BitVec.ofNat 8 nu)) := hr_45
      have hPc := hP.sub (ws' := (wPt cI ((ad 9)) ((ad 10)) ((ad 11)) (ck) (cp) (cv))) [9, 10, 11] rfl
      have hDc := hD.sub (ws' := (wPt cI ((ad 9)) ((ad 10)) ((ad 11)) (ck) (cp) (cv))) [9, 10, 11] (by decide) rfl
      refine q_cv (wc := (wPt cI ((ad 9)) ((ad 10)) ((ad 11)) (ck) (cp) (cv))) (wr := (([0, 1, 2, 3, 4, 5, 6, 7, 8, 12, 13, 14, 15, 16, 17, 18, 19, 20, 21] : List Nat).filterMap (fun i => (wF cI cZ cQ ad (pat) (sent) (rep) (kept) (rc) (los) (wai) (set) (bad) (gon) (bk) (bp) (bv) (ck) (cp) (cv) (ek) (em))[i]?))) (w1 := fun _ => (wPt cI ((ad 9)) ((ad 10)) ((ad 11)) (ck + 1) (ub cp ck (BitVec.ofNat 8 nu)) (ub cv ck (lag bk bp bv (BitVec.ofNat 8 nu))))) (va_runVN (As := [.int (bI (BitVec.ofNat 8 nu)), .int (bI (lag bk bp bv (BitVec.ofNat 8 nu)))]) (rest := []) ⟨hx, hb, hml, hown, hts⟩ (c_X2_add l D cI cZ cQ cL (ad 9) (ad 10) (ad 11) (ck) (cp) (cv) (BitVec.ofNat 8 nu) (lag bk bp bv (BitVec.ofNat 8 nu)) s.heap.size (by omega)) ⟨va_cnB 2 hts gX3_chooseIfWanted_X2_add_n170 rfl rfl rfl (hN _ (List.mem_of_getElem? (i := 8) rfl)) (hts (.initialized RX2) (List.mem_of_getElem? (i := 4) rfl)) hd_X2_add ⟨Nat.le_of_ble_eq_true rfl, Nat.le_of_ble_eq_true rfl⟩, (hts (.instanceMethod yX2_add) (List.mem_of_getElem? (i := 20) rfl)), (hts (.selects RX2 yX2_add yX2_add) (List.mem_of_getElem? (i := 21) rfl))⟩ (PW_v (q := (RX2, TX2, 3)) (ci := 1) (q0 := 0) hPc hK hDc hN rfl rfl) rfl rfl hl.1 rfl (lv_room (Nat.le_of_ble_eq_true rfl)) dX3_chooseIfWanted_48 ⟨Nat.le_of_ble_eq_true rfl, Nat.le_of_ble_eq_true rfl⟩) hP hD hS hA [9, 10, 11] [0, 1, 2, 3, 4, 5, 6, 7, 8, 12, 13, 14, 15, 16, 17, 18, 19, 20, 21] rfl rfl (by decide) (by decide) (fun u_48 H locs h_48 hP hD hS => ?_)
      have hP := hP.sub (ws' := (wF cI cZ cQ ad (pat) (sent) (rep) (kept) (rc) (los) (wai) (set) (bad) (gon) (bk) (bp) (bv) (ck + 1) (ub cp ck (BitVec.ofNat 8 nu)) (ub cv ck (lag bk bp bv (BitVec.ofNat 8 nu))) (ek) (em))) [0, 1, 2, 3, 4, 5, 6, 7, 8, 19, 20, 21, 9, 10, 11, 12, 13, 14, 15, 16, 17, 18] rfl
      have hD := hD.sub (ws' := (wF cI cZ cQ ad (pat) (sent) (rep) (kept) (rc) (los) (wai) (set) (bad) (gon) (bk) (bp) (bv) (ck + 1) (ub cp ck (BitVec.ofNat 8 nu)) (ub cv ck (lag bk bp bv (BitVec.ofNat 8 nu))) (ek) (em))) [0, 1, 2, 3, 4, 5, 6, 7, 8, 19, 20, 21, 9, 10, 11, 12, 13, 14, 15, 16, 17, 18] (by decide) rfl
      have eW : (wF cI cZ cQ ad (pat) (sent) (rep) (kept) (rc) (los) (wai) (set) (bad) (gon) (bk) (bp) (bv) (ck + 1) (ub cp ck (BitVec.ofNat 8 nu)) (ub cv ck (lag bk bp bv (BitVec.ofNat 8 nu))) (ek) (em)) = (wF cI cZ cQ ad (pat) (sent) (rep) (kept) (rc) (los) (wai) (set) (bad) (gon) (bk) (bp) (bv) (if q0 / 2 ^ nu % 2 = 1 ∧ ck < bk then ck + 1 else ck) (if q0 / 2 ^ nu % 2 = 1 ∧ ck < bk then ub cp ck (BitVec.ofNat 8 nu) else cp) (if q0 / 2 ^ nu % 2 = 1 ∧ ck < bk then ub cv ck (lag bk bp bv (BitVec.ofNat 8 nu)) else cv) (ek) (em)) := by first | rw [if_pos hc, if_pos hc, if_pos hc] | rw [if_neg hc, if_neg hc, if_neg hc]
      rw [eW] at hP hD
      exact W.vret hx hb hr (fun t ht hW => ⟨⟨(), rfl, trivial, by rw [ht]; exact hP, hD⟩, hS.F ht⟩) hS.2.2 dX3_chooseIfWanted_51

theorem iwX3_chooseLowest_X3 : ∀ w ∈ wsX30, w ∈ wsX3_chooseLowest := by decide +kernel
set_option maxHeartbeats 4000000 in
set_option maxRecDepth 100000 in
theorem c_X3_chooseLowest (l : Launch) (D : va_G) (cI cZ cQ cL : ClassId) (ad : Nat → Nat) (pat : Nat) (sent : Nat) (rep : Nat) (kept : Nat) (rc : Nat) (los : Nat → Nat) (wai : Nat → Nat) (set : Nat → Nat) (bad : Nat → Nat) (gon : Nat → Nat) (bk : Nat) (bp : Nat → B8) (bv : Nat → B8) (ck : Nat) (cp : Nat → B8) (cv : Nat → B8) (ek : Nat) (em : Nat → Nat → B8) (q0 : Nat) (sz : Nat) (hq : q0 < 65536) (hbk : bk ≤ 8) : Met l yX3_chooseLowest wsX3_chooseLowest ({ frames := 5, cells := 0, slots := 0, locals := 118 } : Room) (PW D (TY cI cZ cQ cL) (wF cI cZ cQ ad (pat) (sent) (rep) (kept) (rc) (los) (wai) (set) (bad) (gon) (bk) (bp) (bv) (ck) (cp) (cv) (ek) (em)) sz [.ref (ad 0), .int (nI (q0))]) (QV D (va_A (wF cI cZ cQ ad (pat) (sent) (rep) (kept) (rc) (los) (wai) (set) (bad) (gon) (bk) (bp) (bv) (ck) (cp) (cv) (ek) (em)) sz) (fun (_ : Unit) => True) (fun _ => (wF cI cZ cQ ad (pat) (sent) (rep) (kept) (rc) (los) (wai) (set) (bad) (gon) (bk) (bp) (bv) (chC bk q0 (fun q => q) 16) (chP bk q0 (fun q => q) cp 16) (chV bk q0 (fun q => q) (lag bk bp bv) cv 16) (ek) (em)))) 0 0 (va_A (wF cI cZ cQ ad (pat) (sent) (rep) (kept) (rc) (los) (wai) (set) (bad) (gon) (bk) (bp) (bv) (ck) (cp) (cv) (ek) (em)) sz) := by
  refine Met.ofW (cc := cX3_chooseLowest) (maxL := 3) (ret := none) (by decide) rfl ?_
  intro p e s m args below meth c s₁ B hml hv
  obtain ⟨rfl, hsz, hP, hK, hD0, hN⟩ := hv
  have hx := B.exec
  have hb := B.bytes
  have hr := B.returns
  have hts := atoms_spec (ws := wsX3_chooseLowest) B.pre
  have hown : s.vm.findClass RX3 = some m.cls := findClass_of_methodNamed B.named
  have hlocks := B.notSynchronized
  subst hsz
  have hD := hD0.self (sz := s.heap.size)
  generalize hAe : va_A (wF cI cZ cQ ad (pat) (sent) (rep) (kept) (rc) (los) (wai) (set) (bad) (gon) (bk) (bp) (bv) (ck) (cp) (cv) (ek) (em)) s.heap.size = A at hD ⊢
  have hA : ∀ q : Nat, s.heap.size ≤ q → A q := fun q h => by rw [← hAe]; exact Or.inr h
  have hS : va_S A s.heap s.heap [] := va_S.rf
  have hl := lv_entry ([.ref (ad 0), .int (nI (q0))]) (n := 3) (Nat.le_of_ble_eq_true rfl)
  rw [lg_entry_eq]
  generalize (lg_sl ([.ref (ad 0), .int (nI (q0))]) ++ List.replicate (3 - (lg_sl ([.ref (ad 0), .int (nI (q0))])).length) Slot.unset).toArray = ls at hl ⊢
  have hl : lv_has ls 3 [(0, .ref (ad 0)), (1, .int (nI (q0)))] := hl
  refine lv_aload_n hx hb dX3_chooseLowest_0 rfl (lv_at hl 0 rfl) ?_
  refine va_get (D := D) (ci := 2) (v := .ref (ad 9)) (C := RX3) (T := TX3) (N := 13) hx hb hts iwX3_chooseLowest_X3 hown hK hP 0 rfl rfl 11 (by decide) (hts (.fieldLink RX3 33 "RepairSender" "chosen" "LRepairSender$Points;") (List.mem_of_getElem? (i := 1) rfl)) (fun _ h9 => h9) rfl dX3_chooseLowest_1 ?_
  have hPc := hP.sub (ws' := (wPt cI ((ad 9)) ((ad 10)) ((ad 11)) (ck) (cp) (cv))) [9, 10, 11] rfl
  have hDc := hD.sub (ws' := (wPt cI ((ad 9)) ((ad 10)) ((ad 11)) (ck) (cp) (cv))) [9, 10, 11] (by decide) rfl
  refine q_cv (wc := (wPt cI ((ad 9)) ((ad 10)) ((ad 11)) (ck) (cp) (cv))) (wr := (([0, 1, 2, 3, 4, 5, 6, 7, 8, 12, 13, 14, 15, 16, 17, 18, 19, 20, 21] : List Nat).filterMap (fun i => (wF cI cZ cQ ad (pat) (sent) (rep) (kept) (rc) (los) (wai) (set) (bad) (gon) (bk) (bp) (bv) (ck) (cp) (cv) (ek) (em))[i]?))) (w1 := fun _ => (wPt cI ((ad 9)) ((ad 10)) ((ad 11)) (0) (cp) (cv))) (va_runVN (As := []) (rest := []) ⟨hx, hb, hml, hown, hts⟩ (c_X2_clear l D cI cZ cQ cL (ad 9) (ad 10) (ad 11) (ck) (cp) (cv) s.heap.size ) ⟨va_cnB 0 hts gX3_chooseLowest_X2_clear_n167 rfl rfl rfl (hN _ (List.mem_of_getElem? (i := 7) rfl)) (hts (.initialized RX2) (List.mem_of_getElem? (i := 3) rfl)) hd_X2_clear ⟨Nat.le_of_ble_eq_true rfl, Nat.le_of_ble_eq_true rfl⟩, (hts (.instanceMethod yX2_clear) (List.mem_of_getElem? (i := 2) rfl)), (hts (.selects RX2 yX2_clear yX2_clear) (List.mem_of_getElem? (i := 4) rfl))⟩ (PW_v (q := (RX2, TX2, 3)) (ci := 1) (q0 := 0) hPc hK hDc hN rfl rfl) rfl rfl hl.1 rfl (lv_room (Nat.le_of_ble_eq_true rfl)) dX3_chooseLowest_4 ⟨Nat.le_of_ble_eq_true rfl, Nat.le_of_ble_eq_true rfl⟩) hP hD hS hA [9, 10, 11] [0, 1, 2, 3, 4, 5, 6, 7, 8, 12, 13, 14, 15, 16, 17, 18, 19, 20, 21] rfl rfl (by decide) (by decide) (fun u_4 H locs h_4 hP hD hS => ?_)
  have hP := hP.sub (ws' := (wF cI cZ cQ ad (pat) (sent) (rep) (kept) (rc) (los) (wai) (set) (bad) (gon) (bk) (bp) (bv) (0) (cp) (cv) (ek) (em))) [0, 1, 2, 3, 4, 5, 6, 7, 8, 19, 20, 21, 9, 10, 11, 12, 13, 14, 15, 16, 17, 18] rfl
  have hD := hD.sub (ws' := (wF cI cZ cQ ad (pat) (sent) (rep) (kept) (rc) (los) (wai) (set) (bad) (gon) (bk) (bp) (bv) (0) (cp) (cv) (ek) (em))) [0, 1, 2, 3, 4, 5, 6, 7, 8, 19, 20, 21, 9, 10, 11, 12, 13, 14, 15, 16, 17, 18] (by decide) rfl
  refine lv_iconst (v := nI (0)) hx hb dX3_chooseLowest_7 (by decide) ?_
  refine lv_istore_n (lv' := [(2, .int (nI (0))), (0, .ref (ad 0)), (1, .int (nI (q0)))]) hx hb dX3_chooseLowest_8 rfl hl (by decide) rfl (fun ls hl => ?_)
  have L9_1 : ∀ (n9_1 : Nat) (i : Nat), 16 - i < n9_1 → (i ≤ 16) → ∀ (H : Heap) (locs : List Loc), va_P D vwCl (wF cI cZ cQ ad (pat) (sent) (rep) (kept) (rc) (los) (wai) (set) (bad) (gon) (bk) (bp) (bv) (chC bk q0 (fun q => q) i) (chP bk q0 (fun q => q) cp i) (chV bk q0 (fun q => q) (lag bk bp bv) cv i) (ek) (em)) H → va_D A (wF cI cZ cQ ad (pat) (sent) (rep) (kept) (rc) (los) (wai) (set) (bad) (gon) (bk) (bp) (bv) (chC bk q0 (fun q => q) i) (chP bk q0 (fun q => q) cp i) (chV bk q0 (fun q => q) (lag bk bp bv) cv i) (ek) (em)) → va_S A s.heap H locs → ∀ (ls : Array Slot), lv_has ls 3 [(0, .ref (ad 0)), (1, .int (nI (q0))), (2, .int (nI (i)))] → W p l e (headSpec wsX3_chooseLowest ({ frames := 5, cells := 0, slots := 0, locals := 118 } : Room)).room s m ([.ref (ad 0), .int (nI (q0))] : List Value).toArray below meth c H locs 0 0 (MQ below (QV D A (fun (_ : Unit) => True) (fun _ => (wF cI cZ cQ ad (pat) (sent) (rep) (kept) (rc) (los) (wai) (set) (bad) (gon) (bk) (bp) (bv) (chC bk q0 (fun q => q) 16) (chP bk q0 (fun q => q) cp 16) (chV bk q0 (fun q => q) (lag bk bp bv) cv 16) (ek) (em)))) ([.ref (ad 0), .int (nI (q0))] : List Value).toArray s 0 0 A) (F0 m 9 ls []) := by
    intro n9_1
    induction n9_1 with
    | zero =>
      intro i hn9_1
      exact absurd hn9_1 (Nat.not_lt_zero _)
    | succ n9_1 ih9_1 =>
      intro i hn9_1 hi H locs hP hD hS ls hl
      refine lv_iload_n hx hb dX3_chooseLowest_9 rfl (lv_at hl 2 rfl) ?_
      refine lv_bipush (v := nI (16)) hx hb dX3_chooseLowest_10 (by decide) ?_
      refine q_icmp_ge (u := ((i : Nat) : Int)) (v := ((16 : Nat) : Int)) (tgt := 27) hx hb dX3_chooseLowest_12 (by decide) (nI_toInt (by omega)) (nI_toInt (by omega)) (fun c_12 => ?_) (fun c_12 => ?_)
      · obtain rfl : 16 = i := by omega
        have hP : va_P D vwCl (wF cI cZ cQ ad (pat) (sent) (rep) (kept) (rc) (los) (wai) (set) (bad) (gon) (bk) (bp) (bv) (chC bk q0 (fun q => q) 16) (chP bk q0 (fun q => q) cp 16) (chV bk q0 (fun q => q) (lag bk bp bv) cv 16) (ek) (em)) H := hP
        have hD : va_D A (wF cI cZ cQ ad (pat) (sent) (rep) (kept) (rc) (los) (wai) (set) (bad) (gon) (bk) (bp) (bv) (chC bk q0 (fun q => q) 16) (chP bk q0 (fun q => q) cp 16) (chV bk q0 (fun q => q) (lag bk bp bv) cv 16) (ek) (em)) := hD
        exact W.vret hx hb hr (fun t ht hW => ⟨⟨(), rfl, trivial, by rw [ht]; exact hP, hD⟩, hS.F ht⟩) hS.2.2 dX3_chooseLowest_27
      · skip
        refine lv_aload_n hx hb dX3_chooseLowest_15 rfl (lv_at hl 0 rfl) ?_
        refine lv_iload_n hx hb dX3_chooseLowest_16 rfl (lv_at hl 1 rfl) ?_
        refine lv_iload_n hx hb dX3_chooseLowest_17 rfl (lv_at hl 2 rfl) ?_
        have hPc : va_P D vwCl (wF cI cZ cQ ad (pat) (sent) (rep) (kept) (rc) (los) (wai) (set) (bad) (gon) (bk) (bp) (bv) ((chC bk q0 (fun q => q) i)) ((chP bk q0 (fun q => q) cp i)) ((chV bk q0 (fun q => q) (lag bk bp bv) cv i)) (ek) (em)) H := hP
        refine q_cv (wc := (wF cI cZ cQ ad (pat) (sent) (rep) (kept) (rc) (los) (wai) (set) (bad) (gon) (bk) (bp) (bv) ((chC bk q0 (fun q => q) i)) ((chP bk q0 (fun q => q) cp i)) ((chV bk q0 (fun q => q) (lag bk bp bv) cv i)) (ek) (em))) (wr := []) (w1 := fun _ => (wF cI cZ cQ ad (pat) (sent) (rep) (kept) (rc) (los) (wai) (set) (bad) (gon) (bk) (bp) (bv) (if q0 / 2 ^ i % 2 = 1 ∧ (chC bk q0 (fun q => q) i) < bk then (chC bk q0 (fun q => q) i) + 1 else (chC bk q0 (fun q => q) i)) (if q0 / 2 ^ i % 2 = 1 ∧ (chC bk q0 (fun q => q) i) < bk then ub (chP bk q0 (fun q => q) cp i) (chC bk q0 (fun q => q) i) (BitVec.ofNat 8 i) else (chP bk q0 (fun q => q) cp i)) (if q0 / 2 ^ i % 2 = 1 ∧ (chC bk q0 (fun q => q) i) < bk then ub (chV bk q0 (fun q => q) (lag bk bp bv) cv i) (chC bk q0 (fun q => q) i) (lag bk bp bv (BitVec.ofNat 8 i)) else (chV bk q0 (fun q => q) (lag bk bp bv) cv i)) (ek) (em))) (va_runV (As := [.int (nI (q0)), .int (nI (i))]) (rest := []) ⟨hx, hb, hml, hown, hts⟩ (c_X3_chooseIfWanted l D cI cZ cQ cL (ad) (pat) (sent) (rep) (kept) (rc) (los) (wai) (set) (bad) (gon) (bk) (bp) (bv) (chC bk q0 (fun q => q) i) (chP bk q0 (fun q => q) cp i) (chV bk q0 (fun q => q) (lag bk bp bv) cv i) (ek) (em) (q0) (i) H.size (hq) (by omega) (chC_le bk q0 (fun q => q) i) (hbk)) (cwV 2 hts gX3_chooseLowest_X3_chooseIfWanted rfl rfl rfl ⟨rfl, hd_X3_chooseIfWanted⟩ ⟨Nat.le_of_ble_eq_true rfl, Nat.le_of_ble_eq_true rfl⟩) (PW_v (q := (RX3, TX3, 13)) (ci := 2) (q0 := 0) hPc hK hD hN rfl rfl) rfl rfl hl.1 rfl (lv_room (Nat.le_of_ble_eq_true rfl)) dX3_chooseLowest_18 ⟨Nat.le_of_ble_eq_true rfl, Nat.le_of_ble_eq_true rfl⟩) hP hD hS hA [0, 1, 2, 3, 4, 5, 6, 7, 8, 9, 10, 11, 12, 13, 14, 15, 16, 17, 18, 19, 20, 21] [] rfl rfl (by decide) (by decide) (fun u_18 H locs h_18 hP hD hS => ?_)
        have hP : va_P D vwCl (wF cI cZ cQ ad (pat) (sent) (rep) (kept) (rc) (los) (wai) (set) (bad) (gon) (bk) (bp) (bv) (if q0 / 2 ^ i % 2 = 1 ∧ (chC bk q0 (fun q => q) i) < bk then (chC bk q0 (fun q => q) i) + 1 else (chC bk q0 (fun q => q) i)) (if q0 / 2 ^ i % 2 = 1 ∧ (chC bk q0 (fun q => q) i) < bk then ub (chP bk q0 (fun q => q) cp i) (chC bk q0 (fun q => q) i) (BitVec.ofNat 8 i) else (chP bk q0 (fun q => q) cp i)) (if q0 / 2 ^ i % 2 = 1 ∧ (chC bk q0 (fun q => q) i) < bk then ub (chV bk q0 (fun q => q) (lag bk bp bv) cv i) (chC bk q0 (fun q => q) i) (lag bk bp bv (BitVec.ofNat 8 i)) else (chV bk q0 (fun q => q) (lag bk bp bv) cv i)) (ek) (em)) H := hP
        have hD : va_D A (wF cI cZ cQ ad (pat) (sent) (rep) (kept) (rc) (los) (wai) (set) (bad) (gon) (bk) (bp) (bv) (if q0 / 2 ^ i % 2 = 1 ∧ (chC bk q0 (fun q => q) i) < bk then (chC bk q0 (fun q => q) i) + 1 else (chC bk q0 (fun q => q) i)) (if q0 / 2 ^ i % 2 = 1 ∧ (chC bk q0 (fun q => q) i) < bk then ub (chP bk q0 (fun q => q) cp i) (chC bk q0 (fun q => q) i) (BitVec.ofNat 8 i) else (chP bk q0 (fun q => q) cp i)) (if q0 / 2 ^ i % 2 = 1 ∧ (chC bk q0 (fun q => q) i) < bk then ub (chV bk q0 (fun q => q) (lag bk bp bv) cv i) (chC bk q0 (fun q => q) i) (lag bk bp bv (BitVec.ofNat 8 i)) else (chV bk q0 (fun q => q) (lag bk bp bv) cv i)) (ek) (em)) := hD
        refine lv_iinc (v := nI (i + 1)) (lv' := [(2, .int (nI (i + 1))), (0, .ref (ad 0)), (1, .int (nI (q0)))]) hx hb dX3_chooseLowest_21 hl (k := 2) rfl (show nI (i) + Int32.ofInt 1 = nI (i + 1) from nI_add (i) 1) (by decide) rfl (fun ls hl => ?_)
        refine lv_goto (tgt := 9) hx hb dX3_chooseLowest_24 (by decide) ?_
        have eW : (wF cI cZ cQ ad (pat) (sent) (rep) (kept) (rc) (los) (wai) (set) (bad) (gon) (bk) (bp) (bv) (if q0 / 2 ^ i % 2 = 1 ∧ (chC bk q0 (fun q => q) i) < bk then (chC bk q0 (fun q => q) i) + 1 else (chC bk q0 (fun q => q) i)) (if q0 / 2 ^ i % 2 = 1 ∧ (chC bk q0 (fun q => q) i) < bk then ub (chP bk q0 (fun q => q) cp i) (chC bk q0 (fun q => q) i) (BitVec.ofNat 8 i) else (chP bk q0 (fun q => q) cp i)) (if q0 / 2 ^ i % 2 = 1 ∧ (chC bk q0 (fun q => q) i) < bk then ub (chV bk q0 (fun q => q) (lag bk bp bv) cv i) (chC bk q0 (fun q => q) i) (lag bk bp bv (BitVec.ofNat 8 i)) else (chV bk q0 (fun q => q) (lag bk bp bv) cv i)) (ek) (em)) = (wF cI cZ cQ ad (pat) (sent) (rep) (kept) (rc) (los) (wai) (set) (bad) (gon) (bk) (bp) (bv) (chC bk q0 (fun q => q) (i + 1)) (chP bk q0 (fun q => q) cp (i + 1)) (chV bk q0 (fun q => q) (lag bk bp bv) cv (i + 1)) (ek) (em)) := by rfl
        rw [eW] at hP hD
        clear eW
        exact ih9_1 (i + 1) (by omega) (by omega) _ _ hP hD hS ls (lv_sub hl [1, 2, 0] rfl)
  have eW : (wF cI cZ cQ ad (pat) (sent) (rep) (kept) (rc) (los) (wai) (set) (bad) (gon) (bk) (bp) (bv) (0) (cp) (cv) (ek) (em)) = (wF cI cZ cQ ad (pat) (sent) (rep) (kept) (rc) (los) (wai) (set) (bad) (gon) (bk) (bp) (bv) (chC bk q0 (fun q => q) 0) (chP bk q0 (fun q => q) cp 0) (chV bk q0 (fun q => q) (lag bk bp bv) cv 0) (ek) (em)) := by rfl
  rw [eW] at hP hD
  clear eW
  exact L9_1 _ (0) (Nat.lt_succ_self _) (by omega) _ _ hP hD hS ls (lv_sub hl [1, 2, 0] rfl)

theorem iwX3_chooseHighest_X3 : ∀ w ∈ wsX30, w ∈ wsX3_chooseHighest := by decide +kernel
set_option maxHeartbeats 4000000 in
set_option maxRecDepth 100000 in
theorem c_X3_chooseHighest (l : Launch) (D : va_G) (cI cZ cQ cL : ClassId) (ad : Nat → Nat) (pat : Nat) (sent : Nat) (rep : Nat) (kept : Nat) (rc : Nat) (los : Nat → Nat) (wai : Nat → Nat) (set : Nat → Nat) (bad : Nat → Nat) (gon : Nat → Nat) (bk : Nat) (bp : Nat → B8) (bv : Nat → B8) (ck : Nat) (cp : Nat → B8) (cv : Nat → B8) (ek : Nat) (em : Nat → Nat → B8) (q0 : Nat) (sz : Nat) (hq : q0 < 65536) (hbk : bk ≤ 8) : Met l yX3_chooseHighest wsX3_chooseHighest ({ frames := 5, cells := 0, slots := 0, locals := 118 } : Room) (PW D (TY cI cZ cQ cL) (wF cI cZ cQ ad (pat) (sent) (rep) (kept) (rc) (los) (wai) (set) (bad) (gon) (bk) (bp) (bv) (ck) (cp) (cv) (ek) (em)) sz [.ref (ad 0), .int (nI (q0))]) (QV D (va_A (wF cI cZ cQ ad (pat) (sent) (rep) (kept) (rc) (los) (wai) (set) (bad) (gon) (bk) (bp) (bv) (ck) (cp) (cv) (ek) (em)) sz) (fun (_ : Unit) => True) (fun _ => (wF cI cZ cQ ad (pat) (sent) (rep) (kept) (rc) (los) (wai) (set) (bad) (gon) (bk) (bp) (bv) (chC bk q0 (fun q => 15 - q) 16) (chP bk q0 (fun q => 15 - q) cp 16) (chV bk q0 (fun q => 15 - q) (lag bk bp bv) cv 16) (ek) (em)))) 0 0 (va_A (wF cI cZ cQ ad (pat) (sent) (rep) (kept) (rc) (los) (wai) (set) (bad) (gon) (bk) (bp) (bv) (ck) (cp) (cv) (ek) (em)) sz) := by
  refine Met.ofW (cc := cX3_chooseHighest) (maxL := 3) (ret := none) (by decide) rfl ?_
  intro p e s m args below meth c s₁ B hml hv
  obtain ⟨rfl, hsz, hP, hK, hD0, hN⟩ := hv
  have hx := B.exec
  have hb := B.bytes
  have hr := B.returns
  have hts := atoms_spec (ws := wsX3_chooseHighest) B.pre
  have hown : s.vm.findClass RX3 = some m.cls := findClass_of_methodNamed B.named
  have hlocks := B.notSynchronized
  subst hsz
  have hD := hD0.self (sz := s.heap.size)
  generalize hAe : va_A (wF cI cZ cQ ad (pat) (sent) (rep) (kept) (rc) (los) (wai) (set) (bad) (gon) (bk) (bp) (bv) (ck) (cp) (cv) (ek) (em)) s.heap.size = A at hD ⊢
  have hA : ∀ q : Nat, s.heap.size ≤ q → A q := fun q h => by rw [← hAe]; exact Or.inr h
  have hS : va_S A s.heap s.heap [] := va_S.rf
  have hl := lv_entry ([.ref (ad 0), .int (nI (q0))]) (n := 3) (Nat.le_of_ble_eq_true rfl)
  rw [lg_entry_eq]
  generalize (lg_sl ([.ref (ad 0), .int (nI (q0))]) ++ List.replicate (3 - (lg_sl ([.ref (ad 0), .int (nI (q0))])).length) Slot.unset).toArray = ls at hl ⊢
  have hl : lv_has ls 3 [(0, .ref (ad 0)), (1, .int (nI (q0)))] := hl
  refine lv_aload_n hx hb dX3_chooseHighest_0 rfl (lv_at hl 0 rfl) ?_
  refine va_get (D := D) (ci := 2) (v := .ref (ad 9)) (C := RX3) (T := TX3) (N := 13) hx hb hts iwX3_chooseHighest_X3 hown hK hP 0 rfl rfl 11 (by decide) (hts (.fieldLink RX3 33 "RepairSender" "chosen" "LRepairSender$Points;") (List.mem_of_getElem? (i := 1) rfl)) (fun _ h9 => h9) rfl dX3_chooseHighest_1 ?_
  have hPc := hP.sub (ws' := (wPt cI ((ad 9)) ((ad 10)) ((ad 11)) (ck) (cp) (cv))) [9, 10, 11] rfl
  have hDc := hD.sub (ws' := (wPt cI ((ad 9)) ((ad 10)) ((ad 11)) (ck) (cp) (cv))) [9, 10, 11] (by decide) rfl
  refine q_cv (wc := (wPt cI ((ad 9)) ((ad 10)) ((ad 11)) (ck) (cp) (cv))) (wr := (([0, 1, 2, 3, 4, 5, 6, 7, 8, 12, 13, 14, 15, 16, 17, 18, 19, 20, 21] : List Nat).filterMap (fun i => (wF cI cZ cQ ad (pat) (sent) (rep) (kept) (rc) (los) (wai) (set) (bad) (gon) (bk) (bp) (bv) (ck) (cp) (cv) (ek) (em))[i]?))) (w1 := fun _ => (wPt cI ((ad 9)) ((ad 10)) ((ad 11)) (0) (cp) (cv))) (va_runVN (As := []) (rest := []) ⟨hx, hb, hml, hown, hts⟩ (c_X2_clear l D cI cZ cQ cL (ad 9) (ad 10) (ad 11) (ck) (cp) (cv) s.heap.size ) ⟨va_cnB 0 hts gX3_chooseHighest_X2_clear_n167 rfl rfl rfl (hN _ (List.mem_of_getElem? (i := 7) rfl)) (hts (.initialized RX2) (List.mem_of_getElem? (i := 3) rfl)) hd_X2_clear ⟨Nat.le_of_ble_eq_true rfl, Nat.le_of_ble_eq_true rfl⟩, (hts (.instanceMethod yX2_clear) (List.mem_of_getElem? (i := 2) rfl)), (hts (.selects RX2 yX2_clear yX2_clear) (List.mem_of_getElem? (i := 4) rfl))⟩ (PW_v (q := (RX2, TX2, 3)) (ci := 1) (q0 := 0) hPc hK hDc hN rfl rfl) rfl rfl hl.1 rfl (lv_room (Nat.le_of_ble_eq_true rfl)) dX3_chooseHighest_4 ⟨Nat.le_of_ble_eq_true rfl, Nat.le_of_ble_eq_true rfl⟩) hP hD hS hA [9, 10, 11] [0, 1, 2, 3, 4, 5, 6, 7, 8, 12, 13, 14, 15, 16, 17, 18, 19, 20, 21] rfl rfl (by decide) (by decide) (fun u_4 H locs h_4 hP hD hS => ?_)
  have hP := hP.sub (ws' := (wF cI cZ cQ ad (pat) (sent) (rep) (kept) (rc) (los) (wai) (set) (bad) (gon) (bk) (bp) (bv) (0) (cp) (cv) (ek) (em))) [0, 1, 2, 3, 4, 5, 6, 7, 8, 19, 20, 21, 9, 10, 11, 12, 13, 14, 15, 16, 17, 18] rfl
  have hD := hD.sub (ws' := (wF cI cZ cQ ad (pat) (sent) (rep) (kept) (rc) (los) (wai) (set) (bad) (gon) (bk) (bp) (bv) (0) (cp) (cv) (ek) (em))) [0, 1, 2, 3, 4, 5, 6, 7, 8, 19, 20, 21, 9, 10, 11, 12, 13, 14, 15, 16, 17, 18] (by decide) rfl
  refine lv_bipush (v := nI (15)) hx hb dX3_chooseHighest_7 (by decide) ?_
  refine lv_istore_n (lv' := [(2, .int (nI (15))), (0, .ref (ad 0)), (1, .int (nI (q0)))]) hx hb dX3_chooseHighest_9 rfl hl (by decide) rfl (fun ls hl => ?_)
  have L10_1 : ∀ (n10_1 : Nat) (t : Nat), t < n10_1 → (t ≤ 16) → ∀ (H : Heap) (locs : List Loc), va_P D vwCl (wF cI cZ cQ ad (pat) (sent) (rep) (kept) (rc) (los) (wai) (set) (bad) (gon) (bk) (bp) (bv) (chC bk q0 (fun q => 15 - q) (16 - t)) (chP bk q0 (fun q => 15 - q) cp (16 - t)) (chV bk q0 (fun q => 15 - q) (lag bk bp bv) cv (16 - t)) (ek) (em)) H → va_D A (wF cI cZ cQ ad (pat) (sent) (rep) (kept) (rc) (los) (wai) (set) (bad) (gon) (bk) (bp) (bv) (chC bk q0 (fun q => 15 - q) (16 - t)) (chP bk q0 (fun q => 15 - q) cp (16 - t)) (chV bk q0 (fun q => 15 - q) (lag bk bp bv) cv (16 - t)) (ek) (em)) → va_S A s.heap H locs → ∀ (ls : Array Slot), lv_has ls 3 [(0, .ref (ad 0)), (1, .int (nI (q0))), (2, .int (pI t))] → W p l e (headSpec wsX3_chooseHighest ({ frames := 5, cells := 0, slots := 0, locals := 118 } : Room)).room s m ([.ref (ad 0), .int (nI (q0))] : List Value).toArray below meth c H locs 0 0 (MQ below (QV D A (fun (_ : Unit) => True) (fun _ => (wF cI cZ cQ ad (pat) (sent) (rep) (kept) (rc) (los) (wai) (set) (bad) (gon) (bk) (bp) (bv) (chC bk q0 (fun q => 15 - q) 16) (chP bk q0 (fun q => 15 - q) cp 16) (chV bk q0 (fun q => 15 - q) (lag bk bp bv) cv 16) (ek) (em)))) ([.ref (ad 0), .int (nI (q0))] : List Value).toArray s 0 0 A) (F0 m 10 ls []) := by
    intro n10_1
    induction n10_1 with
    | zero =>
      intro t hn10_1
      exact absurd hn10_1 (Nat.not_lt_zero _)
    | succ n10_1 ih10_1 =>
      intro t hn10_1 ht H locs hP hD hS ls hl
      rcases Nat.eq_zero_or_pos t with rfl | htp
      · skip
        have hl : lv_has ls 3 [(0, .ref (ad 0)), (1, .int (nI (q0))), (2, .int ((-1)))] := hl
        refine lv_iload_n hx hb dX3_chooseHighest_10 rfl (lv_at hl 2 rfl) ?_
        refine q_if_lt (u := (-1 : Int)) (tgt := 26) hx hb dX3_chooseHighest_11 (by decide) (by decide) (fun _ => ?_) (fun c_11 => absurd c_11 (by decide))
        have hP : va_P D vwCl (wF cI cZ cQ ad (pat) (sent) (rep) (kept) (rc) (los) (wai) (set) (bad) (gon) (bk) (bp) (bv) (chC bk q0 (fun q => 15 - q) 16) (chP bk q0 (fun q => 15 - q) cp 16) (chV bk q0 (fun q => 15 - q) (lag bk bp bv) cv 16) (ek) (em)) H := hP
        have hD : va_D A (wF cI cZ cQ ad (pat) (sent) (rep) (kept) (rc) (los) (wai) (set) (bad) (gon) (bk) (bp) (bv) (chC bk q0 (fun q => 15 - q) 16) (chP bk q0 (fun q => 15 - q) cp 16) (chV bk q0 (fun q => 15 - q) (lag bk bp bv) cv 16) (ek) (em)) := hD
        exact W.vret hx hb hr (fun t ht hW => ⟨⟨(), rfl, trivial, by rw [ht]; exact hP, hD⟩, hS.F ht⟩) hS.2.2 dX3_chooseHighest_26
      · obtain ⟨u, rfl⟩ : ∃ u, t = u + 1 := ⟨t - 1, by omega⟩
        have e1 : 16 - u = (16 - (u + 1)) + 1 := by omega
        have e2 : 15 - (16 - (u + 1)) = u := by omega
        have hl : lv_has ls 3 [(0, .ref (ad 0)), (1, .int (nI (q0))), (2, .int (nI (u)))] := hl
        refine lv_iload_n hx hb dX3_chooseHighest_10 rfl (lv_at hl 2 rfl) ?_
        refine q_if_lt (u := ((u : Nat) : Int)) (tgt := 26) hx hb dX3_chooseHighest_11 (by decide) (nI_toInt (by omega)) (fun c_11 => absurd c_11 (by omega)) (fun c_11 => ?_)
        refine lv_aload_n hx hb dX3_chooseHighest_14 rfl (lv_at hl 0 rfl) ?_
        refine lv_iload_n hx hb dX3_chooseHighest_15 rfl (lv_at hl 1 rfl) ?_
        refine lv_iload_n hx hb dX3_chooseHighest_16 rfl (lv_at hl 2 rfl) ?_
        have hPc : va_P D vwCl (wF cI cZ cQ ad (pat) (sent) (rep) (kept) (rc) (los) (wai) (set) (bad) (gon) (bk) (bp) (bv) ((chC bk q0 (fun q => 15 - q) (16 - (u + 1)))) ((chP bk q0 (fun q => 15 - q) cp (16 - (u + 1)))) ((chV bk q0 (fun q => 15 - q) (lag bk bp bv) cv (16 - (u + 1)))) (ek) (em)) H := hP
        refine q_cv (wc := (wF cI cZ cQ ad (pat) (sent) (rep) (kept) (rc) (los) (wai) (set) (bad) (gon) (bk) (bp) (bv) ((chC bk q0 (fun q => 15 - q) (16 - (u + 1)))) ((chP bk q0 (fun q => 15 - q) cp (16 - (u + 1)))) ((chV bk q0 (fun q => 15 - q) (lag bk bp bv) cv (16 - (u + 1)))) (ek) (em))) (wr := []) (w1 := fun _ => (wF cI cZ cQ ad (pat) (sent) (rep) (kept) (rc) (los) (wai) (set) (bad) (gon) (bk) (bp) (bv) (if q0 / 2 ^ u % 2 = 1 ∧ (chC bk q0 (fun q => 15 - q) (16 - (u + 1))) < bk then (chC bk q0 (fun q => 15 - q) (16 - (u + 1))) + 1 else (chC bk q0 (fun q => 15 - q) (16 - (u + 1)))) (if q0 / 2 ^ u % 2 = 1 ∧ (chC bk q0 (fun q => 15 - q) (16 - (u + 1))) < bk then ub (chP bk q0 (fun q => 15 - q) cp (16 - (u + 1))) (chC bk q0 (fun q => 15 - q) (16 - (u + 1))) (BitVec.ofNat 8 u) else (chP bk q0 (fun q => 15 - q) cp (16 - (u + 1)))) (if q0 / 2 ^ u % 2 = 1 ∧ (chC bk q0 (fun q => 15 - q) (16 - (u + 1))) < bk then ub (chV bk q0 (fun q => 15 - q) (lag bk bp bv) cv (16 - (u + 1))) (chC bk q0 (fun q => 15 - q) (16 - (u + 1))) (lag bk bp bv (BitVec.ofNat 8 u)) else (chV bk q0 (fun q => 15 - q) (lag bk bp bv) cv (16 - (u + 1)))) (ek) (em))) (va_runV (As := [.int (nI (q0)), .int (nI (u))]) (rest := []) ⟨hx, hb, hml, hown, hts⟩ (c_X3_chooseIfWanted l D cI cZ cQ cL (ad) (pat) (sent) (rep) (kept) (rc) (los) (wai) (set) (bad) (gon) (bk) (bp) (bv) (chC bk q0 (fun q => 15 - q) (16 - (u + 1))) (chP bk q0 (fun q => 15 - q) cp (16 - (u + 1))) (chV bk q0 (fun q => 15 - q) (lag bk bp bv) cv (16 - (u + 1))) (ek) (em) (q0) (u) H.size (hq) (by omega) (chC_le bk q0 (fun q => 15 - q) _) (hbk)) (cwV 2 hts gX3_chooseHighest_X3_chooseIfWanted rfl rfl rfl ⟨rfl, hd_X3_chooseIfWanted⟩ ⟨Nat.le_of_ble_eq_true rfl, Nat.le_of_ble_eq_true rfl⟩) (PW_v (q := (RX3, TX3, 13)) (ci := 2) (q0 := 0) hPc hK hD hN rfl rfl) rfl rfl hl.1 rfl (lv_room (Nat.le_of_ble_eq_true rfl)) dX3_chooseHighest_17 ⟨Nat.le_of_ble_eq_true rfl, Nat.le_of_ble_eq_true rfl⟩) hP hD hS hA [0, 1, 2, 3, 4, 5, 6, 7, 8, 9, 10, 11, 12, 13, 14, 15, 16, 17, 18, 19, 20, 21] [] rfl rfl (by decide) (by decide) (fun u_17 H locs h_17 hP hD hS => ?_)
        have hP : va_P D vwCl (wF cI cZ cQ ad (pat) (sent) (rep) (kept) (rc) (los) (wai) (set) (bad) (gon) (bk) (bp) (bv) (if q0 / 2 ^ u % 2 = 1 ∧ (chC bk q0 (fun q => 15 - q) (16 - (u + 1))) < bk then (chC bk q0 (fun q => 15 - q) (16 - (u + 1))) + 1 else (chC bk q0 (fun q => 15 - q) (16 - (u + 1)))) (if q0 / 2 ^ u % 2 = 1 ∧ (chC bk q0 (fun q => 15 - q) (16 - (u + 1))) < bk then ub (chP bk q0 (fun q => 15 - q) cp (16 - (u + 1))) (chC bk q0 (fun q => 15 - q) (16 - (u + 1))) (BitVec.ofNat 8 u) else (chP bk q0 (fun q => 15 - q) cp (16 - (u + 1)))) (if q0 / 2 ^ u % 2 = 1 ∧ (chC bk q0 (fun q => 15 - q) (16 - (u + 1))) < bk then ub (chV bk q0 (fun q => 15 - q) (lag bk bp bv) cv (16 - (u + 1))) (chC bk q0 (fun q => 15 - q) (16 - (u + 1))) (lag bk bp bv (BitVec.ofNat 8 u)) else (chV bk q0 (fun q => 15 - q) (lag bk bp bv) cv (16 - (u + 1)))) (ek) (em)) H := hP
        have hD : va_D A (wF cI cZ cQ ad (pat) (sent) (rep) (kept) (rc) (los) (wai) (set) (bad) (gon) (bk) (bp) (bv) (if q0 / 2 ^ u % 2 = 1 ∧ (chC bk q0 (fun q => 15 - q) (16 - (u + 1))) < bk then (chC bk q0 (fun q => 15 - q) (16 - (u + 1))) + 1 else (chC bk q0 (fun q => 15 - q) (16 - (u + 1)))) (if q0 / 2 ^ u % 2 = 1 ∧ (chC bk q0 (fun q => 15 - q) (16 - (u + 1))) < bk then ub (chP bk q0 (fun q => 15 - q) cp (16 - (u + 1))) (chC bk q0 (fun q => 15 - q) (16 - (u + 1))) (BitVec.ofNat 8 u) else (chP bk q0 (fun q => 15 - q) cp (16 - (u + 1)))) (if q0 / 2 ^ u % 2 = 1 ∧ (chC bk q0 (fun q => 15 - q) (16 - (u + 1))) < bk then ub (chV bk q0 (fun q => 15 - q) (lag bk bp bv) cv (16 - (u + 1))) (chC bk q0 (fun q => 15 - q) (16 - (u + 1))) (lag bk bp bv (BitVec.ofNat 8 u)) else (chV bk q0 (fun q => 15 - q) (lag bk bp bv) cv (16 - (u + 1)))) (ek) (em)) := hD
        refine lv_iinc (v := (pI u)) (lv' := [(2, .int (pI u)), (0, .ref (ad 0)), (1, .int (nI (q0)))]) hx hb dX3_chooseHighest_20 hl (k := 2) rfl (pI_m1 u) (by decide) rfl (fun ls hl => ?_)
        refine lv_goto (tgt := 10) hx hb dX3_chooseHighest_23 (by decide) ?_
        have eW : (wF cI cZ cQ ad (pat) (sent) (rep) (kept) (rc) (los) (wai) (set) (bad) (gon) (bk) (bp) (bv) (if q0 / 2 ^ u % 2 = 1 ∧ (chC bk q0 (fun q => 15 - q) (16 - (u + 1))) < bk then (chC bk q0 (fun q => 15 - q) (16 - (u + 1))) + 1 else (chC bk q0 (fun q => 15 - q) (16 - (u + 1)))) (if q0 / 2 ^ u % 2 = 1 ∧ (chC bk q0 (fun q => 15 - q) (16 - (u + 1))) < bk then ub (chP bk q0 (fun q => 15 - q) cp (16 - (u + 1))) (chC bk q0 (fun q => 15 - q) (16 - (u + 1))) (BitVec.ofNat 8 u) else (chP bk q0 (fun q => 15 - q) cp (16 - (u + 1)))) (if q0 / 2 ^ u % 2 = 1 ∧ (chC bk q0 (fun q => 15 - q) (16 - (u + 1))) < bk then ub (chV bk q0 (fun q => 15 - q) (lag bk bp bv) cv (16 - (u + 1))) (chC bk q0 (fun q => 15 - q) (16 - (u + 1))) (lag bk bp bv (BitVec.ofNat 8 u)) else (chV bk q0 (fun q => 15 - q) (lag bk bp bv) cv (16 - (u + 1)))) (ek) (em)) = (wF cI cZ cQ ad (pat) (sent) (rep) (kept) (rc) (los) (wai) (set) (bad) (gon) (bk) (bp) (bv) (chC bk q0 (fun q => 15 - q) (16 - u)) (chP bk q0 (fun q => 15 - q) cp (16 - u)) (chV bk q0 (fun q => 15 - q) (lag bk bp bv) cv (16 - u)) (ek) (em)) := by rw [e1]; simp only [chC, chP, chV, e2]
        rw [eW] at hP hD
        clear eW
        exact ih10_1 (u) (by omega) (by omega) _ _ hP hD hS ls (lv_sub hl [1, 2, 0] rfl)
  have eW : (wF cI cZ cQ ad (pat) (sent) (rep) (kept) (rc) (los) (wai) (set) (bad) (gon) (bk) (bp) (bv) (0) (cp) (cv) (ek) (em)) = (wF cI cZ cQ ad (pat) (sent) (rep) (kept) (rc) (los) (wai) (set) (bad) (gon) (bk) (bp) (bv) (chC bk q0 (fun q => 15 - q) (16 - 16)) (chP bk q0 (fun q => 15 - q) cp (16 - 16)) (chV bk q0 (fun q => 15 - q) (lag bk bp bv) cv (16 - 16)) (ek) (em)) := by rfl
  rw [eW] at hP hD
  clear eW
  exact L10_1 _ (16) (Nat.lt_succ_self _) (by omega) _ _ hP hD hS ls (lv_sub hl [1, 2, 0] rfl)
end
