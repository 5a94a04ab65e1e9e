section
-- ===== PART A: goes FIRST, ahead of the names: the tables' words, and 'selects' of the private methods out of them =====
/-- a private method of a class that the tables say can be made, by its rows of tables_1 -/
def lw_okq (q : MethodName × Nat) : Prop := (q.1.cls ≠ "java/lang/invoke/MethodHandle" ∧ q.1.cls ≠ "java/lang/invoke/VarHandle") ∧ Cond.instantiable q.1.cls q.2 ∈ tables_1 ∧ Cond.privateMethod q.1 ∈ tables_1 ∧ Cond.instanceMethod q.1 ∈ tables_1
theorem lw_p0 : lw_okq (⟨"java/lang/Throwable", "fillInStackTrace", "(I)Ljava/lang/Throwable;"⟩, 6) := ⟨⟨by decide +kernel, by decide +kernel⟩, List.mem_of_getElem? (i := 191) (by decide +kernel), List.mem_of_getElem? (i := 189) (by decide +kernel), List.mem_of_getElem? (i := 190) (by decide +kernel)⟩
theorem lw_p1 : lw_okq (⟨"CollectionsEngine", "enter", "(LCollectionsEngine$Bill;II)V"⟩, 12) := ⟨⟨by decide +kernel, by decide +kernel⟩, List.mem_of_getElem? (i := 16) (by decide +kernel), List.mem_of_getElem? (i := 379) (by decide +kernel), List.mem_of_getElem? (i := 380) (by decide +kernel)⟩
theorem lw_p2 : lw_okq (⟨"CollectionsEngine", "findBill", "(I)LCollectionsEngine$Bill;"⟩, 12) := ⟨⟨by decide +kernel, by decide +kernel⟩, List.mem_of_getElem? (i := 16) (by decide +kernel), List.mem_of_getElem? (i := 395) (by decide +kernel), List.mem_of_getElem? (i := 396) (by decide +kernel)⟩
theorem lw_p3 : lw_okq (⟨"CollectionsEngine", "takePayment", "(LCollectionsEngine$Bill;I)V"⟩, 12) := ⟨⟨by decide +kernel, by decide +kernel⟩, List.mem_of_getElem? (i := 16) (by decide +kernel), List.mem_of_getElem? (i := 401) (by decide +kernel), List.mem_of_getElem? (i := 402) (by decide +kernel)⟩
theorem lw_p4 : lw_okq (⟨"CollectionsEngine", "fail", "(LCollectionsEngine$Bill;I)V"⟩, 12) := ⟨⟨by decide +kernel, by decide +kernel⟩, List.mem_of_getElem? (i := 16) (by decide +kernel), List.mem_of_getElem? (i := 405) (by decide +kernel), List.mem_of_getElem? (i := 406) (by decide +kernel)⟩
theorem lw_p5 : lw_okq (⟨"CollectionsEngine", "failUnansweredTries", "()V"⟩, 12) := ⟨⟨by decide +kernel, by decide +kernel⟩, List.mem_of_getElem? (i := 16) (by decide +kernel), List.mem_of_getElem? (i := 436) (by decide +kernel), List.mem_of_getElem? (i := 437) (by decide +kernel)⟩
theorem lw_p6 : lw_okq (⟨"CollectionsEngine", "lookAtBills", "()I"⟩, 12) := ⟨⟨by decide +kernel, by decide +kernel⟩, List.mem_of_getElem? (i := 16) (by decide +kernel), List.mem_of_getElem? (i := 440) (by decide +kernel), List.mem_of_getElem? (i := 441) (by decide +kernel)⟩
theorem lw_p7 : lw_okq (⟨"CollectionsEngine", "lookAt", "(LCollectionsEngine$Bill;)Z"⟩, 12) := ⟨⟨by decide +kernel, by decide +kernel⟩, List.mem_of_getElem? (i := 16) (by decide +kernel), List.mem_of_getElem? (i := 444) (by decide +kernel), List.mem_of_getElem? (i := 445) (by decide +kernel)⟩
theorem lw_p8 : lw_okq (⟨"CollectionsEngine", "beginTry", "(LCollectionsEngine$Bill;)Z"⟩, 12) := ⟨⟨by decide +kernel, by decide +kernel⟩, List.mem_of_getElem? (i := 16) (by decide +kernel), List.mem_of_getElem? (i := 448) (by decide +kernel), List.mem_of_getElem? (i := 449) (by decide +kernel)⟩
theorem lw_p9 : lw_okq (⟨"CollectionsEngine", "breakPromise", "(LCollectionsEngine$Bill;)V"⟩, 12) := ⟨⟨by decide +kernel, by decide +kernel⟩, List.mem_of_getElem? (i := 16) (by decide +kernel), List.mem_of_getElem? (i := 453) (by decide +kernel), List.mem_of_getElem? (i := 454) (by decide +kernel)⟩
theorem lw_p10 : lw_okq (⟨"CollectionsEngineModel", "addGaps", "(IIII)V"⟩, 26) := ⟨⟨by decide +kernel, by decide +kernel⟩, List.mem_of_getElem? (i := 557) (by decide +kernel), List.mem_of_getElem? (i := 563) (by decide +kernel), List.mem_of_getElem? (i := 564) (by decide +kernel)⟩
theorem lw_p11 : lw_okq (⟨"CollectionsEngineModel", "isHoliday", "(I)Z"⟩, 26) := ⟨⟨by decide +kernel, by decide +kernel⟩, List.mem_of_getElem? (i := 557) (by decide +kernel), List.mem_of_getElem? (i := 662) (by decide +kernel), List.mem_of_getElem? (i := 663) (by decide +kernel)⟩
theorem lw_p12 : lw_okq (⟨"CollectionsEngineModel", "chargingFrom", "(I)I"⟩, 26) := ⟨⟨by decide +kernel, by decide +kernel⟩, List.mem_of_getElem? (i := 557) (by decide +kernel), List.mem_of_getElem? (i := 682) (by decide +kernel), List.mem_of_getElem? (i := 683) (by decide +kernel)⟩
theorem lw_p13 : lw_okq (⟨"CollectionsEngineModel", "charges", "(I)Z"⟩, 26) := ⟨⟨by decide +kernel, by decide +kernel⟩, List.mem_of_getElem? (i := 557) (by decide +kernel), List.mem_of_getElem? (i := 686) (by decide +kernel), List.mem_of_getElem? (i := 687) (by decide +kernel)⟩
theorem lw_p14 : lw_okq (⟨"CollectionsEngineModel", "enter", "(II)V"⟩, 26) := ⟨⟨by decide +kernel, by decide +kernel⟩, List.mem_of_getElem? (i := 557) (by decide +kernel), List.mem_of_getElem? (i := 690) (by decide +kernel), List.mem_of_getElem? (i := 691) (by decide +kernel)⟩
theorem lw_p15 : lw_okq (⟨"CollectionsEngineModel", "isBill", "(I)Z"⟩, 26) := ⟨⟨by decide +kernel, by decide +kernel⟩, List.mem_of_getElem? (i := 557) (by decide +kernel), List.mem_of_getElem? (i := 698) (by decide +kernel), List.mem_of_getElem? (i := 699) (by decide +kernel)⟩
def lw_privs_1 : List (MethodName × Nat) := [(⟨"java/lang/Throwable", "fillInStackTrace", "(I)Ljava/lang/Throwable;"⟩, 6), (⟨"CollectionsEngine", "enter", "(LCollectionsEngine$Bill;II)V"⟩, 12), (⟨"CollectionsEngine", "findBill", "(I)LCollectionsEngine$Bill;"⟩, 12), (⟨"CollectionsEngine", "takePayment", "(LCollectionsEngine$Bill;I)V"⟩, 12), (⟨"CollectionsEngine", "fail", "(LCollectionsEngine$Bill;I)V"⟩, 12), (⟨"CollectionsEngine", "failUnansweredTries", "()V"⟩, 12), (⟨"CollectionsEngine", "lookAtBills", "()I"⟩, 12), (⟨"CollectionsEngine", "lookAt", "(LCollectionsEngine$Bill;)Z"⟩, 12), (⟨"CollectionsEngine", "beginTry", "(LCollectionsEngine$Bill;)Z"⟩, 12), (⟨"CollectionsEngine", "breakPromise", "(LCollectionsEngine$Bill;)V"⟩, 12), (⟨"CollectionsEngineModel", "addGaps", "(IIII)V"⟩, 26), (⟨"CollectionsEngineModel", "isHoliday", "(I)Z"⟩, 26), (⟨"CollectionsEngineModel", "chargingFrom", "(I)I"⟩, 26), (⟨"CollectionsEngineModel", "charges", "(I)Z"⟩, 26), (⟨"CollectionsEngineModel", "enter", "(II)V"⟩, 26), (⟨"CollectionsEngineModel", "isBill", "(I)Z"⟩, 26)]
theorem lw_r1 : ∀ q ∈ lw_privs_1, lw_okq q := List.forall_mem_cons.mpr ⟨lw_p0, List.forall_mem_cons.mpr ⟨lw_p1, List.forall_mem_cons.mpr ⟨lw_p2, List.forall_mem_cons.mpr ⟨lw_p3, List.forall_mem_cons.mpr ⟨lw_p4, List.forall_mem_cons.mpr ⟨lw_p5, List.forall_mem_cons.mpr ⟨lw_p6, List.forall_mem_cons.mpr ⟨lw_p7, List.forall_mem_cons.mpr ⟨lw_p8, List.forall_mem_cons.mpr ⟨lw_p9, List.forall_mem_cons.mpr ⟨lw_p10, List.forall_mem_cons.mpr ⟨lw_p11, List.forall_mem_cons.mpr ⟨lw_p12, List.forall_mem_cons.mpr ⟨lw_p13, List.forall_mem_cons.mpr ⟨lw_p14, List.forall_mem_cons.mpr ⟨lw_p15, fun _ h => absurd h List.not_mem_nil⟩⟩⟩⟩⟩⟩⟩⟩⟩⟩⟩⟩⟩⟩⟩⟩
theorem lw_p16 : lw_okq (⟨"CollectionsEngineModel", "receive", "(II)V"⟩, 26) := ⟨⟨by decide +kernel, by decide +kernel⟩, List.mem_of_getElem? (i := 557) (by decide +kernel), List.mem_of_getElem? (i := 702) (by decide +kernel), List.mem_of_getElem? (i := 703) (by decide +kernel)⟩
theorem lw_p17 : lw_okq (⟨"CollectionsEngineModel", "fail", "(II)V"⟩, 26) := ⟨⟨by decide +kernel, by decide +kernel⟩, List.mem_of_getElem? (i := 557) (by decide +kernel), List.mem_of_getElem? (i := 706) (by decide +kernel), List.mem_of_getElem? (i := 707) (by decide +kernel)⟩
theorem lw_p18 : lw_okq (⟨"CollectionsEngineModel", "passDay", "()I"⟩, 26) := ⟨⟨by decide +kernel, by decide +kernel⟩, List.mem_of_getElem? (i := 557) (by decide +kernel), List.mem_of_getElem? (i := 722) (by decide +kernel), List.mem_of_getElem? (i := 723) (by decide +kernel)⟩
theorem lw_p19 : lw_okq (⟨"CollectionsEngineModel", "look", "(I)Z"⟩, 26) := ⟨⟨by decide +kernel, by decide +kernel⟩, List.mem_of_getElem? (i := 557) (by decide +kernel), List.mem_of_getElem? (i := 726) (by decide +kernel), List.mem_of_getElem? (i := 727) (by decide +kernel)⟩
theorem lw_p20 : lw_okq (⟨"CollectionsEngineModel", "breakPromise", "(I)V"⟩, 26) := ⟨⟨by decide +kernel, by decide +kernel⟩, List.mem_of_getElem? (i := 557) (by decide +kernel), List.mem_of_getElem? (i := 730) (by decide +kernel), List.mem_of_getElem? (i := 731) (by decide +kernel)⟩
def lw_privs_2 : List (MethodName × Nat) := [(⟨"CollectionsEngineModel", "receive", "(II)V"⟩, 26), (⟨"CollectionsEngineModel", "fail", "(II)V"⟩, 26), (⟨"CollectionsEngineModel", "passDay", "()I"⟩, 26), (⟨"CollectionsEngineModel", "look", "(I)Z"⟩, 26), (⟨"CollectionsEngineModel", "breakPromise", "(I)V"⟩, 26)]
theorem lw_r2 : ∀ q ∈ lw_privs_2, lw_okq q := List.forall_mem_cons.mpr ⟨lw_p16, List.forall_mem_cons.mpr ⟨lw_p17, List.forall_mem_cons.mpr ⟨lw_p18, List.forall_mem_cons.mpr ⟨lw_p19, List.forall_mem_cons.mpr ⟨lw_p20, fun _ h => absurd h List.not_mem_nil⟩⟩⟩⟩⟩
def lw_privs : List (MethodName × Nat) := lw_privs_1 ++ (lw_privs_2)
def lw_tbl : List Cond := k2_sels lw_privs ++ tables_1
theorem lw_privs_ok : ∀ q ∈ lw_privs, lw_okq q := by
  show ∀ q ∈ lw_privs_1 ++ (lw_privs_2), lw_okq q
  exact List.forall_mem_append.mpr ⟨lw_r1, lw_r2⟩
end
section
/-! ===== BEGIN words of one list among another's, by their places ===== -/
theorem goodIn_r {big : List Cond} (ws : List Cond) (ps : List Nat) (hp : ws = ps.filterMap (fun i => big[i]?)) (h : ws.all goodWord = true) : GoodIn big ws := by
  intro w hw
  have h1 := List.all_eq_true.mp h w hw
  rw [hp] at hw
  obtain ⟨i, -, hi⟩ := List.mem_filterMap.mp hw
  have hm : w ∈ big := by first | exact List.mem_of_getElem? hi | exact List.getElem?_mem hi
  exact ⟨hm, good_of_word h1⟩
theorem goodIn_app {big a b : List Cond} (ha : GoodIn big a) (hb : GoodIn big b) : GoodIn big (a ++ b) := fun w h => (List.mem_append.mp h).elim (ha w) (hb w)
theorem goodIn_ca {big a b : List Cond} {c : Cond} (ha : GoodIn big (c :: a)) (hb : GoodIn big b) : GoodIn big (c :: (a ++ b)) := fun w h => (List.mem_cons.mp h).elim (fun e => ha w (List.mem_cons.mpr (Or.inl e))) (fun h => (List.mem_append.mp h).elim (fun h => ha w (List.mem_cons.mpr (Or.inr h))) (hb w))
theorem goodIn_sub {big ws : List Cond} (hm : ∀ w ∈ ws, w ∈ big) (h : ws.all goodWord = true) : GoodIn big ws := fun w hw => ⟨hm w hw, good_of_word (List.all_eq_true.mp h w hw)⟩
/-! ===== END ===== -/

/-! ===== BEGIN exceptions that leave a method, and their catching by the caller (launches without stack traces) ===== -/
section VXA
/-! The laws vx_back, vx_callV, vx_callS, vx_callSW, vx_throw0, vx_throwS follow proofs of the library, with one case more: JvmDerived/Free/Laws.lean (Back.of_free), Shelf42/LK1.lean (callV, callS), Shelf/KitTraced.lean (throwNew0V, throwNewS). -/
/-- where a method has thrown q: the class by its name, the cell, what was written, the world -/
def vx_T (XC : String → State → State → Prop) (st : State) (q : Addr) (t : State) (mc ms : Nat) (free : Addr → Prop) : Prop :=
  ∃ (E : String) (ce : Cell) (L : List Loc), XC E st t ∧ t.heap[q]? = some ce ∧ ce.vm = .none ∧ st.vm.findClass E = some ce.cls ∧ st.WarmedH t.vm ∧ st.sameButNew ({ t with vm := st.vm } : State) L mc ms ∧ ∀ z ∈ L, free z.base
def vx_Q (Qc : Array Value → State → Outcome → State → Prop) (XC : String → State → State → Prop) (mc ms : Nat) (free : Addr → Prop) : Array Value → State → Outcome → State → Prop := fun a st o t =>
  (Qc a st o t ∧ ∃ L, FrameEnd st o t L mc ms ∧ ∀ q ∈ L, free q.base) ∨ ∃ q, o = .threw q ∧ vx_T XC st q t mc ms free
/-- a callee that returns or throws -/
def vx_Met (l : Launch) (y : MethodName) (ws : List Cond) (rm : Room) (Pc : Array Value → State → Prop) (Qc : Array Value → State → Outcome → State → Prop) (XC : String → State → State → Prop) (mc ms : Nat) (free : Addr → Prop) : Prop :=
  MetFree l y (headSpec ws rm) Pc (fun _ _ _ _ _ => True) (vx_Q Qc XC mc ms free)
def vx_Post (XC : String → State → State → Prop) (mc ms : Nat) (free : Addr → Prop) : Pt → Array Value → Addr → Pt → Prop := fun A a q B =>
  ∃ (g : JFrame) (mk : MethodId) (t : State) (L : List Loc) (E : String) (ce : Cell), B.U.heap = t.heap ∧ B.U.vm = t.vm ∧ XC E (A.U.calling g mk a) t ∧ t.heap[q]? = some ce ∧ ce.vm = .none ∧ A.U.vm.findClass E = some ce.cls ∧ B.locs = A.locs ++ L ∧ (∀ z ∈ L, free z.base) ∧ B.cells = A.cells + mc ∧ B.slots = A.slots + ms
def vx_Back (l : Launch) (R : Room) (p : Program) (e : Env) (below : List Frame) (s : State) (sargs : Array Value) (y : MethodName) (len W9 : Nat)
    (Pre : Pt → Array Value → Prop) (Post : Pt → Array Value → Option Value → Pt → Prop) (PostX : Pt → Array Value → Addr → Pt → Prop) : Prop :=
  ∀ (m : MethodId) (meth : Method) (c : Code) (A : Pt) (g : JFrame) (ig : Instr) (mk : MethodId) (a : Array Value),
    Stand p l e R s m sargs below meth c A.U A.locs A.cells A.slots → g.method = m → g.locals.size = c.maxLocals → decode c.code g.pc = .ok (ig, len) →
    2 * g.monitorRoom + (g.stack.map fun v => v.category).sum ≤ W9 → A.U.methodNamed? y = some mk → Pre A a →
    (∃ (v : Option Value) (B : Pt), Stand p l e R s m sargs below meth c B.U B.locs B.cells B.slots ∧ Post A a v B ∧
      Steps p.tables e below (doInvoke e (A.U.setTop g) [] mk a).1 (B.U.setTop { g with pc := g.pc + len, stack := v.toList ++ g.stack })) ∨
    (∃ (q : Addr) (B : Pt), Stand p l e R s m sargs below meth c B.U B.locs B.cells B.slots ∧ PostX A a q B ∧
      Steps p.tables e below (doInvoke e (A.U.setTop g) [] mk a).1 ((B.U.setTop g).pushFrame (.throwing q)))
section Payer
variable {l : Launch} {R : Room} {p : Program} {e : Env} {below : List Frame} {s : State} {sargs : Array Value} {y : MethodName} {len W9 : Nat}
theorem vx_back {ws : List Cond} {rm : Room} {Pc : Array Value → State → Prop} {Qc : Array Value → State → Outcome → State → Prop} {XC : String → State → State → Prop} {mc ms : Nat} {free : Addr → Prop} {bytes : ByteArray} {maxL : Nat} {ret : Option FieldType}
    (hM : vx_Met l y ws rm Pc Qc XC mc ms free) (hblind : FrameBlind Pc) (hrc : rm.cells = mc) (hrs : rm.slots = ms)
    (hframes : rm.frames + 1 ≤ R.frames) (hlocals : W9 + (maxL + 11) + rm.locals ≤ R.locals)
    (hws : ∀ w ∈ ws, ∀ a' U, s.WarmedH U.vm → w.before a' U = true) (hcode : Cond.code y bytes maxL ret ∈ ws) (hinit : ∀ a' U, s.WarmedH U.vm → (Cond.initialized y.cls).before a' U = true) :
    vx_Back l R p e below s sargs y len W9 (PreOf R mc ms Pc) (PostOf Qc mc ms free) (vx_Post XC mc ms free) := by
  intro m meth c A g ig mk a X hg hsize hdg hW hn hp
  have h1 : (headSpec ws rm).pre.before a A.U = true := atoms_intro fun w hw => hws w hw _ _ X.warmed
  have h2 : (Cond.code y bytes maxL ret).before a A.U = true := hws _ hcode _ _ X.warmed
  have h3 : (Cond.initialized y.cls).before a A.U = true := hinit _ _ X.warmed
  have h4 : A.cells + (headSpec ws rm).room.cells ≤ R.cells := by rw [show (headSpec ws rm).room.cells = mc from hrc]; exact hp.1
  have h5 : A.slots + (headSpec ws rm).room.slots ≤ R.slots := by rw [show (headSpec ws rm).room.slots = ms from hrs]; exact hp.2.1
  have hPc : Pc a (A.U.calling g mk a) := hblind _ _ _ _ hp.2.2
  obtain ⟨U, Ls, c0, s0⟩ := A
  dsimp only [Pt.U, Pt.locs, Pt.cells, Pt.slots] at h1 h2 h3 h4 h5 X hn hPc ⊢
  obtain ⟨methY, cY, hmY, hcY, -, hlY, -, -, -, -⟩ := Cond.code_spec hn h2
  obtain ⟨kY, hkY, -⟩ := className_of_methodNamed hn
  have hinitY : kY.init = .initialized := Cond.initialized_spec (findClass_of_methodNamed hn) hkY h3
  have h : At U g.method c below := by rw [hg]; exact X.here
  have hlocals9 : W9 + (maxL + 11) + (headSpec ws rm).room.locals ≤ R.locals := hlocals
  have happ : (headSpec ws rm).appliesLoose y e.platform (U.calling g mk a) = true :=
    Spec.appliesLoose_calling (g := g) h hdg hn hkY hinitY
      (X.room_calling (g := g) (R' := (headSpec ws rm).room) hsize hmY hcY hframes (by rw [hlY]; omega) h4 h5) h1
  obtain ⟨mid, hmid⟩ := h.above
  have hfr : (U.setTop g).frames = (.java g :: mid) ++ below := by rw [State.frames_setTop' g h.top, hmid]; rfl
  obtain ⟨o, s₂, hsteps, -, hend, hq⟩ := Steps.callFree hM p X.admits X.cas X.clock (acts := []) hfr happ hPc trivial
  have hq' : vx_Q Qc XC mc ms free a (U.calling g mk a) o s₂ := hq
  rw [State.frames_setTop' g h.top] at hend
  obtain ⟨g₀, hg0⟩ := Option.isSome_iff_exists.mp h.top
  obtain ⟨r, hr⟩ := State.topJava?_eq_some.mp hg0
  have hr' : (({ U with heap := s₂.heap, slotsUsed := s₂.slotsUsed } : State).setVm s₂.vm).frames = .java g₀ :: r := hr
  rcases hq' with ⟨hqc, L, hfe, hL⟩ | ⟨q, rfl, E, ce, L, hx, hce, hcv, hcl, hW₂, hsm, hL⟩
  · obtain ⟨⟨v, rfl⟩, hW₂, e2, q2, q3, q4, q5, q6⟩ := id hfe
    have e3 : s₂ = ({ (U.calling g mk a).setFrames s₂.frames with heap := s₂.heap, slotsUsed := s₂.slotsUsed } : State).setVm s₂.vm := by
      have : s₂ = ({ s₂ with vm := (U.calling g mk a).vm } : State).setVm s₂.vm := rfl
      rw [e2] at this
      exact this
    obtain ⟨c₂, i₂, len₂, hc₂, hd₂, hf₂⟩ := hend
    have hW' : U.WarmedH s₂.vm := hW₂
    have hcc : c₂ = c := by
      have h1 : s₂.code? g.method = U.code? g.method := by
        rw [State.code?_eq, State.code?_eq, hW'.alike.method?]
      exact Option.some.inj (hc₂.symm.trans (h1.trans h.code))
    subst hcc
    have hlen : len₂ = len := by rw [hdg] at hd₂; cases hd₂; rfl
    subst hlen
    have hs₂ : s₂ = (({ U with heap := s₂.heap, slotsUsed := s₂.slotsUsed } : State).setVm s₂.vm).setTop { g with pc := g.pc + len₂, stack := v.toList ++ g.stack } := by
      refine e3.trans ?_
      rw [hf₂, State.calling_eq h.top, State.setFrames_setFrames, State.setTop_of_frames _ hr', hr]
      rfl
    have hsame : U.sameButNew ({ U with heap := s₂.heap, slotsUsed := s₂.slotsUsed } : State) L mc ms := by
      refine ⟨?_, q2, q3, q4, q5, q6⟩
      obtain ⟨t, ht, -⟩ := State.frames_cons hr
      show ({ U with heap := s₂.heap, slotsUsed := s₂.slotsUsed } : State) = { U.setFrames U.frames with heap := s₂.heap, slotsUsed := s₂.slotsUsed }
      rw [State.setFrames_self ht]
    subst hg
    refine Or.inl ⟨v, ⟨(({ U with heap := s₂.heap, slotsUsed := s₂.slotsUsed } : State).setVm s₂.vm), Ls ++ L, c0 + mc, s0 + ms⟩,
      ⟨X.admits, X.cas, X.clock, X.frames, X.room, X.hears, X.method, X.code, (X.here.setHeapUsed s₂.heap s₂.slotsUsed).setVm hW'.alike, X.tail, State.WarmedH.trans X.warmed hW', X.limits, X.bytes, X.same.trans (hsame.setVm s.vm)⟩,
      ⟨g, mk, s₂, L, rfl, rfl, hqc, rfl, hL, rfl, rfl⟩, ?_⟩
    show Steps p.tables e below _ ((({ U with heap := s₂.heap, slotsUsed := s₂.slotsUsed } : State).setVm s₂.vm).setTop { g with pc := g.pc + len₂, stack := v.toList ++ g.stack })
    rw [← hs₂]
    exact hsteps
  · obtain ⟨e2, q2, q3, q4, q5, q6⟩ := id hsm
    have e3 : s₂ = ({ (U.calling g mk a).setFrames s₂.frames with heap := s₂.heap, slotsUsed := s₂.slotsUsed } : State).setVm s₂.vm := by
      have : s₂ = ({ s₂ with vm := (U.calling g mk a).vm } : State).setVm s₂.vm := rfl
      rw [e2] at this
      exact this
    have hf₂ : s₂.frames = .throwing q :: .java g :: U.frames.tail := hend
    have hW' : U.WarmedH s₂.vm := hW₂
    have hs₂ : s₂ = ((({ U with heap := s₂.heap, slotsUsed := s₂.slotsUsed } : State).setVm s₂.vm).setTop g).pushFrame (.throwing q) := by
      refine e3.trans ?_
      rw [hf₂, State.calling_eq h.top, State.setFrames_setFrames, State.pushFrame, State.frames_setTop _ hr', State.setTop_of_frames _ hr', State.setFrames_setFrames, hr]
      rfl
    have hsame : U.sameButNew ({ U with heap := s₂.heap, slotsUsed := s₂.slotsUsed } : State) L mc ms := by
      refine ⟨?_, q2, q3, q4, q5, q6⟩
      obtain ⟨t, ht, -⟩ := State.frames_cons hr
      show ({ U with heap := s₂.heap, slotsUsed := s₂.slotsUsed } : State) = { U.setFrames U.frames with heap := s₂.heap, slotsUsed := s₂.slotsUsed }
      rw [State.setFrames_self ht]
    subst hg
    refine Or.inr ⟨q, ⟨(({ U with heap := s₂.heap, slotsUsed := s₂.slotsUsed } : State).setVm s₂.vm), Ls ++ L, c0 + mc, s0 + ms⟩,
      ⟨X.admits, X.cas, X.clock, X.frames, X.room, X.hears, X.method, X.code, (X.here.setHeapUsed s₂.heap s₂.slotsUsed).setVm hW'.alike, X.tail, State.WarmedH.trans X.warmed hW', X.limits, X.bytes, X.same.trans (hsame.setVm s.vm)⟩,
      ⟨g, mk, s₂, L, E, ce, rfl, rfl, hx, hce, hcv, hcl, rfl, hL, rfl, rfl⟩, ?_⟩
    show Steps p.tables e below _ (((({ U with heap := s₂.heap, slotsUsed := s₂.slotsUsed } : State).setVm s₂.vm).setTop g).pushFrame (.throwing q))
    rw [← hs₂]
    exact hsteps
end Payer
section Calls
variable {p : Program} {l : Launch} {e : Env} {R : Room} {s : State} {m : MethodId} {args : Array Value} {below : List Frame} {meth : Method} {c : Code} {T : State} {locs : List Loc} {cells slots : Nat}
theorem vx_callV (X : Stand p l e R s m args below meth c T locs cells slots) (hexec : p.tables.exec = Jvm.exec) {own C : String} {index : Nat} {y : MethodName} {bytes : ByteArray} {maxL : Nat} {ret : Option FieldType}
    (hown : s.vm.findClass own = some m.cls) (hlink : (Cond.methodLink own index y).before args s = true) (hinst : (Cond.instanceMethod y).before args s = true) (hsel : (Cond.selects C y y).before args s = true)
    (hcode : (Cond.code y bytes maxL ret).before args s = true) (hy : y.cls ≠ "java/lang/invoke/MethodHandle" ∧ y.cls ≠ "java/lang/invoke/VarHandle")
    {W9 : Nat} {Pre : Pt → Array Value → Prop} {Post : Pt → Array Value → Option Value → Pt → Prop} {PostX : Pt → Array Value → Addr → Pt → Prop} (hK : vx_Back l R p e below s args y 3 W9 Pre Post PostX)
    {b : Addr} {cellB : Cell} (hcell : T.heap[b]? = some cellB) (hobj : cellB.vm.isStatics = false) (hcls : s.vm.findClass C = some cellB.cls)
    {g : JFrame} (hg : g.method = m) (hsize : g.locals.size = c.maxLocals) {argsL rest : List Value} (hlen : ∀ sig, parseMethodDescriptor y.desc = some sig → argsL.length = sig.parameters.length)
    (hstack : g.stack = argsL.reverse ++ .ref b :: rest) (hW : 2 * g.monitorRoom + (rest.map fun v => v.category).sum ≤ W9) (hdg : decode c.code g.pc = .ok (.invokevirtual index, 3))
    (hpre : ∀ vm₁, s.WarmedH vm₁ → Pre ⟨T.setVm vm₁, locs, cells, slots⟩ (Value.ref b :: argsL).toArray) :
    (∃ (v : Option Value) (vm₁ : Vm) (B : Pt), s.WarmedH vm₁ ∧ Stand p l e R s m args below meth c B.U B.locs B.cells B.slots ∧ Post ⟨T.setVm vm₁, locs, cells, slots⟩ (Value.ref b :: argsL).toArray v B ∧
      ∀ target, Steps p.tables e below (B.U.setTop { g with pc := g.pc + 3, stack := v.toList ++ rest }) target → Steps p.tables e below (T.setTop g) target) ∨
    (∃ (q : Addr) (vm₁ : Vm) (B : Pt), s.WarmedH vm₁ ∧ Stand p l e R s m args below meth c B.U B.locs B.cells B.slots ∧ PostX ⟨T.setVm vm₁, locs, cells, slots⟩ (Value.ref b :: argsL).toArray q B ∧
      Steps p.tables e below (T.setTop g) ((B.U.setTop { g with stack := rest }).pushFrame (.throwing q))) := by
  obtain ⟨mk, methM, hnamed, hmethM, hstM, habM⟩ := Cond.instanceMethod_spec hinst
  obtain ⟨methM', cM, hmethM', -, -, -, -, -, -, hsigM⟩ := Cond.code_spec hnamed hcode
  cases hmethM.symm.trans hmethM'
  obtain ⟨c2, r2, m2, q1, q2, q3, q4, kP, hkP, hkPi⟩ := Cond.selects_spec hsel
  cases hcls.symm.trans q1
  cases (State.methodFound?_of_named hnamed hy).symm.trans q2
  cases hnamed.symm.trans q3
  have hselP : selectMethod e.platform s.vm cellB.cls mk = .method mk := by rw [Launch.admits_selectMethod X.admits]; exact q4
  obtain ⟨vm₁, X₁, hstep₁⟩ := X.invokevirtual hexec hown hlink hnamed hmethM hstM hkP hkPi hy (a := b) (cell := cellB) hcell
    (fun z h => by rw [h] at hobj; cases hobj) hselP hmethM habM hkP hkPi (g := g) hg (argsL := argsL) (rest := rest) (hlen _ hsigM) hstack hdg
  rcases hK m meth c ⟨T.setVm vm₁, locs, cells, slots⟩ { g with stack := rest } (.invokevirtual index) mk (Value.ref b :: argsL).toArray X₁ hg hsize hdg hW (X₁.named hnamed) (hpre vm₁ X₁.warmed) with ⟨v, B, X', hpost, hsteps⟩ | ⟨q, B, X', hpost, hsteps⟩
  · exact Or.inl ⟨v, vm₁, B, X₁.warmed, X', hpost, fun target h => hstep₁ _ fun acts => by rw [doInvoke_state]; exact hsteps.trans h⟩
  · exact Or.inr ⟨q, vm₁, B, X₁.warmed, X', hpost, hstep₁ _ fun acts => by rw [doInvoke_state]; exact hsteps⟩
theorem vx_callS (X : Stand p l e R s m args below meth c T locs cells slots) (hexec : p.tables.exec = Jvm.exec) {own : String} {index : Nat} {y : MethodName} {bytes : ByteArray} {maxL : Nat} {ret : Option FieldType}
    (hown : s.vm.findClass own = some m.cls) (hlink : (Cond.methodLink own index y).before args s = true) (hstat : (Cond.static y).before args s = true) (hinit : (Cond.initialized y.cls).before args s = true)
    (hcode : (Cond.code y bytes maxL ret).before args s = true) (hy : y.cls ≠ "java/lang/invoke/MethodHandle" ∧ y.cls ≠ "java/lang/invoke/VarHandle")
    {W9 : Nat} {Pre : Pt → Array Value → Prop} {Post : Pt → Array Value → Option Value → Pt → Prop} {PostX : Pt → Array Value → Addr → Pt → Prop} (hK : vx_Back l R p e below s args y 3 W9 Pre Post PostX)
    {g : JFrame} (hg : g.method = m) (hsize : g.locals.size = c.maxLocals) {argsL rest : List Value} (hlen : ∀ sig, parseMethodDescriptor y.desc = some sig → argsL.length = sig.parameters.length)
    (hstack : g.stack = argsL.reverse ++ rest) (hW : 2 * g.monitorRoom + (rest.map fun v => v.category).sum ≤ W9) (hdg : decode c.code g.pc = .ok (.invokestatic index, 3))
    (hpre : ∀ vm₁, s.WarmedH vm₁ → Pre ⟨T.setVm vm₁, locs, cells, slots⟩ argsL.toArray) :
    (∃ (v : Option Value) (vm₁ : Vm) (B : Pt), s.WarmedH vm₁ ∧ Stand p l e R s m args below meth c B.U B.locs B.cells B.slots ∧ Post ⟨T.setVm vm₁, locs, cells, slots⟩ argsL.toArray v B ∧
      ∀ target, Steps p.tables e below (B.U.setTop { g with pc := g.pc + 3, stack := v.toList ++ rest }) target → Steps p.tables e below (T.setTop g) target) ∨
    (∃ (q : Addr) (vm₁ : Vm) (B : Pt), s.WarmedH vm₁ ∧ Stand p l e R s m args below meth c B.U B.locs B.cells B.slots ∧ PostX ⟨T.setVm vm₁, locs, cells, slots⟩ argsL.toArray q B ∧
      Steps p.tables e below (T.setTop g) ((B.U.setTop { g with stack := rest }).pushFrame (.throwing q))) := by
  obtain ⟨mk, hnamed⟩ := Cond.code_named hcode
  obtain ⟨methM, cM, hmethM, -, -, -, -, -, -, hsigM⟩ := Cond.code_spec hnamed hcode
  have hstatic : methM.isStatic = true := Cond.static_spec hnamed hmethM hstat
  obtain ⟨kP, hkP, -⟩ := className_of_methodNamed hnamed
  have hinitP : kP.init = .initialized := Cond.initialized_spec (findClass_of_methodNamed hnamed) hkP hinit
  obtain ⟨vm₁, X₁, hstep₁⟩ := X.invokestatic hexec hown hlink hnamed hmethM hstatic hkP hinitP hy (g := g) hg (argsL := argsL) (rest := rest) (hlen _ hsigM) hstack hdg
  rcases hK m meth c ⟨T.setVm vm₁, locs, cells, slots⟩ { g with stack := rest } (.invokestatic index) mk argsL.toArray X₁ hg hsize hdg hW (X₁.named hnamed) (hpre vm₁ X₁.warmed) with ⟨v, B, X', hpost, hsteps⟩ | ⟨q, B, X', hpost, hsteps⟩
  · exact Or.inl ⟨v, vm₁, B, X₁.warmed, X', hpost, fun target h => hstep₁ _ fun acts => by rw [doInvoke_state]; exact hsteps.trans h⟩
  · exact Or.inr ⟨q, vm₁, B, X₁.warmed, X', hpost, hstep₁ _ fun acts => by rw [doInvoke_state]; exact hsteps⟩
end Calls
theorem vx_cls {s : State} {T : State} {vm₁ : Vm} {E : String} {k : ClassId} (hW : s.WarmedH vm₁) (h : (T.setVm vm₁).vm.findClass E = some k) : s.vm.findClass E = some k := by
  have h1 : vm₁.findClass E = some k := h
  rw [hW.alike.findClass] at h1
  exact h1
/-- the method's frame g, with q thrown over it -/
def vx_W (p : Program) (l : Launch) (e : Env) (R : Room) (s : State) (m : MethodId) (args : Array Value) (below : List Frame) (meth : Method) (c : Code) (H : Heap) (locs : List Loc) (cells slots : Nat) (Q : State → Prop) (g : JFrame) (q : Addr) : Prop :=
  ∀ T : State, T.heap = H → Stand p l e R s m args below meth c T locs cells slots → ∃ t, Steps p.tables e below ((T.setTop g).pushFrame (.throwing q)) t ∧ Q t
def vx_Run (p : Program) (l : Launch) (e : Env) (R : Room) (s : State) (m : MethodId) (args : Array Value) (below : List Frame) (meth : Method) (c : Code) (H : Heap) (locs : List Loc) (cells slots mc ms : Nat) (g : JFrame) (rest : List Value) (Qa : State → Outcome → State → Prop) (XC : String → State → State → Prop) (free : Addr → Prop) : Prop :=
  ∀ T : State, T.heap = H → Stand p l e R s m args below meth c T locs cells slots →
    (∃ (v : Option Value) (st₀ t T' : State) (L : List Loc), st₀.heap = H ∧ Stand p l e R s m args below meth c T' (locs ++ L) (cells + mc) (slots + ms) ∧ (∀ q ∈ L, free q.base) ∧ T'.heap = t.heap ∧ T'.vm = t.vm ∧ Qa st₀ (.returned v) t ∧
      Goes p e below T g T' { g with pc := g.pc + 3, stack := v.toList ++ rest }) ∨
    (∃ (q : Addr) (st₀ t T' : State) (L : List Loc) (E : String) (ce : Cell), st₀.heap = H ∧ Stand p l e R s m args below meth c T' (locs ++ L) (cells + mc) (slots + ms) ∧ (∀ z ∈ L, free z.base) ∧ T'.heap = t.heap ∧ T'.vm = t.vm ∧ XC E st₀ t ∧ t.heap[q]? = some ce ∧ ce.vm = .none ∧ s.vm.findClass E = some ce.cls ∧
      Steps p.tables e below (T.setTop g) ((T'.setTop { g with stack := rest }).pushFrame (.throwing q)))
def vx_X {S : Type} (px : S → Prop) (B : String → S → State → Prop) (A : Nat → Prop) : String → State → State → Prop := fun E st t => ∃ u : S, px u ∧ B E u t ∧ va_F A st t
section Runs
variable {p : Program} {l : Launch} {e : Env} {R : Room} {s : State} {m : MethodId} {args : Array Value} {below : List Frame} {meth : Method} {c : Code} {H : Heap} {locs : List Loc} {cells slots : Nat}
variable {y : MethodName} {bytes cc : ByteArray} {maxL nL mc ms n index : Nat} {ret : Option FieldType} {ws : List Cond} {rm : Room} {Pc : Array Value → State → Prop} {Qc : Array Value → State → Outcome → State → Prop} {XC : String → State → State → Prop} {free : Addr → Prop} {Ts : List Cond} {own C : String} {b : Addr} {As rest : List Value} {g : JFrame}
theorem vx_callBack (cb : CallB R s args own index y bytes maxL ret ws rm mc ms n) (hM : vx_Met l y ws rm Pc Qc XC mc ms free) (hbl : FrameBlind Pc) : vx_Back l R p e below s args y 3 8 (PreOf R mc ms Pc) (PostOf Qc mc ms free) (vx_Post XC mc ms free) := by
  obtain ⟨hrc, hrs, hfr, hlo, hws, hcw, -, hini, -⟩ := cb
  exact vx_back (bytes := bytes) (maxL := maxL) (ret := ret) hM hbl hrc hrs hfr hlo hws hcw (fun a' U hW => word_at hW (Or.inl (by first | rfl | simp [Cond.onTables, Cond.keeps, Cond.steady])) hini)
theorem vx_runV (S : CallFix p m c cc nL s args Ts own) (hM : vx_Met l y ws rm Pc Qc XC mc ms free) (cw : CallW R s args own C index y bytes maxL ret ws rm mc ms n) (hp : PreV s H C b Pc As)
    (hg : g.method = m) (hn : As.length = n) (hsize : g.locals.size = nL) (hstack : g.stack = As.reverse ++ .ref b :: rest) (hW : 2 * g.monitorRoom + (rest.map fun v => v.category).sum ≤ 8) (hdg : decode cc g.pc = .ok (.invokevirtual index, 3)) (hf : cells + mc ≤ R.cells ∧ slots + ms ≤ R.slots) :
    vx_Run p l e R s m args below meth c H locs cells slots mc ms g rest (Qc (Value.ref b :: As).toArray) XC free := by
  have hK : vx_Back l R p e below s args y 3 8 (PreOf R mc ms Pc) (PostOf Qc mc ms free) (vx_Post XC mc ms free) := vx_callBack cw.1 hM hp.1
  obtain ⟨⟨-, -, -, -, -, -, hcode, -, hy, hlen, hl⟩, hin, hse⟩ := cw
  obtain ⟨hx, hb, hml, ho, -⟩ := S
  obtain ⟨-, ⟨cellB, hcB, hoB, hclB⟩, hPc⟩ := hp
  intro T hT X
  rcases vx_callV X hx (C := C) (bytes := bytes) (maxL := maxL) (ret := ret) ho hl hin hse hcode hy hK (by rw [hT]; exact hcB) hoB hclB hg (hsize.trans hml.symm) (argsL := As) (rest := rest) (fun sig h => hn.trans (hlen sig h)) hstack hW (by rw [hb]; exact hdg)
    (fun vm₁ hW₁ => ⟨hf.1, hf.2, hPc (T.setVm vm₁) hT hW₁⟩) with ⟨v, vm₁, ⟨U', l2, c2, s2⟩, hW₁, X', ⟨g', mk, t, L, e1, e2, hq, h1, hL, h2, h3⟩, st⟩ | ⟨q, vm₁, ⟨U', l2, c2, s2⟩, hW₁, X', ⟨g', mk, t, L, E, ce, e1, e2, hq, hce, hcv, hcl, h1, hL, h2, h3⟩, st⟩
  · dsimp only [Pt.U, Pt.locs, Pt.cells, Pt.slots] at X' e1 e2 h1 h2 h3 st
    subst h1; subst h2; subst h3
    exact Or.inl ⟨v, (T.setVm vm₁).calling g' mk (Value.ref b :: As).toArray, t, U', L, hT, X', hL, e1, e2, hq, st⟩
  · dsimp only [Pt.U, Pt.locs, Pt.cells, Pt.slots] at X' e1 e2 h1 h2 h3 st hcl
    subst h1; subst h2; subst h3
    exact Or.inr ⟨q, (T.setVm vm₁).calling g' mk (Value.ref b :: As).toArray, t, U', L, E, ce, hT, X', hL, e1, e2, hq, hce, hcv, vx_cls hW₁ hcl, st⟩
theorem vx_runS (S : CallFix p m c cc nL s args Ts own) (hM : vx_Met l y ws rm Pc Qc XC mc ms free) (cw : CallB R s args own index y bytes maxL ret ws rm mc ms n ∧ (Cond.static y).before args s = true) (hp : PreS s H Pc As)
    (hg : g.method = m) (hn : As.length = n) (hsize : g.locals.size = nL) (hstack : g.stack = As.reverse ++ rest) (hW : 2 * g.monitorRoom + (rest.map fun v => v.category).sum ≤ 8) (hdg : decode cc g.pc = .ok (.invokestatic index, 3)) (hf : cells + mc ≤ R.cells ∧ slots + ms ≤ R.slots) :
    vx_Run p l e R s m args below meth c H locs cells slots mc ms g rest (Qc As.toArray) XC free := by
  have hK : vx_Back l R p e below s args y 3 8 (PreOf R mc ms Pc) (PostOf Qc mc ms free) (vx_Post XC mc ms free) := vx_callBack cw.1 hM hp.1
  obtain ⟨⟨-, -, -, -, -, -, hcode, hini, hy, hlen, hl⟩, hstt⟩ := cw
  obtain ⟨hx, hb, hml, ho, -⟩ := S
  intro T hT X
  rcases vx_callS X hx (bytes := bytes) (maxL := maxL) (ret := ret) ho hl hstt hini hcode hy hK hg (hsize.trans hml.symm) (argsL := As) (rest := rest) (fun sig h => hn.trans (hlen sig h)) hstack hW (by rw [hb]; exact hdg)
    (fun vm₁ hW₁ => ⟨hf.1, hf.2, hp.2 (T.setVm vm₁) hT hW₁⟩) with ⟨v, vm₁, ⟨U', l2, c2, s2⟩, hW₁, X', ⟨g', mk, t, L, e1, e2, hq, h1, hL, h2, h3⟩, st⟩ | ⟨q, vm₁, ⟨U', l2, c2, s2⟩, hW₁, X', ⟨g', mk, t, L, E, ce, e1, e2, hq, hce, hcv, hcl, h1, hL, h2, h3⟩, st⟩
  · dsimp only [Pt.U, Pt.locs, Pt.cells, Pt.slots] at X' e1 e2 h1 h2 h3 st
    subst h1; subst h2; subst h3
    exact Or.inl ⟨v, (T.setVm vm₁).calling g' mk As.toArray, t, U', L, hT, X', hL, e1, e2, hq, st⟩
  · dsimp only [Pt.U, Pt.locs, Pt.cells, Pt.slots] at X' e1 e2 h1 h2 h3 st hcl
    subst h1; subst h2; subst h3
    exact Or.inr ⟨q, (T.setVm vm₁).calling g' mk As.toArray, t, U', L, E, ce, hT, X', hL, e1, e2, hq, hce, hcv, vx_cls hW₁ hcl, st⟩
end Runs
section Rows
variable {p : Program} {l : Launch} {e : Env} {R : Room} {s : State} {m : MethodId} {args : Array Value} {below : List Frame} {meth : Method} {c : Code} {H : Heap} {locs : List Loc} {cells slots : Nat} {Q : State → Prop}
variable {mc ms : Nat} {free : Addr → Prop} {A0 A1 : Nat → Prop} {H0 : Heap} {a : Array Value} {pc : Nat} {ls : Array Slot} {st0 rest : List Value}
theorem vx_keep {st₀ t T' : State} {L : List Loc} (h0 : st₀.heap = H) (e1 : T'.heap = t.heap) (hS : va_S A0 H0 H locs) (hA : ∀ q, q < H.size → A1 q → A0 q) (hf : ∀ q, free q → A0 q) (hL : ∀ q ∈ L, free q.base) (hF : va_F A1 st₀ t) :
    H.size ≤ T'.heap.size ∧ (∀ q : Nat, q < H.size → ¬ A1 q → T'.heap[q]? = H[q]?) ∧ va_S A0 H0 T'.heap (locs ++ L) := by
  obtain ⟨hz, hk⟩ := hF
  rw [h0] at hz hk
  exact ⟨by rw [e1]; exact hz, fun q h1 h2 => by rw [e1]; exact hk q h1 h2,
    ⟨Nat.le_trans hS.1 (by rw [e1]; exact hz), fun q h1 h2 => by rw [e1, hk q (Nat.lt_of_lt_of_le h1 hS.1) (fun z => h2 (hA q (Nat.lt_of_lt_of_le h1 hS.1) z))]; exact hS.2.1 q h1 h2, fun q hq => by
      rcases List.mem_append.mp hq with h | h
      · exact hS.2.2 q h
      · exact hf _ (hL q h)⟩⟩
theorem vx_calli {S SX : Type} {post : Int32 → S → Prop} {px : SX → Prop} {B : S → State → Prop} {BX : String → SX → State → Prop} {AX : Nat → Prop} (hr : vx_Run p l e R s m args below meth c H locs cells slots mc ms (F0 m pc ls st0) rest (va_Qi post B A1 a) (vx_X px BX AX) free) (hS : va_S A0 H0 H locs) (hA : ∀ q, q < H.size → A1 q → A0 q) (hf : ∀ q, free q → A0 q) (hAX : ∀ q, q < H.size → AX q → A0 q)
    (kx : ∀ (E : String) (ce : Cell) (q9 : Addr) (u : SX) (t : State) (H1 : Heap) (locs1 : List Loc), t.heap = H1 → s.vm.Alike t.vm → px u → BX E u t → H.size ≤ H1.size → (∀ q : Nat, q < H.size → ¬ AX q → H1[q]? = H[q]?) → va_S A0 H0 H1 locs1 → H1[q9]? = some ce → ce.vm = .none → s.vm.findClass E = some ce.cls → vx_W p l e R s m args below meth c H1 locs1 (cells + mc) (slots + ms) Q (F0 m pc ls rest) q9)
    (kk : ∀ (r : Int32) (u : S) (t : State) (H1 : Heap) (locs1 : List Loc), t.heap = H1 → s.vm.Alike t.vm → post r u → B u t → H.size ≤ H1.size → (∀ q : Nat, q < H.size → ¬ A1 q → H1[q]? = H[q]?) → va_S A0 H0 H1 locs1 → W p l e R s m args below meth c H1 locs1 (cells + mc) (slots + ms) Q (F0 m (pc + 3) ls (.int r :: rest))) : W p l e R s m args below meth c H locs cells slots Q (F0 m pc ls st0) := by
  intro T hT X
  rcases hr T hT X with ⟨v, st₀, t, T', L, h0, X', hL, e1, e2, ⟨⟨r, u, hv, hp, hb⟩, hF⟩, st⟩ | ⟨q, st₀, t, T', L, E, ce, h0, X', hL, e1, e2, ⟨u, hp, hb, hF⟩, hce, hcv, hcl, st⟩
  · cases hv
    obtain ⟨k1, k2, k3⟩ := vx_keep h0 e1 hS hA hf hL hF
    obtain ⟨t2, a1, b1⟩ := kk r u t T'.heap (locs ++ L) e1.symm (by rw [← e2]; exact X'.warmed.alike) hp hb k1 k2 k3 T' rfl X'
    exact ⟨t2, st t2 a1, b1⟩
  · obtain ⟨k1, k2, k3⟩ := vx_keep h0 e1 hS hAX hf hL hF
    obtain ⟨t2, a1, b1⟩ := kx E ce q u t T'.heap (locs ++ L) e1.symm (by rw [← e2]; exact X'.warmed.alike) hp hb k1 k2 k3 (by rw [e1]; exact hce) hcv hcl T' rfl X'
    exact ⟨t2, st.trans a1, b1⟩
theorem vx_calll {S SX : Type} {post : Int64 → S → Prop} {px : SX → Prop} {B : S → State → Prop} {BX : String → SX → State → Prop} {AX : Nat → Prop} (hr : vx_Run p l e R s m args below meth c H locs cells slots mc ms (F0 m pc ls st0) rest (va_Ql post B A1 a) (vx_X px BX AX) free) (hS : va_S A0 H0 H locs) (hA : ∀ q, q < H.size → A1 q → A0 q) (hf : ∀ q, free q → A0 q) (hAX : ∀ q, q < H.size → AX q → A0 q)
    (kx : ∀ (E : String) (ce : Cell) (q9 : Addr) (u : SX) (t : State) (H1 : Heap) (locs1 : List Loc), t.heap = H1 → s.vm.Alike t.vm → px u → BX E u t → H.size ≤ H1.size → (∀ q : Nat, q < H.size → ¬ AX q → H1[q]? = H[q]?) → va_S A0 H0 H1 locs1 → H1[q9]? = some ce → ce.vm = .none → s.vm.findClass E = some ce.cls → vx_W p l e R s m args below meth c H1 locs1 (cells + mc) (slots + ms) Q (F0 m pc ls rest) q9)
    (kk : ∀ (r : Int64) (u : S) (t : State) (H1 : Heap) (locs1 : List Loc), t.heap = H1 → s.vm.Alike t.vm → post r u → B u t → H.size ≤ H1.size → (∀ q : Nat, q < H.size → ¬ A1 q → H1[q]? = H[q]?) → va_S A0 H0 H1 locs1 → W p l e R s m args below meth c H1 locs1 (cells + mc) (slots + ms) Q (F0 m (pc + 3) ls (.long r :: rest))) : W p l e R s m args below meth c H locs cells slots Q (F0 m pc ls st0) := by
  intro T hT X
  rcases hr T hT X with ⟨v, st₀, t, T', L, h0, X', hL, e1, e2, ⟨⟨r, u, hv, hp, hb⟩, hF⟩, st⟩ | ⟨q, st₀, t, T', L, E, ce, h0, X', hL, e1, e2, ⟨u, hp, hb, hF⟩, hce, hcv, hcl, st⟩
  · cases hv
    obtain ⟨k1, k2, k3⟩ := vx_keep h0 e1 hS hA hf hL hF
    obtain ⟨t2, a1, b1⟩ := kk r u t T'.heap (locs ++ L) e1.symm (by rw [← e2]; exact X'.warmed.alike) hp hb k1 k2 k3 T' rfl X'
    exact ⟨t2, st t2 a1, b1⟩
  · obtain ⟨k1, k2, k3⟩ := vx_keep h0 e1 hS hAX hf hL hF
    obtain ⟨t2, a1, b1⟩ := kx E ce q u t T'.heap (locs ++ L) e1.symm (by rw [← e2]; exact X'.warmed.alike) hp hb k1 k2 k3 (by rw [e1]; exact hce) hcv hcl T' rfl X'
    exact ⟨t2, st.trans a1, b1⟩
theorem vx_callf {S SX : Type} {post : UInt32 → S → Prop} {px : SX → Prop} {B : S → State → Prop} {BX : String → SX → State → Prop} {AX : Nat → Prop} (hr : vx_Run p l e R s m args below meth c H locs cells slots mc ms (F0 m pc ls st0) rest (va_Qf post B A1 a) (vx_X px BX AX) free) (hS : va_S A0 H0 H locs) (hA : ∀ q, q < H.size → A1 q → A0 q) (hf : ∀ q, free q → A0 q) (hAX : ∀ q, q < H.size → AX q → A0 q)
    (kx : ∀ (E : String) (ce : Cell) (q9 : Addr) (u : SX) (t : State) (H1 : Heap) (locs1 : List Loc), t.heap = H1 → s.vm.Alike t.vm → px u → BX E u t → H.size ≤ H1.size → (∀ q : Nat, q < H.size → ¬ AX q → H1[q]? = H[q]?) → va_S A0 H0 H1 locs1 → H1[q9]? = some ce → ce.vm = .none → s.vm.findClass E = some ce.cls → vx_W p l e R s m args below meth c H1 locs1 (cells + mc) (slots + ms) Q (F0 m pc ls rest) q9)
    (kk : ∀ (r : UInt32) (u : S) (t : State) (H1 : Heap) (locs1 : List Loc), t.heap = H1 → s.vm.Alike t.vm → post r u → B u t → H.size ≤ H1.size → (∀ q : Nat, q < H.size → ¬ A1 q → H1[q]? = H[q]?) → va_S A0 H0 H1 locs1 → W p l e R s m args below meth c H1 locs1 (cells + mc) (slots + ms) Q (F0 m (pc + 3) ls (.float r :: rest))) : W p l e R s m args below meth c H locs cells slots Q (F0 m pc ls st0) := by
  intro T hT X
  rcases hr T hT X with ⟨v, st₀, t, T', L, h0, X', hL, e1, e2, ⟨⟨r, u, hv, hp, hb⟩, hF⟩, st⟩ | ⟨q, st₀, t, T', L, E, ce, h0, X', hL, e1, e2, ⟨u, hp, hb, hF⟩, hce, hcv, hcl, st⟩
  · cases hv
    obtain ⟨k1, k2, k3⟩ := vx_keep h0 e1 hS hA hf hL hF
    obtain ⟨t2, a1, b1⟩ := kk r u t T'.heap (locs ++ L) e1.symm (by rw [← e2]; exact X'.warmed.alike) hp hb k1 k2 k3 T' rfl X'
    exact ⟨t2, st t2 a1, b1⟩
  · obtain ⟨k1, k2, k3⟩ := vx_keep h0 e1 hS hAX hf hL hF
    obtain ⟨t2, a1, b1⟩ := kx E ce q u t T'.heap (locs ++ L) e1.symm (by rw [← e2]; exact X'.warmed.alike) hp hb k1 k2 k3 (by rw [e1]; exact hce) hcv hcl T' rfl X'
    exact ⟨t2, st.trans a1, b1⟩
theorem vx_calld {S SX : Type} {post : UInt64 → S → Prop} {px : SX → Prop} {B : S → State → Prop} {BX : String → SX → State → Prop} {AX : Nat → Prop} (hr : vx_Run p l e R s m args below meth c H locs cells slots mc ms (F0 m pc ls st0) rest (va_Qd post B A1 a) (vx_X px BX AX) free) (hS : va_S A0 H0 H locs) (hA : ∀ q, q < H.size → A1 q → A0 q) (hf : ∀ q, free q → A0 q) (hAX : ∀ q, q < H.size → AX q → A0 q)
    (kx : ∀ (E : String) (ce : Cell) (q9 : Addr) (u : SX) (t : State) (H1 : Heap) (locs1 : List Loc), t.heap = H1 → s.vm.Alike t.vm → px u → BX E u t → H.size ≤ H1.size → (∀ q : Nat, q < H.size → ¬ AX q → H1[q]? = H[q]?) → va_S A0 H0 H1 locs1 → H1[q9]? = some ce → ce.vm = .none → s.vm.findClass E = some ce.cls → vx_W p l e R s m args below meth c H1 locs1 (cells + mc) (slots + ms) Q (F0 m pc ls rest) q9)
    (kk : ∀ (r : UInt64) (u : S) (t : State) (H1 : Heap) (locs1 : List Loc), t.heap = H1 → s.vm.Alike t.vm → post r u → B u t → H.size ≤ H1.size → (∀ q : Nat, q < H.size → ¬ A1 q → H1[q]? = H[q]?) → va_S A0 H0 H1 locs1 → W p l e R s m args below meth c H1 locs1 (cells + mc) (slots + ms) Q (F0 m (pc + 3) ls (.double r :: rest))) : W p l e R s m args below meth c H locs cells slots Q (F0 m pc ls st0) := by
  intro T hT X
  rcases hr T hT X with ⟨v, st₀, t, T', L, h0, X', hL, e1, e2, ⟨⟨r, u, hv, hp, hb⟩, hF⟩, st⟩ | ⟨q, st₀, t, T', L, E, ce, h0, X', hL, e1, e2, ⟨u, hp, hb, hF⟩, hce, hcv, hcl, st⟩
  · cases hv
    obtain ⟨k1, k2, k3⟩ := vx_keep h0 e1 hS hA hf hL hF
    obtain ⟨t2, a1, b1⟩ := kk r u t T'.heap (locs ++ L) e1.symm (by rw [← e2]; exact X'.warmed.alike) hp hb k1 k2 k3 T' rfl X'
    exact ⟨t2, st t2 a1, b1⟩
  · obtain ⟨k1, k2, k3⟩ := vx_keep h0 e1 hS hAX hf hL hF
    obtain ⟨t2, a1, b1⟩ := kx E ce q u t T'.heap (locs ++ L) e1.symm (by rw [← e2]; exact X'.warmed.alike) hp hb k1 k2 k3 (by rw [e1]; exact hce) hcv hcl T' rfl X'
    exact ⟨t2, st.trans a1, b1⟩
theorem vx_callv {S SX : Type} {post : S → Prop} {px : SX → Prop} {B : S → State → Prop} {BX : String → SX → State → Prop} {AX : Nat → Prop} (hr : vx_Run p l e R s m args below meth c H locs cells slots mc ms (F0 m pc ls st0) rest (va_Qv post B A1 a) (vx_X px BX AX) free) (hS : va_S A0 H0 H locs) (hA : ∀ q, q < H.size → A1 q → A0 q) (hf : ∀ q, free q → A0 q) (hAX : ∀ q, q < H.size → AX q → A0 q)
    (kx : ∀ (E : String) (ce : Cell) (q9 : Addr) (u : SX) (t : State) (H1 : Heap) (locs1 : List Loc), t.heap = H1 → s.vm.Alike t.vm → px u → BX E u t → H.size ≤ H1.size → (∀ q : Nat, q < H.size → ¬ AX q → H1[q]? = H[q]?) → va_S A0 H0 H1 locs1 → H1[q9]? = some ce → ce.vm = .none → s.vm.findClass E = some ce.cls → vx_W p l e R s m args below meth c H1 locs1 (cells + mc) (slots + ms) Q (F0 m pc ls rest) q9)
    (kk : ∀ (u : S) (t : State) (H1 : Heap) (locs1 : List Loc), t.heap = H1 → s.vm.Alike t.vm → post u → B u t → H.size ≤ H1.size → (∀ q : Nat, q < H.size → ¬ A1 q → H1[q]? = H[q]?) → va_S A0 H0 H1 locs1 → W p l e R s m args below meth c H1 locs1 (cells + mc) (slots + ms) Q (F0 m (pc + 3) ls (rest))) : W p l e R s m args below meth c H locs cells slots Q (F0 m pc ls st0) := by
  intro T hT X
  rcases hr T hT X with ⟨v, st₀, t, T', L, h0, X', hL, e1, e2, ⟨⟨u, hv, hp, hb⟩, hF⟩, st⟩ | ⟨q, st₀, t, T', L, E, ce, h0, X', hL, e1, e2, ⟨u, hp, hb, hF⟩, hce, hcv, hcl, st⟩
  · cases hv
    obtain ⟨k1, k2, k3⟩ := vx_keep h0 e1 hS hA hf hL hF
    obtain ⟨t2, a1, b1⟩ := kk u t T'.heap (locs ++ L) e1.symm (by rw [← e2]; exact X'.warmed.alike) hp hb k1 k2 k3 T' rfl X'
    exact ⟨t2, st t2 a1, b1⟩
  · obtain ⟨k1, k2, k3⟩ := vx_keep h0 e1 hS hAX hf hL hF
    obtain ⟨t2, a1, b1⟩ := kx E ce q u t T'.heap (locs ++ L) e1.symm (by rw [← e2]; exact X'.warmed.alike) hp hb k1 k2 k3 (by rw [e1]; exact hce) hcv hcl T' rfl X'
    exact ⟨t2, st.trans a1, b1⟩
/-- caught by the row x of this method's table; the rows ahead don't take it -/
theorem vx_catch {own name : String} {E : String} {ce : Cell} {q : Addr} (hown : s.vm.findClass own = some m.cls) (pre : List ExceptionTableEntry) (x : ExceptionTableEntry) (suf : List ExceptionTableEntry) (hsplit : c.exceptionTable.toList = pre ++ x :: suf)
    (hpass : ∀ z ∈ pre, covers z pc = false ∨ (z.catchType ≠ 0 ∧ ∃ nm : String, (Cond.classLink own z.catchType nm).before args s = true ∧ va_Nc E nm s)) (hx : covers x pc = true) (h0 : x.catchType ≠ 0)
    (hlink : (Cond.classLink own x.catchType name).before args s = true) (hcast : (Cond.castable E name).before args s = true) (hcell : H[q]? = some ce) (hv : ce.vm = .none) (hcl : s.vm.findClass E = some ce.cls)
    (kk : W p l e R s m args below meth c H locs cells slots Q (F0 m x.handlerPc ls [.ref q])) : vx_W p l e R s m args below meth c H locs cells slots Q (F0 m pc ls rest) q := by
  intro T hT X
  have hpl : e.platform.magicAccessors = ({} : Platform).magicAccessors := by rw [X.admits.platform]
  obtain ⟨c3, c4, hc3, hc4, hasg⟩ := Cond.castable_spec hcast
  cases Option.some.inj (hc3.symm.trans hcl)
  obtain ⟨c5, hc5, hcl5⟩ := Cond.classLink_spec hown hlink e.platform hpl
  cases Option.some.inj (hc4.symm.trans hc5)
  obtain ⟨vm', X', st⟩ := X.thenCaughtThrough q (g := F0 m pc ls rest) rfl (Steps.refl _) (by rw [hT]; exact hcell) (by rw [hv]; rfl) (by obtain ⟨k9, h9, -⟩ := Vm.findClass_spec hcl; exact ⟨k9, h9⟩) pre x suf hsplit
    (fun z hz => by
      rcases hpass z hz with h | ⟨hz0, nm, hl1, hn1⟩
      · exact Or.inl h
      · obtain ⟨c6, hc6, hcl6⟩ := Cond.classLink_spec hown hl1 e.platform hpl
        obtain ⟨a8, b8, h1, h2, h3⟩ := hn1
        cases Option.some.inj (h1.symm.trans hcl)
        cases Option.some.inj (h2.symm.trans hc6)
        exact Or.inr ⟨hz0, _, hcl6, h3⟩) hx (Or.inr ⟨h0, c4, hcl5, hasg⟩)
  obtain ⟨t, a1, b1⟩ := kk (T.setVm vm') hT X'
  exact ⟨t, st.trans a1, b1⟩
end Rows
section Ends
variable {p : Program} {l : Launch} {e : Env} {R : Room} {s : State} {m : MethodId} {args : Array Value} {below : List Frame} {meth : Method} {c : Code} {H : Heap} {locs : List Loc} {cells slots : Nat} {Q : State → Prop}
variable {mc ms : Nat} {free : Addr → Prop} {A0 A1 : Nat → Prop} {H0 : Heap} {a : Array Value} {ls : Array Slot} {st0 rest : List Value}
variable {Qc : Array Value → State → Outcome → State → Prop} {XC : String → State → State → Prop}
/-- what a body that may throw owes at its end -/
def vx_MQ (below : List Frame) (Qc : Array Value → State → Outcome → State → Prop) (XC : String → State → State → Prop) (a : Array Value) (s : State) (mc ms : Nat) (free : Addr → Prop) : State → Prop := fun t =>
  ∃ o, t.status = .running ∧ Ended t below o ∧ vx_Q Qc XC mc ms free a s o t
theorem vx_ret {g : JFrame} {mc ms : Nat} (k : W p l e R s m args below meth c H locs cells slots (MQ below Qc args s mc ms free) g) : W p l e R s m args below meth c H locs cells slots (vx_MQ below Qc XC args s mc ms free) g := by
  intro T hT X
  obtain ⟨t, a1, o, b1, b2, b3, b4⟩ := k T hT X
  exact ⟨t, a1, o, b1, b2, Or.inl ⟨b3, b4⟩⟩
/-- not caught here: it goes on to the caller -/
theorem vx_widen {g : JFrame} {q : Addr} {k n : Nat} (h1 : cells ≤ k) (h2 : slots ≤ n) (kk : vx_W p l e R s m args below meth c H locs k n Q g q) : vx_W p l e R s m args below meth c H locs cells slots Q g q := fun T hT X => kk T hT (stand_widen X h1 h2)
theorem vx_out {pc : Nat} {E : String} {ce : Cell} {q : Addr} {mc ms : Nat} (hout : ∀ x ∈ c.exceptionTable.toList, covers x pc = false) (hlocks : meth.locks = false) (hcell : H[q]? = some ce) (hv : ce.vm = .none) (hcl : s.vm.findClass E = some ce.cls)
    (hx : ∀ t : State, t.heap = H → s.vm.Alike t.vm → XC E s t) (hf : ∀ z ∈ locs, free z.base) (hc : cells ≤ mc) (hs : slots ≤ ms) :
    vx_W p l e R s m args below meth c H locs cells slots (vx_MQ below Qc XC args s mc ms free) (F0 m pc ls rest) q := by
  intro T hT X
  obtain ⟨st1, hrun, hend, hW, hsm⟩ := X.leaveThrown q (g := F0 m pc ls rest) rfl rfl rfl hout hlocks
  have hcell9 : (T.setFrames (.throwing q :: below)).heap[q]? = some ce := by
    show T.heap[q]? = some ce
    rw [hT]; exact hcell
  exact ⟨_, st1, .threw q, hrun, hend, Or.inr ⟨q, rfl, E, ce, locs, hx _ hT hW.alike, hcell9, hv, hcl, hW, hsm.mono hc hs, hf⟩⟩
theorem vx_frame {U : State} {k n : Nat} (h : s.sameButNew ({ U with vm := s.vm } : State) locs k n) : s.heap.size ≤ U.heap.size ∧ ∀ q : Nat, q < s.heap.size → (∀ z ∈ locs, z.base ≠ q) → U.heap[q]? = s.heap[q]? := by
  obtain ⟨-, h2, -, -, -, h6⟩ := h
  refine ⟨h2, fun q hq hz => ?_⟩
  obtain ⟨c9, e1, e2, e3, e4⟩ := h6 q _ (Array.getElem?_eq_getElem hq)
  have hs : c9.slots = (s.heap[q]).slots := Array.ext_getElem? fun i => e4 i fun hm => hz _ hm rfl
  have h9 : c9 = s.heap[q] := by
    rw [hs] at e2
    exact e2
  have e5 : U.heap[q]? = some c9 := e1
  rw [e5, h9, Array.getElem?_eq_getElem hq]
/-- the words of a throw but the four that speak of the heap -/
def vx_no (w : Cond) : Bool := decide (w ≠ .isRef (.static Bundle.tN "UNASSIGNED_STACK" Bundle.steD)) && decide (w ≠ .isRef (.static Bundle.tN "SUPPRESSED_SENTINEL" Bundle.listD)) && decide (w ≠ .laysStatic Bundle.tN "UNASSIGNED_STACK" Bundle.steD) && decide (w ≠ .laysStatic Bundle.tN "SUPPRESSED_SENTINEL" Bundle.listD)
def vx_at0 (own : String) (ic : Nat) (X : String) (names : List String) : List Cond := (Bundle.ownAtoms0 own ic X names).filter vx_no
def vx_atS (own : String) (ic : Nat) (X : String) (names : List String) : List Cond := (Bundle.ownAtoms own ic X names).filter vx_no
/-- a word that the tables alone decide, or a good one -/
def vx_ot (w : Cond) : Bool := w.onTables || goodWord w
theorem vx_ot_at {args a' : Array Value} {s U : State} {w : Cond} (hW : s.WarmedH U.vm) (hvm : s.vm = U.vm) (hg : vx_ot w = true) (h : w.before args s = true) : w.before a' U = true := by
  simp only [vx_ot, Bool.or_eq_true] at hg
  rcases hg with hg | hg
  · exact va_tabs hg hvm h
  · exact word_at hW (good_of_word hg) h
/-- a list's words: the good ones out of the method's own list, the others by premises of their own -/
theorem vx_hat {args : Array Value} {s : State} {L B : List Cond} (h1 : ∀ w ∈ L.filter goodWord, w.before args s = true) (h2 : ∀ w ∈ L.filter (fun w => !goodWord w), w ∈ B) (h3 : ∀ w ∈ B, w.before args s = true) : ∀ w ∈ L, w.before args s = true := by
  intro w hw
  by_cases g : goodWord w = true
  · exact h1 w (List.mem_filter.mpr ⟨hw, g⟩)
  · refine h3 w (h2 w (List.mem_filter.mpr ⟨hw, ?_⟩))
    show (!goodWord w) = true
    cases hgw : goodWord w
    · rfl
    · exact absurd hgw g
theorem vx_c {args : Array Value} {s : State} {w : Cond} {B : List Cond} (h : w.before args s = true) (t : ∀ w ∈ B, w.before args s = true) : ∀ w' ∈ w :: B, w'.before args s = true := fun w' h' => (List.mem_cons.mp h').elim (fun e => by rw [e]; exact h) (t w')
theorem vx_n {args : Array Value} {s : State} : ∀ w ∈ ([] : List Cond), w.before args s = true := fun _ h => nomatch h
theorem vx_own {args : Array Value} {s : State} {L : List Cond} (h1 : ∀ w ∈ L.filter vx_no, w.before args s = true)
    (hU : (Cond.isRef (.static Bundle.tN "UNASSIGNED_STACK" Bundle.steD)).before args s = true) (hN : (Cond.isRef (.static Bundle.tN "SUPPRESSED_SENTINEL" Bundle.listD)).before args s = true)
    (lU : (Cond.laysStatic Bundle.tN "UNASSIGNED_STACK" Bundle.steD).before args s = true) (lN : (Cond.laysStatic Bundle.tN "SUPPRESSED_SENTINEL" Bundle.listD).before args s = true) : ∀ w ∈ L, w.before args s = true := by
  intro w hw
  by_cases e1 : w = .isRef (.static Bundle.tN "UNASSIGNED_STACK" Bundle.steD)
  · rw [e1]; exact hU
  · by_cases e2 : w = .isRef (.static Bundle.tN "SUPPRESSED_SENTINEL" Bundle.listD)
    · rw [e2]; exact hN
    · by_cases e3 : w = .laysStatic Bundle.tN "UNASSIGNED_STACK" Bundle.steD
      · rw [e3]; exact lU
      · by_cases e4 : w = .laysStatic Bundle.tN "SUPPRESSED_SENTINEL" Bundle.listD
        · rw [e4]; exact lN
        · exact h1 w (List.mem_filter.mpr ⟨hw, by unfold vx_no; rw [decide_eq_true e1, decide_eq_true e2, decide_eq_true e3, decide_eq_true e4]; rfl⟩)
/-- where a static field lies, its class's statics cell in H -/
def vx_L (C n d : String) (A : Nat → Prop) (U : State) (H : Heap) : Prop := ∃ (c : ClassId) (k : Class) (i : Nat) (f : Field) (a : Nat) (cell : Cell), U.vm.findClass C = some c ∧ U.fieldFound? C n d = some (c, k, i, f) ∧ f.isStatic = true ∧ k.statics = some a ∧ H[a]? = some cell ∧ cell.vm.isStatics = true ∧ cell.cls = c ∧ f.slot < cell.slots.size ∧ k.staticTypes[f.slot]? = some f.type ∧ ¬ A a
theorem vx_L.moved {C n d : String} {A : Nat → Prop} {u U : State} {H : Heap} (hvm : u.vm.Alike U.vm) (h : vx_L C n d A u H) : vx_L C n d A U H := by
  obtain ⟨c, k, i, f, a, cell, h1, h2, h3, h4, h5, h6, h7, h8, h9, h10⟩ := h
  obtain ⟨k', hi', he⟩ := State.fieldFound?_setVm hvm h2
  exact ⟨c, k', i, f, a, cell, by rw [hvm.findClass]; exact h1, hi', h3, by rw [he]; exact h4, h5, h6, h7, h8, by rw [he]; exact h9, h10⟩
theorem vx_L.kept {C n d : String} {A : Nat → Prop} {U : State} {H H1 : Heap} (h : vx_L C n d A U H) (hq : ∀ a : Nat, a < H.size → ¬ A a → H1[a]? = H[a]?) : vx_L C n d A U H1 := by
  obtain ⟨c, k, i, f, a, cell, h1, h2, h3, h4, h5, h6, h7, h8, h9, h10⟩ := h
  exact ⟨c, k, i, f, a, cell, h1, h2, h3, h4, by rw [hq a (Array.getElem?_eq_some_iff.mp h5).1 h10]; exact h5, h6, h7, h8, h9, h10⟩
theorem vx_L.narrow {C n d : String} {A B : Nat → Prop} {U : State} {H : Heap} (h : vx_L C n d A U H) (hAB : ∀ q, B q → A q) : vx_L C n d B U H := by
  obtain ⟨c, k, i, f, a, cell, h1, h2, h3, h4, h5, h6, h7, h8, h9, h10⟩ := h
  exact ⟨c, k, i, f, a, cell, h1, h2, h3, h4, h5, h6, h7, h8, h9, fun z => h10 (hAB _ z)⟩
theorem vx_L.word {C n d : String} {A : Nat → Prop} {s : State} {args : Array Value} (h : vx_L C n d A s s.heap) : (Cond.laysStatic C n d).before args s = true := by
  obtain ⟨c, k, i, f, a, cell, h1, h2, h3, h4, h5, h6, h7, h8, h9, -⟩ := h
  show (Cond.laysStatic C n d).holds args s none s [] = true
  exact Cond.laysStatic_of h1 h2 h3 h4 h5 h6 h7 h8 h9
/-- .. and what it holds: null or some reference -/
def vx_Zq (C n d : String) (A : Nat → Prop) (U : State) (H : Heap) : Prop := va_Zq C n d A U H ∧ vx_L C n d A U H
theorem vx_Zq.moved {C n d : String} {A : Nat → Prop} {u U : State} {H : Heap} (hvm : u.vm.Alike U.vm) (h : vx_Zq C n d A u H) : vx_Zq C n d A U H := ⟨va_Zq.moved hvm h.1, vx_L.moved hvm h.2⟩
theorem vx_Zq.kept {C n d : String} {A : Nat → Prop} {U : State} {H H1 : Heap} (h : vx_Zq C n d A U H) (hq : ∀ a : Nat, a < H.size → ¬ A a → H1[a]? = H[a]?) : vx_Zq C n d A U H1 := ⟨va_Zq.kept h.1 hq, vx_L.kept h.2 hq⟩
theorem vx_Zq.narrow {C n d : String} {A B : Nat → Prop} {U : State} {H : Heap} (h : vx_Zq C n d A U H) (hAB : ∀ q, B q → A q) : vx_Zq C n d B U H := ⟨va_Zq.narrow h.1 hAB, vx_L.narrow h.2 hAB⟩
theorem vx_Zqof {args : Array Value} {s : State} {C n d : String} {A : Nat → Prop} (hl : (Cond.laysStatic C n d).before args s = true) (hini : (Cond.initialized C).before args s = true) (h : (Cond.isRef (.static C n d)).before args s = true) (hA : ∀ a : Nat, a < s.heap.size → ¬ A a) : vx_Zq C n d A s s.heap := by
  refine ⟨va_Zqof hl hini h hA, ?_⟩
  obtain ⟨c, k, i, f, a, cell, h1, h2, h3, h4, h5, h6, h7, h8, h9⟩ := Cond.laysStatic_spec hl
  exact ⟨c, k, i, f, a, cell, h1, h2, h3, h4, h5, h6, h7, h8, h9, hA a (Array.getElem?_eq_some_iff.mp h5).1⟩
theorem vx_isRef {C n d : String} {v : Value} {A : Nat → Prop} {s : State} {args : Array Value} (h : va_Z C n d v A s s.heap) (hv : v.isRef = true) : (Cond.isRef (.static C n d)).before args s = true := by
  obtain ⟨cf, kf, fi, f, a, cell, h1, h2, h3, h4, h5, h6, h7, -⟩ := h
  have he : (Term.static C n d).eval args s none [] s = some v := by
    simp [Term.eval, State.fieldNamed?, h1, h2, h4, h5, h6, h7]
  simp only [Cond.before, Cond.holds, Cond.value, he]
  cases v <;> simp_all [Value.isRef]
theorem vx_isRefq {C n d : String} {A : Nat → Prop} {s : State} {args : Array Value} (h : va_Zq C n d A s s.heap) : (Cond.isRef (.static C n d)).before args s = true := by
  rcases h with h | ⟨t, h⟩
  · exact vx_isRef h rfl
  · exact vx_isRef h rfl
/-- the same frame, seen from here: as if the method were called anew in this heap -/
theorem vx_rebase {T : State} (X : Stand p l e R s m args below meth c T locs cells slots) {R' : Room} (hf : R'.frames ≤ R.frames) (hl : R'.locals ≤ R.locals) (hc : cells + R'.cells ≤ R.cells) (hs : slots + R'.slots ≤ R.slots) :
    Stand p l e R' ((T.setVm s.vm).setFrames (.invoking m args :: below)) m args below meth c T [] 0 0 := by
  have htop : (T.setVm s.vm).topJava?.isSome := X.here.top
  have hF : ((T.setVm s.vm).setFrames (.invoking m args :: below)).frames = .invoking m args :: below := State.frames_setFrames _ (State.cur_lt_of_top htop)
  obtain ⟨g₀, hg0⟩ := Option.isSome_iff_exists.mp htop
  obtain ⟨r, hr⟩ := State.topJava?_eq_some.mp hg0
  have hl9 : e.platform.stackLimits (T.setVm s.vm).me = e.platform.stackLimits s.me := X.limits
  have hb9 : (T.setVm s.vm).me.stackBytes = s.me.stackBytes := X.bytes
  refine ⟨X.admits, X.cas, X.clock, hF, ?_, X.hears, X.method, X.code, X.here, X.tail, X.warmed, ?_, ?_, ?_⟩
  · have h := X.room
    have hU : ((T.setVm s.vm).setFrames (.invoking m args :: below)).localsInUse = s.localsInUse := by
      rw [State.localsInUse_invoking hF (meth := meth) (c := c) X.method X.code, State.localsInUse_invoking X.frames X.method X.code]
    simp only [State.hasRoom, Bool.and_eq_true, decide_eq_true_eq] at h ⊢
    obtain ⟨⟨⟨⟨h1, h2, h3, h4, h5, h6⟩, h7⟩, h8⟩, h9⟩ := h
    rw [X.frames, List.length_cons] at h2 h3
    have q1 := X.heapSize
    have q2 := X.used
    simp only [hF, hU, List.length_cons, State.stackLimits_setFrames, State.stackBytes_setFrames, hl9, hb9]
    refine ⟨⟨⟨⟨by omega, by omega, by omega, by omega, by omega, h6⟩, ?_⟩, ?_⟩, X.book⟩
    · show T.heap.size + R'.cells ≤ e.platform.maxCells
      omega
    · show T.slotsUsed + R'.slots ≤ e.platform.maxSlots
      omega
  · rw [State.stackLimits_setFrames]; rfl
  · rw [State.stackBytes_setFrames]; rfl
  · refine ⟨?_, Nat.le_refl _, Nat.le_refl _, ?_, ?_, fun a c9 h9 => ⟨c9, h9, rfl, rfl, fun _ _ => rfl⟩⟩
    · obtain ⟨t, ht, -⟩ := State.frames_cons hr
      show T.setVm s.vm = { ((T.setVm s.vm).setFrames (.invoking m args :: below)).setFrames (T.setVm s.vm).frames with heap := T.heap, slotsUsed := T.slotsUsed }
      rw [State.setFrames_setFrames, State.setFrames_self ht]
      rfl
    · show T.slotsUsed = T.slotsUsed + ((T.heap.toList.drop T.heap.size).map (·.slots.size)).sum
      rw [List.drop_eq_nil_of_le (Nat.le_of_eq Array.length_toList)]
      rfl
    · show ((T.heap.toList.drop T.heap.size).map (·.slots.size)).sum ≤ 0
      rw [List.drop_eq_nil_of_le (Nat.le_of_eq Array.length_toList)]
      exact Nat.le_refl _
/-- 'throw new E()': new; dup; invokespecial; athrow -/
theorem vx_throw0 {cc : ByteArray} {pc : Nat} (hexec : p.tables.exec = Jvm.exec) (hb : c.code = cc) (hl : l.stackTraces = false) {own cls : String} {names : List String} {ik ic mc ms : Nat} {A : Nat → Prop}
    (hown : s.vm.findClass own = some m.cls) (hcls : Bundle.fit cls = true) (hnames : ∀ n ∈ names, Bundle.fit n = true)
    (hk : (Cond.classLink own ik cls).before args s = true) (hini : (Cond.initialized cls).before args s = true) (hat : ∀ w ∈ vx_at0 own ic cls names, w.before args s = true)
    (hgood : ∀ w ∈ Cond.classLink own ik cls :: Cond.initialized cls :: vx_at0 own ic cls names, vx_ot w = true)
    (hU : vx_Zq Bundle.tN "UNASSIGNED_STACK" Bundle.steD A s s.heap) (hN : vx_Zq Bundle.tN "SUPPRESSED_SENTINEL" Bundle.listD A s s.heap) (hS : va_S A s.heap H locs) (hsize : ls.size = c.maxLocals)
    (d0 : decode cc pc = .ok (.new ik, 3)) (d3 : decode cc (pc + 3) = .ok (.dup, 1)) (d4 : decode cc (pc + 4) = .ok (.invokespecial ic, 3)) (d7 : decode cc (pc + 7) = .ok (.athrow, 1))
    (hout : ∀ x ∈ c.exceptionTable.toList, covers x (pc + 7) = false)
    (hRframes : names.length + 3 < R.frames) (hRlocals : (rest.map fun v => v.category).sum + (13 * (names.length + 1) + 42) ≤ R.locals) (hRcells : cells + 1 ≤ R.cells) (hRslots : slots + 6 ≤ R.slots) (hlocks : meth.locks = false)
    (hx : ∀ t : State, s.vm.Alike t.vm → H.size ≤ t.heap.size → (∀ q : Nat, q < H.size → t.heap[q]? = H[q]?) → XC cls s t)
    (hf : ∀ z ∈ locs, free z.base) (hc : cells + 1 ≤ mc) (hs : slots + 6 ≤ ms) :
    W p l e R s m args below meth c H locs cells slots (vx_MQ below Qc XC args s mc ms free) (F0 m pc ls rest) := by
  intro T hT X
  have htr : e.platform.stackTraces = false := (show e.platform.stackTraces = l.stackTraces by rw [X.admits.platform]).trans hl
  have Y := vx_rebase X (R' := { frames := R.frames, locals := R.locals, cells := 1, slots := 6 }) (Nat.le_refl _) (Nat.le_refl _) hRcells hRslots
  obtain ⟨s', hA⟩ : ∃ z, z = (T.setVm s.vm).setFrames (.invoking m args :: below) := ⟨_, rfl⟩
  rw [← hA] at Y
  have hvm : s'.vm = s.vm := by rw [hA]; rfl
  have hhp : s'.heap = H := by rw [hA]; exact hT
  have hW0 : s.WarmedH s'.vm := by rw [hvm]; exact State.WarmedH.refl s
  have hat' : ∀ w ∈ vx_at0 own ic cls names, w.before args s' = true := fun w hw => vx_ot_at hW0 hvm.symm (hgood w (List.mem_cons_of_mem _ (List.mem_cons_of_mem _ hw))) (hat w hw)
  have hk' : (Cond.classLink own ik cls).before args s' = true := vx_ot_at hW0 hvm.symm (hgood _ List.mem_cons_self) hk
  have hini' : (Cond.initialized cls).before args s' = true := vx_ot_at hW0 hvm.symm (hgood _ (List.mem_cons_of_mem _ List.mem_cons_self)) hini
  have hU' : vx_Zq Bundle.tN "UNASSIGNED_STACK" Bundle.steD A s' s'.heap := by rw [hhp]; exact vx_Zq.moved hW0.alike (hU.kept hS.2.1)
  have hN' : vx_Zq Bundle.tN "SUPPRESSED_SENTINEL" Bundle.listD A s' s'.heap := by rw [hhp]; exact vx_Zq.moved hW0.alike (hN.kept hS.2.1)
  have h : ∀ w ∈ Bundle.ownAtoms0 own ic cls names, w.before args s' = true := vx_own hat' (vx_isRefq hU'.1) (vx_isRefq hN'.1) hU'.2.word hN'.2.word
  have hown' : s'.vm.findClass own = some m.cls := by rw [hvm]; exact hown
  have hins : (Cond.instantiable cls 6).before args s' = true := h _ (by simp [Bundle.ownAtoms0])
  obtain ⟨vm₁, cX, kX, hfX, hkX, -, -, X₁, st1⟩ := Y.newCold hexec (own := own) (C := cls) (index := ik) (n := 6) hown' hk' hins hini'
    (g := F0 m pc ls rest) rfl (by rw [hb]; exact d0) (Nat.le_refl _) (Nat.le_refl _)
  generalize hT1 : (T.setVm vm₁).pushCell { cls := cX, slots := kX.instanceTypes.map defaultValue, vm := .none } = T1 at X₁ st1
  have hcat : (Value.ref T.heap.size).category = 1 := rfl
  have hcellA : T1.heap[T.heap.size]? = some (freshCell cX kX) := by rw [← hT1]; exact State.heap_pushCell_size _ _
  have d3' : decode c.code (pc + 3) = .ok (.dup, 1) := by rw [hb]; exact d3
  obtain ⟨U, hsteps, hrun, hend, hW, hsame, ce, hce, hO⟩ := X₁.ctorThrow0 hexec htr (own := own) (cls := cls) (names := names) (ic := ic) hown' hcls hnames h (fun x hx => nomatch hx) hfX hkX hcellA (by rw [hhp, hT]; exact Nat.le_refl _)
    (g := { method := m, pc := pc + 4, locals := ls, stack := .ref T.heap.size :: .ref T.heap.size :: rest, locked := none }) rfl hsize rfl rfl (rest := rest) rfl
    (by rw [hb]; exact d4) (by rw [hb]; exact d7) hout hRframes (by simp only [List.map_cons, List.sum_cons, hcat]; omega) hlocks
  obtain ⟨f1, f2⟩ := vx_frame hsame
  rw [hhp] at f1 f2
  have hWs : s.WarmedH U.vm := State.WarmedH.trans hW0 hW
  have hcl : s.vm.findClass cls = some ce.cls := by
    have h9 := hO.cls
    rw [hvm] at h9
    exact h9
  have hall : s.sameButNew ({ U with vm := s.vm } : State) locs mc ms := by
    subst hA
    obtain ⟨e1, e2⟩ := hsame
    rw [State.setFrames_setFrames] at e1
    have h2 : (T.setVm s.vm).sameButNew ({ U with vm := s.vm } : State) [] (0 + 1) (0 + 6) := ⟨e1, e2⟩
    have h3 := X.same.trans h2
    rw [List.append_nil] at h3
    exact h3.mono hc hs
  refine ⟨U, ?_, .threw T.heap.size, hrun, hend, Or.inr ⟨T.heap.size, rfl, cls, ce, locs, hx U hWs.alike f1 (fun q hq => f2 q hq (fun z hz => nomatch hz)), hce, hO.vm, hcl, hWs, hall, hf⟩⟩
  refine st1 _ ?_
  show Steps p.tables e below (T1.setTop { method := m, pc := pc + 3, locals := ls, stack := .ref T.heap.size :: rest, locked := none }) _
  jvm_step X₁.here [X₁.here.top, hexec, d3', Value.category]
  exact hsteps
/-- 'throw new E("text")': new; dup; ldc; invokespecial; athrow -/
theorem vx_throwS {cc : ByteArray} {pc : Nat} (hexec : p.tables.exec = Jvm.exec) (hb : c.code = cc) (hl : l.stackTraces = false) {own cls text : String} {names : List String} {ik is ic mc ms sa : Nat} {A : Nat → Prop}
    (hown : s.vm.findClass own = some m.cls) (hcls : Bundle.fit cls = true) (hnames : ∀ n ∈ names, Bundle.fit n = true)
    (hk : (Cond.classLink own ik cls).before args s = true) (hini : (Cond.initialized cls).before args s = true) (hstr : vk_R own is text sa s) (hat : ∀ w ∈ vx_atS own ic cls names, w.before args s = true)
    (hgood : ∀ w ∈ Cond.classLink own ik cls :: Cond.initialized cls :: vx_atS own ic cls names, vx_ot w = true)
    (hU : vx_Zq Bundle.tN "UNASSIGNED_STACK" Bundle.steD A s s.heap) (hN : vx_Zq Bundle.tN "SUPPRESSED_SENTINEL" Bundle.listD A s s.heap) (hS : va_S A s.heap H locs) (hsize : ls.size = c.maxLocals)
    (d0 : decode cc pc = .ok (.new ik, 3)) (d3 : decode cc (pc + 3) = .ok (.dup, 1)) (d4 : decode cc (pc + 4) = .ok (.ldc is, 2)) (d6 : decode cc (pc + 6) = .ok (.invokespecial ic, 3)) (d9 : decode cc (pc + 9) = .ok (.athrow, 1))
    (hout : ∀ x ∈ c.exceptionTable.toList, covers x (pc + 9) = false)
    (hRframes : names.length + 3 < R.frames) (hRlocals : (rest.map fun v => v.category).sum + (13 * (names.length + 1) + 43) ≤ R.locals) (hRcells : cells + 1 ≤ R.cells) (hRslots : slots + 6 ≤ R.slots) (hlocks : meth.locks = false)
    (hx : ∀ t : State, s.vm.Alike t.vm → H.size ≤ t.heap.size → (∀ q : Nat, q < H.size → t.heap[q]? = H[q]?) → XC cls s t)
    (hf : ∀ z ∈ locs, free z.base) (hc : cells + 1 ≤ mc) (hs : slots + 6 ≤ ms) :
    W p l e R s m args below meth c H locs cells slots (vx_MQ below Qc XC args s mc ms free) (F0 m pc ls rest) := by
  intro T hT X
  have htr : e.platform.stackTraces = false := (show e.platform.stackTraces = l.stackTraces by rw [X.admits.platform]).trans hl
  have Y := vx_rebase X (R' := { frames := R.frames, locals := R.locals, cells := 1, slots := 6 }) (Nat.le_refl _) (Nat.le_refl _) hRcells hRslots
  obtain ⟨s', hA⟩ : ∃ z, z = (T.setVm s.vm).setFrames (.invoking m args :: below) := ⟨_, rfl⟩
  rw [← hA] at Y
  have hvm : s'.vm = s.vm := by rw [hA]; rfl
  have hhp : s'.heap = H := by rw [hA]; exact hT
  have hW0 : s.WarmedH s'.vm := by rw [hvm]; exact State.WarmedH.refl s
  have hat' : ∀ w ∈ vx_atS own ic cls names, w.before args s' = true := fun w hw => vx_ot_at hW0 hvm.symm (hgood w (List.mem_cons_of_mem _ (List.mem_cons_of_mem _ hw))) (hat w hw)
  have hk' : (Cond.classLink own ik cls).before args s' = true := vx_ot_at hW0 hvm.symm (hgood _ List.mem_cons_self) hk
  have hini' : (Cond.initialized cls).before args s' = true := vx_ot_at hW0 hvm.symm (hgood _ (List.mem_cons_of_mem _ List.mem_cons_self)) hini
  have hU' : vx_Zq Bundle.tN "UNASSIGNED_STACK" Bundle.steD A s' s'.heap := by rw [hhp]; exact vx_Zq.moved hW0.alike (hU.kept hS.2.1)
  have hN' : vx_Zq Bundle.tN "SUPPRESSED_SENTINEL" Bundle.listD A s' s'.heap := by rw [hhp]; exact vx_Zq.moved hW0.alike (hN.kept hS.2.1)
  have h : ∀ w ∈ Bundle.ownAtoms own ic cls names, w.before args s' = true := vx_own hat' (vx_isRefq hU'.1) (vx_isRefq hN'.1) hU'.2.word hN'.2.word
  have hown' : s'.vm.findClass own = some m.cls := by rw [hvm]; exact hown
  have hins : (Cond.instantiable cls 6).before args s' = true := h _ (by simp [Bundle.ownAtoms])
  obtain ⟨vm₁, cX, kX, hfX, hkX, -, -, X₁, st1⟩ := Y.newCold hexec (own := own) (C := cls) (index := ik) (n := 6) hown' hk' hins hini'
    (g := F0 m pc ls rest) rfl (by rw [hb]; exact d0) (Nat.le_refl _) (Nat.le_refl _)
  generalize hT1 : (T.setVm vm₁).pushCell { cls := cX, slots := kX.instanceTypes.map defaultValue, vm := .none } = T1 at X₁ st1
  have hcat : (Value.ref T.heap.size).category = 1 := rfl
  have hcellA : T1.heap[T.heap.size]? = some (freshCell cX kX) := by rw [← hT1]; exact State.heap_pushCell_size _ _
  have d3' : decode c.code (pc + 3) = .ok (.dup, 1) := by rw [hb]; exact d3
  have d4' : decode c.code (pc + 4) = .ok (.ldc is, 2) := by rw [hb]; exact d4
  have hstr' : vk_R own is text sa s' := vk_R.warm hW0 hstr
  obtain ⟨U, hsteps, hrun, hend, hW, hsame, ce, hce, hO⟩ := X₁.ctorThrowS hexec htr (own := own) (cls := cls) (names := names) (ic := ic) hown' hcls hnames h (fun x hx => nomatch hx) hfX hkX hcellA (by rw [hhp, hT]; exact Nat.le_refl _) (msg := .ref sa) rfl
    (g := { method := m, pc := pc + 6, locals := ls, stack := .ref sa :: .ref T.heap.size :: .ref T.heap.size :: rest, locked := none }) rfl hsize rfl rfl (rest := rest) rfl
    (by rw [hb]; exact d6) (by rw [hb]; exact d9) hout hRframes (by simp only [List.map_cons, List.sum_cons, hcat]; omega) hlocks
  obtain ⟨f1, f2⟩ := vx_frame hsame
  rw [hhp] at f1 f2
  have hWs : s.WarmedH U.vm := State.WarmedH.trans hW0 hW
  have hcl : s.vm.findClass cls = some ce.cls := by
    have h9 := hO.cls
    rw [hvm] at h9
    exact h9
  have hall : s.sameButNew ({ U with vm := s.vm } : State) locs mc ms := by
    subst hA
    obtain ⟨e1, e2⟩ := hsame
    rw [State.setFrames_setFrames] at e1
    have h2 : (T.setVm s.vm).sameButNew ({ U with vm := s.vm } : State) [] (0 + 1) (0 + 6) := ⟨e1, e2⟩
    have h3 := X.same.trans h2
    rw [List.append_nil] at h3
    exact h3.mono hc hs
  refine ⟨U, ?_, .threw T.heap.size, hrun, hend, Or.inr ⟨T.heap.size, rfl, cls, ce, locs, hx U hWs.alike f1 (fun q hq => f2 q hq (fun z hz => nomatch hz)), hce, hO.vm, hcl, hWs, hall, hf⟩⟩
  refine st1 _ ?_
  show Steps p.tables e below (T1.setTop { method := m, pc := pc + 3, locals := ls, stack := .ref T.heap.size :: rest, locked := none }) _
  jvm_step X₁.here [X₁.here.top, hexec, d3', Value.category]
  exact X₁.ldcString hexec (own := own) (text := text) (index := is) (a := sa) hown' hstr'.1 hstr'.2
    (g := { method := m, pc := pc + 4, locals := ls, stack := .ref T.heap.size :: .ref T.heap.size :: rest, locked := none }) rfl d4' _ hsteps
/-- 'throw new E("text")', the text by a wide index -/
theorem vx_throwSW {cc : ByteArray} {pc : Nat} (hexec : p.tables.exec = Jvm.exec) (hb : c.code = cc) (hl : l.stackTraces = false) {own cls text : String} {names : List String} {ik is ic mc ms sa : Nat} {A : Nat → Prop}
    (hown : s.vm.findClass own = some m.cls) (hcls : Bundle.fit cls = true) (hnames : ∀ n ∈ names, Bundle.fit n = true)
    (hk : (Cond.classLink own ik cls).before args s = true) (hini : (Cond.initialized cls).before args s = true) (hstr : vk_R own is text sa s) (hat : ∀ w ∈ vx_atS own ic cls names, w.before args s = true)
    (hgood : ∀ w ∈ Cond.classLink own ik cls :: Cond.initialized cls :: vx_atS own ic cls names, vx_ot w = true)
    (hU : vx_Zq Bundle.tN "UNASSIGNED_STACK" Bundle.steD A s s.heap) (hN : vx_Zq Bundle.tN "SUPPRESSED_SENTINEL" Bundle.listD A s s.heap) (hS : va_S A s.heap H locs) (hsize : ls.size = c.maxLocals)
    (d0 : decode cc pc = .ok (.new ik, 3)) (d3 : decode cc (pc + 3) = .ok (.dup, 1)) (d4 : decode cc (pc + 4) = .ok (.ldc_w is, 3)) (d7 : decode cc (pc + 7) = .ok (.invokespecial ic, 3)) (d10 : decode cc (pc + 10) = .ok (.athrow, 1))
    (hout : ∀ x ∈ c.exceptionTable.toList, covers x (pc + 10) = false)
    (hRframes : names.length + 3 < R.frames) (hRlocals : (rest.map fun v => v.category).sum + (13 * (names.length + 1) + 43) ≤ R.locals) (hRcells : cells + 1 ≤ R.cells) (hRslots : slots + 6 ≤ R.slots) (hlocks : meth.locks = false)
    (hx : ∀ t : State, s.vm.Alike t.vm → H.size ≤ t.heap.size → (∀ q : Nat, q < H.size → t.heap[q]? = H[q]?) → XC cls s t)
    (hf : ∀ z ∈ locs, free z.base) (hc : cells + 1 ≤ mc) (hs : slots + 6 ≤ ms) :
    W p l e R s m args below meth c H locs cells slots (vx_MQ below Qc XC args s mc ms free) (F0 m pc ls rest) := by
  intro T hT X
  have htr : e.platform.stackTraces = false := (show e.platform.stackTraces = l.stackTraces by rw [X.admits.platform]).trans hl
  have Y := vx_rebase X (R' := { frames := R.frames, locals := R.locals, cells := 1, slots := 6 }) (Nat.le_refl _) (Nat.le_refl _) hRcells hRslots
  obtain ⟨s', hA⟩ : ∃ z, z = (T.setVm s.vm).setFrames (.invoking m args :: below) := ⟨_, rfl⟩
  rw [← hA] at Y
  have hvm : s'.vm = s.vm := by rw [hA]; rfl
  have hhp : s'.heap = H := by rw [hA]; exact hT
  have hW0 : s.WarmedH s'.vm := by rw [hvm]; exact State.WarmedH.refl s
  have hat' : ∀ w ∈ vx_atS own ic cls names, w.before args s' = true := fun w hw => vx_ot_at hW0 hvm.symm (hgood w (List.mem_cons_of_mem _ (List.mem_cons_of_mem _ hw))) (hat w hw)
  have hk' : (Cond.classLink own ik cls).before args s' = true := vx_ot_at hW0 hvm.symm (hgood _ List.mem_cons_self) hk
  have hini' : (Cond.initialized cls).before args s' = true := vx_ot_at hW0 hvm.symm (hgood _ (List.mem_cons_of_mem _ List.mem_cons_self)) hini
  have hU' : vx_Zq Bundle.tN "UNASSIGNED_STACK" Bundle.steD A s' s'.heap := by rw [hhp]; exact vx_Zq.moved hW0.alike (hU.kept hS.2.1)
  have hN' : vx_Zq Bundle.tN "SUPPRESSED_SENTINEL" Bundle.listD A s' s'.heap := by rw [hhp]; exact vx_Zq.moved hW0.alike (hN.kept hS.2.1)
  have h : ∀ w ∈ Bundle.ownAtoms own ic cls names, w.before args s' = true := vx_own hat' (vx_isRefq hU'.1) (vx_isRefq hN'.1) hU'.2.word hN'.2.word
  have hown' : s'.vm.findClass own = some m.cls := by rw [hvm]; exact hown
  have hins : (Cond.instantiable cls 6).before args s' = true := h _ (by simp [Bundle.ownAtoms])
  obtain ⟨vm₁, cX, kX, hfX, hkX, -, -, X₁, st1⟩ := Y.newCold hexec (own := own) (C := cls) (index := ik) (n := 6) hown' hk' hins hini'
    (g := F0 m pc ls rest) rfl (by rw [hb]; exact d0) (Nat.le_refl _) (Nat.le_refl _)
  generalize hT1 : (T.setVm vm₁).pushCell { cls := cX, slots := kX.instanceTypes.map defaultValue, vm := .none } = T1 at X₁ st1
  have hcat : (Value.ref T.heap.size).category = 1 := rfl
  have hcellA : T1.heap[T.heap.size]? = some (freshCell cX kX) := by rw [← hT1]; exact State.heap_pushCell_size _ _
  have d3' : decode c.code (pc + 3) = .ok (.dup, 1) := by rw [hb]; exact d3
  have d4' : decode c.code (pc + 4) = .ok (.ldc_w is, 3) := by rw [hb]; exact d4
  have hstr' : vk_R own is text sa s' := vk_R.warm hW0 hstr
  obtain ⟨U, hsteps, hrun, hend, hW, hsame, ce, hce, hO⟩ := X₁.ctorThrowS hexec htr (own := own) (cls := cls) (names := names) (ic := ic) hown' hcls hnames h (fun x hx => nomatch hx) hfX hkX hcellA (by rw [hhp, hT]; exact Nat.le_refl _) (msg := .ref sa) rfl
    (g := { method := m, pc := pc + 7, locals := ls, stack := .ref sa :: .ref T.heap.size :: .ref T.heap.size :: rest, locked := none }) rfl hsize rfl rfl (rest := rest) rfl
    (by rw [hb]; exact d7) (by rw [hb]; exact d10) hout hRframes (by simp only [List.map_cons, List.sum_cons, hcat]; omega) hlocks
  obtain ⟨f1, f2⟩ := vx_frame hsame
  rw [hhp] at f1 f2
  have hWs : s.WarmedH U.vm := State.WarmedH.trans hW0 hW
  have hcl : s.vm.findClass cls = some ce.cls := by
    have h9 := hO.cls
    rw [hvm] at h9
    exact h9
  have hall : s.sameButNew ({ U with vm := s.vm } : State) locs mc ms := by
    subst hA
    obtain ⟨e1, e2⟩ := hsame
    rw [State.setFrames_setFrames] at e1
    have h2 : (T.setVm s.vm).sameButNew ({ U with vm := s.vm } : State) [] (0 + 1) (0 + 6) := ⟨e1, e2⟩
    have h3 := X.same.trans h2
    rw [List.append_nil] at h3
    exact h3.mono hc hs
  refine ⟨U, ?_, .threw T.heap.size, hrun, hend, Or.inr ⟨T.heap.size, rfl, cls, ce, locs, hx U hWs.alike f1 (fun q hq => f2 q hq (fun z hz => nomatch hz)), hce, hO.vm, hcl, hWs, hall, hf⟩⟩
  refine st1 _ ?_
  show Steps p.tables e below (T1.setTop { method := m, pc := pc + 3, locals := ls, stack := .ref T.heap.size :: rest, locked := none }) _
  jvm_step X₁.here [X₁.here.top, hexec, d3', Value.category]
  exact X₁.ldcStringW hexec (own := own) (text := text) (index := is) (a := sa) hown' hstr'.1 hstr'.2
    (g := { method := m, pc := pc + 4, locals := ls, stack := .ref T.heap.size :: .ref T.heap.size :: rest, locked := none }) rfl d4' _ hsteps
end Ends
section Bodies
variable {l : Launch}
theorem vx_ofW {y : MethodName} {ws ws' : List Cond} {rm : Room} {Pc : Array Value → State → Prop} {Qc : Array Value → State → Outcome → State → Prop} {XC : String → State → State → Prop} {mc ms : Nat} {free : Addr → Prop} {cc : ByteArray} {maxL : Nat} {ret : Option FieldType}
    (hy : plainName y.cls = true) (hw : ws = Cond.code y cc maxL ret :: ws')
    (body : ∀ p e s m args below meth c s₁, BodyLoose p l y (headSpec ws rm) cc maxL ret e s m args below meth c s₁ → c.maxLocals = maxL → (∀ x ∈ c.exceptionTable.toList, False) → Pc args s →
      W p l e (headSpec ws rm).room s m args below meth c s.heap [] 0 0 (vx_MQ below Qc XC args s mc ms free) (entryFrame m args maxL)) : vx_Met l y ws rm Pc Qc XC mc ms free := by
  refine MetFree.of_bodyS (code := cc) (maxLocals := maxL) (ret := ret) hy ?_ ?_
  · intro args s m h hn
    obtain ⟨meth, c, h1, h2, h3, h4, h5, h6, -, -⟩ := Cond.code_spec hn (atoms_spec (ws := ws) h _ (by rw [hw]; exact List.mem_cons_self))
    exact ⟨meth, c, h1, h2, h3, h4, h5, h6⟩
  · intro p e s m args below meth c s₁ B hml hP _
    have hh0 : s₁.heap = s.heap := by rw [B.state]; rfl
    have ht : ∀ x ∈ c.exceptionTable.toList, False := by
      obtain ⟨meth9, c9, h1, h2, -, -, -, -, h7, -⟩ := Cond.code_spec B.named (atoms_spec (ws := ws) B.pre _ (by rw [hw]; exact List.mem_cons_self))
      cases Option.some.inj (h1.symm.trans B.method)
      cases Option.some.inj (h2.symm.trans (Stand.of_body B).code)
      intro x hx
      rw [Array.isEmpty_iff.mp h7] at hx
      cases hx
    obtain ⟨t, a1, o, b1, b2, b3⟩ := body p e s m args below meth c s₁ B hml ht hP s₁ hh0 (Stand.of_body B)
    exact ⟨t, o, a1, b1, b2, b3⟩
/-- the table of a body with handlers -/
theorem vx_table {p : Program} {x y : MethodName} {S : Spec} {cc bytes : ByteArray} {maxL maxL' : Nat} {ret ret' : Option FieldType} {e : Env} {s s₁ : State} {m : MethodId} {args : Array Value} {below : List Frame} {meth : Method} {c : Code} {hh : List (Nat × Nat × Nat × Nat)}
    (B : BodyLoose p l y S cc maxL ret e s m args below meth c s₁) (h : (Cond.codeWith y bytes maxL' ret' hh).before args s = true) : c.exceptionTable.toList = tableOf hh := by
  obtain ⟨m9, meth9, c9, hn9, h1, h2, -, -, h6, -⟩ := Cond.codeWith_spec h
  cases Option.some.inj (hn9.symm.trans B.named)
  cases Option.some.inj (h1.symm.trans B.method)
  cases Option.some.inj (h2.symm.trans (Stand.of_body B).code)
  rw [← h6, table_eq]
end Bodies
end VXA
/-! ===== END ===== -/
/-! ===== BEGIN a static call of a method with an exception table ===== -/
section VXS
variable {p : Program} {l : Launch} {e : Env} {R : Room} {s : State} {m : MethodId} {args : Array Value} {below : List Frame} {meth : Method} {c : Code} {T : State} {H : Heap} {locs : List Loc} {cells slots : Nat}
abbrev vx_CSW (R : Room) (s : State) (args : Array Value) (own : String) (index : Nat) (y : MethodName) (bytes : ByteArray) (maxL : Nat) (ret : Option FieldType) (hh : List (Nat × Nat × Nat × Nat)) (ws : List Cond) (rm : Room) (mc ms n : Nat) : Prop :=
  (rm.cells = mc ∧ rm.slots = ms ∧ rm.frames + 1 ≤ R.frames ∧ 8 + (maxL + 11) + rm.locals ≤ R.locals ∧ (∀ w ∈ ws, ∀ (a' : Array Value) (U : State), s.WarmedH U.vm → w.before a' U = true) ∧ Cond.codeWith y bytes maxL ret hh ∈ ws) ∧
  (Cond.codeWith y bytes maxL ret hh).before args s = true ∧ (Cond.initialized y.cls).before args s = true ∧ (y.cls ≠ "java/lang/invoke/MethodHandle" ∧ y.cls ≠ "java/lang/invoke/VarHandle") ∧
  (∀ sig, parseMethodDescriptor y.desc = some sig → n = sig.parameters.length) ∧ (Cond.methodLink own index y).before args s = true ∧ (Cond.static y).before args s = true
theorem vx_cwSW {own : String} {index maxL mc ms : Nat} {y : MethodName} {bytes : ByteArray} {ret : Option FieldType} {hh : List (Nat × Nat × Nat × Nat)} {Ts ws ws' : List Cond} {rm : Room} (n : Nat) (ht : ∀ w ∈ Ts, w.before args s = true) (hT : GoodIn Ts (va_wsS own index y ws)) (hw : ws = Cond.codeWith y bytes maxL ret hh :: ws') (hrc : rm.cells = mc) (hrs : rm.slots = ms)
    (hd : y.cls ≠ "java/lang/invoke/MethodHandle" ∧ y.cls ≠ "java/lang/invoke/VarHandle" ∧ (parseMethodDescriptor y.desc).map (fun d => d.parameters.length) = some n) (hR : rm.frames + 1 ≤ R.frames ∧ 8 + (maxL + 11) + rm.locals ≤ R.locals) :
    vx_CSW R s args own index y bytes maxL ret hh ws rm mc ms n := by
  have ok : ∀ w ∈ va_wsS own index y ws, w.before args s = true := fun w h => ht w (hT w h).1
  have hG : GoodIn Ts ws := fun w h => hT w (by unfold va_wsS; exact List.mem_append_right _ h)
  have hc : Cond.codeWith y bytes maxL ret hh ∈ ws := by rw [hw]; exact List.mem_cons_self
  refine ⟨⟨hrc, hrs, hR.1, hR.2, pay_in ht hG, hc⟩, ht _ (hG _ hc).1, ok _ (by simp [va_wsS]), ⟨hd.1, hd.2.1⟩, fun sig h => ?_, ok _ (by simp [va_wsS]), ok _ (by simp [va_wsS])⟩
  have h2 := hd.2.2
  rw [h] at h2
  exact (Option.some.inj h2).symm
theorem vx_callSW (X : Stand p l e R s m args below meth c T locs cells slots) (hexec : p.tables.exec = Jvm.exec) {own : String} {index : Nat} {y : MethodName} {bytes : ByteArray} {maxL : Nat} {ret : Option FieldType} {hh : List (Nat × Nat × Nat × Nat)}
    (hown : s.vm.findClass own = some m.cls) (hlink : (Cond.methodLink own index y).before args s = true) (hstat : (Cond.static y).before args s = true) (hinit : (Cond.initialized y.cls).before args s = true)
    (hcode : (Cond.codeWith y bytes maxL ret hh).before args s = true) (hy : y.cls ≠ "java/lang/invoke/MethodHandle" ∧ y.cls ≠ "java/lang/invoke/VarHandle")
    {W9 : Nat} {Pre : Pt → Array Value → Prop} {Post : Pt → Array Value → Option Value → Pt → Prop} (hK : Back l R p e below s args y 3 W9 Pre Post)
    {g : JFrame} (hg : g.method = m) (hsize : g.locals.size = c.maxLocals) {argsL rest : List Value} (hlen : ∀ sig, parseMethodDescriptor y.desc = some sig → argsL.length = sig.parameters.length)
    (hstack : g.stack = argsL.reverse ++ rest) (hW : 2 * g.monitorRoom + (rest.map fun v => v.category).sum ≤ W9) (hdg : decode c.code g.pc = .ok (.invokestatic index, 3))
    (hpre : ∀ vm₁, s.WarmedH vm₁ → Pre ⟨T.setVm vm₁, locs, cells, slots⟩ argsL.toArray) :
    ∃ (v : Option Value) (vm₁ : Vm) (B : Pt), s.WarmedH vm₁ ∧ Stand p l e R s m args below meth c B.U B.locs B.cells B.slots ∧ Post ⟨T.setVm vm₁, locs, cells, slots⟩ argsL.toArray v B ∧
      ∀ target, Steps p.tables e below (B.U.setTop { g with pc := g.pc + 3, stack := v.toList ++ rest }) target → Steps p.tables e below (T.setTop g) target := by
  obtain ⟨mk, methM, cM, hnamed, hmethM, -, -, -, -, -, -, hsigM⟩ := Cond.codeWith_spec hcode
  have hstatic : methM.isStatic = true := Cond.static_spec hnamed hmethM hstat
  obtain ⟨kP, hkP, -⟩ := className_of_methodNamed hnamed
  have hinitP : kP.init = .initialized := Cond.initialized_spec (findClass_of_methodNamed hnamed) hkP hinit
  obtain ⟨vm₁, X₁, hstep₁⟩ := X.invokestatic hexec hown hlink hnamed hmethM hstatic hkP hinitP hy (g := g) hg (argsL := argsL) (rest := rest) (hlen _ hsigM) hstack hdg
  obtain ⟨v, B, X', hpost, hsteps⟩ := hK m meth c ⟨T.setVm vm₁, locs, cells, slots⟩ { g with stack := rest } (.invokestatic index) mk argsL.toArray X₁ hg hsize hdg hW (X₁.named hnamed) (hpre vm₁ X₁.warmed)
  exact ⟨v, vm₁, B, X₁.warmed, X', hpost, fun target h => hstep₁ _ fun acts => by rw [doInvoke_state]; exact hsteps.trans h⟩
theorem vx_runSW {y : MethodName} {bytes cc : ByteArray} {maxL nL mc ms n index : Nat} {ret : Option FieldType} {hh : List (Nat × Nat × Nat × Nat)} {ws : List Cond} {rm : Room} {Pc : Array Value → State → Prop} {Qc : Array Value → State → Outcome → State → Prop} {free : Addr → Prop} {Ts : List Cond} {own : String} {As rest : List Value} {g : JFrame}
    (S : CallFix p m c cc nL s args Ts own) (hM : Met l y ws rm Pc Qc mc ms free) (cw : vx_CSW R s args own index y bytes maxL ret hh ws rm mc ms n) (hp : PreS s H Pc As)
    (hg : g.method = m) (hn : As.length = n) (hsize : g.locals.size = nL) (hstack : g.stack = As.reverse ++ rest) (hW : 2 * g.monitorRoom + (rest.map fun v => v.category).sum ≤ 8) (hdg : decode cc g.pc = .ok (.invokestatic index, 3)) (hf : cells + mc ≤ R.cells ∧ slots + ms ≤ R.slots) :
    va_Run p l e R s m args below meth c H locs cells slots mc ms g rest (Qc As.toArray) (free) := by
  obtain ⟨⟨hrc, hrs, hfr, hlo, hws, hcw⟩, hcode, hini, hy, hlen, hl, hstt⟩ := cw
  have hK : Back l R p e below s args y 3 8 (PreOf R mc ms Pc) (PostOf Qc mc ms free) := va_backW (hh := hh) (bytes := bytes) (maxL := maxL) (ret := ret) hM hp.1 hrc hrs hfr hlo hws hcw (fun a' U hW => word_at hW (Or.inl (by first | rfl | simp [Cond.onTables, Cond.keeps, Cond.steady])) hini)
  obtain ⟨hx, hb, hml, ho, -⟩ := S
  intro T hT X
  obtain ⟨v, vm₁, ⟨U', l2, c2, s2⟩, hW₁, X', ⟨g', mk, t, L, e1, e2, hq, h1, hL, h2, h3⟩, st⟩ := vx_callSW X hx (hh := hh) (bytes := bytes) (maxL := maxL) (ret := ret) ho hl hstt hini hcode hy hK hg (hsize.trans hml.symm) (argsL := As) (rest := rest) (fun sig h => hn.trans (hlen sig h)) hstack hW (by rw [hb]; exact hdg)
    (fun vm₁ hW₁ => ⟨hf.1, hf.2, hp.2 (T.setVm vm₁) hT hW₁⟩)
  dsimp only [Pt.U, Pt.locs, Pt.cells, Pt.slots] at X' e1 e2 h1 h2 h3 st
  subst h1; subst h2; subst h3
  exact ⟨v, (T.setVm vm₁).calling g' mk As.toArray, t, U', L, hT, X', hL, e1, e2, hq, st⟩
/-- not caught here, past rows that name other classes: it goes on to the caller -/
theorem vx_outP {p : Program} {l : Launch} {e : Env} {R : Room} {s : State} {m : MethodId} {args : Array Value} {below : List Frame} {meth : Method} {c : Code} {H : Heap} {locs : List Loc} {cells slots : Nat} {free : Addr → Prop} {ls : Array Slot} {rest : List Value} {Qc : Array Value → State → Outcome → State → Prop} {XC : String → State → State → Prop}
    {pc : Nat} {own E : String} {ce : Cell} {q : Addr} {mc ms : Nat} (hown : s.vm.findClass own = some m.cls) (hlocks : meth.locks = false)
    (hpass : ∀ z ∈ c.exceptionTable.toList, covers z pc = false ∨ (z.catchType ≠ 0 ∧ ∃ nm : String, (Cond.classLink own z.catchType nm).before args s = true ∧ va_Nc E nm s)) (hcell : H[q]? = some ce) (hv : ce.vm = .none) (hcl : s.vm.findClass E = some ce.cls)
    (hx : ∀ t : State, t.heap = H → s.vm.Alike t.vm → XC E s t) (hf : ∀ z ∈ locs, free z.base) (hc : cells ≤ mc) (hs : slots ≤ ms) :
    vx_W p l e R s m args below meth c H locs cells slots (vx_MQ below Qc XC args s mc ms free) (F0 m pc ls rest) q := by
  intro T hT X
  have hpl : e.platform.magicAccessors = ({} : Platform).magicAccessors := by rw [X.admits.platform]
  obtain ⟨vm', hW', X', st⟩ := X.outThrough hlocks q (g := F0 m pc ls rest) rfl rfl rfl (cell := ce) (by rw [hT]; exact hcell) (by rw [hv]; rfl)
    (by obtain ⟨k9, h9, -⟩ := Vm.findClass_spec hcl; exact ⟨k9, h9⟩) (fun z hz => by
      rcases hpass z hz with h | ⟨hz0, nm, hl1, hn1⟩
      · exact Or.inl h
      · obtain ⟨c6, hc6, hcl6⟩ := Cond.classLink_spec hown hl1 e.platform hpl
        obtain ⟨a8, b8, h1, h2, h3⟩ := hn1
        cases Option.some.inj (h1.symm.trans hcl)
        cases Option.some.inj (h2.symm.trans hc6)
        exact Or.inr ⟨hz0, _, hcl6, h3⟩)
  obtain ⟨g₀, hfr⟩ := X'.frames_eq
  have hcell9 : ((T.setVm vm').setFrames (.throwing q :: below)).heap[q]? = some ce := by
    show T.heap[q]? = some ce
    rw [hT]; exact hcell
  have hend : Ended ((T.setVm vm').setFrames (.throwing q :: below)) below (.threw q) := State.frames_setFrames _ (State.cur_lt_of_frames hfr)
  refine ⟨(T.setVm vm').setFrames (.throwing q :: below), ?_, .threw q, X'.here.running, hend, Or.inr ⟨q, rfl, E, ce, locs, hx _ hT (X'.ends _).1.alike, hcell9, hv, hcl, (X'.ends _).1, (X'.ends _).2.mono hc hs, hf⟩⟩
  rw [X.pushThrowing_eq]
  exact st
/-- a thing of a world lies in the heap -/
theorem vx_lt {D : va_G} {cl : List vw_C} {ws : va_W} {H1 : Heap} (h : va_P D cl ws H1) {k : Nat} {q : Nat × va_E} (hk : ws[k]? = some q) : q.1 < H1.size := (h k q hk).lt
end VXS
/-! ===== END ===== -/
/-! ===== BEGIN methods with a table of their own: called by a name, returning or throwing ===== -/
section VXH
/-! vx_backW, vx_callVX, vx_callSX, vx_callVW, vx_runVW, vx_runVX, vx_runSX, vx_ofWH follow the same proofs as their sisters above (Free/Laws.lean, Shelf42/LK1.lean); vx_outP calls Shelf42/NT130.lean (outThrough). -/
section
variable {l : Launch} {R : Room} {p : Program} {e : Env} {below : List Frame} {s : State} {sargs : Array Value} {y : MethodName} {len W9 : Nat}
theorem vx_backW {ws : List Cond} {rm : Room} {Pc : Array Value → State → Prop} {Qc : Array Value → State → Outcome → State → Prop} {XC : String → State → State → Prop} {mc ms : Nat} {free : Addr → Prop} {bytes : ByteArray} {maxL : Nat} {ret : Option FieldType} {hh : List (Nat × Nat × Nat × Nat)}
    (hM : vx_Met l y ws rm Pc Qc XC mc ms free) (hblind : FrameBlind Pc) (hrc : rm.cells = mc) (hrs : rm.slots = ms)
    (hframes : rm.frames + 1 ≤ R.frames) (hlocals : W9 + (maxL + 11) + rm.locals ≤ R.locals)
    (hws : ∀ w ∈ ws, ∀ a' U, s.WarmedH U.vm → w.before a' U = true) (hcode : Cond.codeWith y bytes maxL ret hh ∈ ws) (hinit : ∀ a' U, s.WarmedH U.vm → (Cond.initialized y.cls).before a' U = true) :
    vx_Back l R p e below s sargs y len W9 (PreOf R mc ms Pc) (PostOf Qc mc ms free) (vx_Post XC mc ms free) := by
  intro m meth c A g ig mk a X hg hsize hdg hW hn hp
  have h1 : (headSpec ws rm).pre.before a A.U = true := atoms_intro fun w hw => hws w hw _ _ X.warmed
  have h2 : (Cond.codeWith y bytes maxL ret hh).before a A.U = true := hws _ hcode _ _ X.warmed
  have h3 : (Cond.initialized y.cls).before a A.U = true := hinit _ _ X.warmed
  have h4 : A.cells + (headSpec ws rm).room.cells ≤ R.cells := by rw [show (headSpec ws rm).room.cells = mc from hrc]; exact hp.1
  have h5 : A.slots + (headSpec ws rm).room.slots ≤ R.slots := by rw [show (headSpec ws rm).room.slots = ms from hrs]; exact hp.2.1
  have hPc : Pc a (A.U.calling g mk a) := hblind _ _ _ _ hp.2.2
  obtain ⟨U, Ls, c0, s0⟩ := A
  dsimp only [Pt.U, Pt.locs, Pt.cells, Pt.slots] at h1 h2 h3 h4 h5 X hn hPc ⊢
  obtain ⟨m9, methY, cY, hn9, hmY, hcY, -, hlY, -⟩ := Cond.codeWith_spec h2
  cases Option.some.inj (hn9.symm.trans hn)
  obtain ⟨kY, hkY, -⟩ := className_of_methodNamed hn
  have hinitY : kY.init = .initialized := Cond.initialized_spec (findClass_of_methodNamed hn) hkY h3
  have h : At U g.method c below := by rw [hg]; exact X.here
  have hlocals9 : W9 + (maxL + 11) + (headSpec ws rm).room.locals ≤ R.locals := hlocals
  have happ : (headSpec ws rm).appliesLoose y e.platform (U.calling g mk a) = true :=
    Spec.appliesLoose_calling (g := g) h hdg hn hkY hinitY
      (X.room_calling (g := g) (R' := (headSpec ws rm).room) hsize hmY hcY hframes (by rw [hlY]; omega) h4 h5) h1
  obtain ⟨mid, hmid⟩ := h.above
  have hfr : (U.setTop g).frames = (.java g :: mid) ++ below := by rw [State.frames_setTop' g h.top, hmid]; rfl
  obtain ⟨o, s₂, hsteps, -, hend, hq⟩ := Steps.callFree hM p X.admits X.cas X.clock (acts := []) hfr happ hPc trivial
  have hq' : vx_Q Qc XC mc ms free a (U.calling g mk a) o s₂ := hq
  rw [State.frames_setTop' g h.top] at hend
  obtain ⟨g₀, hg0⟩ := Option.isSome_iff_exists.mp h.top
  obtain ⟨r, hr⟩ := State.topJava?_eq_some.mp hg0
  have hr' : (({ U with heap := s₂.heap, slotsUsed := s₂.slotsUsed } : State).setVm s₂.vm).frames = .java g₀ :: r := hr
  rcases hq' with ⟨hqc, L, hfe, hL⟩ | ⟨q, rfl, E, ce, L, hx, hce, hcv, hcl, hW₂, hsm, hL⟩
  · obtain ⟨⟨v, rfl⟩, hW₂, e2, q2, q3, q4, q5, q6⟩ := id hfe
    have e3 : s₂ = ({ (U.calling g mk a).setFrames s₂.frames with heap := s₂.heap, slotsUsed := s₂.slotsUsed } : State).setVm s₂.vm := by
      have : s₂ = ({ s₂ with vm := (U.calling g mk a).vm } : State).setVm s₂.vm := rfl
      rw [e2] at this
      exact this
    obtain ⟨c₂, i₂, len₂, hc₂, hd₂, hf₂⟩ := hend
    have hW' : U.WarmedH s₂.vm := hW₂
    have hcc : c₂ = c := by
      have h1 : s₂.code? g.method = U.code? g.method := by
        rw [State.code?_eq, State.code?_eq, hW'.alike.method?]
      exact Option.some.inj (hc₂.symm.trans (h1.trans h.code))
    subst hcc
    have hlen : len₂ = len := by rw [hdg] at hd₂; cases hd₂; rfl
    subst hlen
    have hs₂ : s₂ = (({ U with heap := s₂.heap, slotsUsed := s₂.slotsUsed } : State).setVm s₂.vm).setTop { g with pc := g.pc + len₂, stack := v.toList ++ g.stack } := by
      refine e3.trans ?_
      rw [hf₂, State.calling_eq h.top, State.setFrames_setFrames, State.setTop_of_frames _ hr', hr]
      rfl
    have hsame : U.sameButNew ({ U with heap := s₂.heap, slotsUsed := s₂.slotsUsed } : State) L mc ms := by
      refine ⟨?_, q2, q3, q4, q5, q6⟩
      obtain ⟨t, ht, -⟩ := State.frames_cons hr
      show ({ U with heap := s₂.heap, slotsUsed := s₂.slotsUsed } : State) = { U.setFrames U.frames with heap := s₂.heap, slotsUsed := s₂.slotsUsed }
      rw [State.setFrames_self ht]
    subst hg
    refine Or.inl ⟨v, ⟨(({ U with heap := s₂.heap, slotsUsed := s₂.slotsUsed } : State).setVm s₂.vm), Ls ++ L, c0 + mc, s0 + ms⟩,
      ⟨X.admits, X.cas, X.clock, X.frames, X.room, X.hears, X.method, X.code, (X.here.setHeapUsed s₂.heap s₂.slotsUsed).setVm hW'.alike, X.tail, State.WarmedH.trans X.warmed hW', X.limits, X.bytes, X.same.trans (hsame.setVm s.vm)⟩,
      ⟨g, mk, s₂, L, rfl, rfl, hqc, rfl, hL, rfl, rfl⟩, ?_⟩
    show Steps p.tables e below _ ((({ U with heap := s₂.heap, slotsUsed := s₂.slotsUsed } : State).setVm s₂.vm).setTop { g with pc := g.pc + len₂, stack := v.toList ++ g.stack })
    rw [← hs₂]
    exact hsteps
  · obtain ⟨e2, q2, q3, q4, q5, q6⟩ := id hsm
    have e3 : s₂ = ({ (U.calling g mk a).setFrames s₂.frames with heap := s₂.heap, slotsUsed := s₂.slotsUsed } : State).setVm s₂.vm := by
      have : s₂ = ({ s₂ with vm := (U.calling g mk a).vm } : State).setVm s₂.vm := rfl
      rw [e2] at this
      exact this
    have hf₂ : s₂.frames = .throwing q :: .java g :: U.frames.tail := hend
    have hW' : U.WarmedH s₂.vm := hW₂
    have hs₂ : s₂ = ((({ U with heap := s₂.heap, slotsUsed := s₂.slotsUsed } : State).setVm s₂.vm).setTop g).pushFrame (.throwing q) := by
      refine e3.trans ?_
      rw [hf₂, State.calling_eq h.top, State.setFrames_setFrames, State.pushFrame, State.frames_setTop _ hr', State.setTop_of_frames _ hr', State.setFrames_setFrames, hr]
      rfl
    have hsame : U.sameButNew ({ U with heap := s₂.heap, slotsUsed := s₂.slotsUsed } : State) L mc ms := by
      refine ⟨?_, q2, q3, q4, q5, q6⟩
      obtain ⟨t, ht, -⟩ := State.frames_cons hr
      show ({ U with heap := s₂.heap, slotsUsed := s₂.slotsUsed } : State) = { U.setFrames U.frames with heap := s₂.heap, slotsUsed := s₂.slotsUsed }
      rw [State.setFrames_self ht]
    subst hg
    refine Or.inr ⟨q, ⟨(({ U with heap := s₂.heap, slotsUsed := s₂.slotsUsed } : State).setVm s₂.vm), Ls ++ L, c0 + mc, s0 + ms⟩,
      ⟨X.admits, X.cas, X.clock, X.frames, X.room, X.hears, X.method, X.code, (X.here.setHeapUsed s₂.heap s₂.slotsUsed).setVm hW'.alike, X.tail, State.WarmedH.trans X.warmed hW', X.limits, X.bytes, X.same.trans (hsame.setVm s.vm)⟩,
      ⟨g, mk, s₂, L, E, ce, rfl, rfl, hx, hce, hcv, hcl, rfl, hL, rfl, rfl⟩, ?_⟩
    show Steps p.tables e below _ (((({ U with heap := s₂.heap, slotsUsed := s₂.slotsUsed } : State).setVm s₂.vm).setTop g).pushFrame (.throwing q))
    rw [← hs₂]
    exact hsteps
end
variable {p : Program} {l : Launch} {e : Env} {R : Room} {s : State} {m : MethodId} {args : Array Value} {below : List Frame} {meth : Method} {c : Code} {T : State} {H : Heap} {locs : List Loc} {cells slots : Nat}
theorem vx_callVX (X : Stand p l e R s m args below meth c T locs cells slots) (hexec : p.tables.exec = Jvm.exec) {own C : String} {index : Nat} {y : MethodName} {bytes : ByteArray} {maxL : Nat} {ret : Option FieldType} {hh : List (Nat × Nat × Nat × Nat)}
    (hown : s.vm.findClass own = some m.cls) (hlink : (Cond.methodLink own index y).before args s = true) (hinst : (Cond.instanceMethod y).before args s = true) (hsel : (Cond.selects C y y).before args s = true)
    (hcode : (Cond.codeWith y bytes maxL ret hh).before args s = true) (hy : y.cls ≠ "java/lang/invoke/MethodHandle" ∧ y.cls ≠ "java/lang/invoke/VarHandle")
    {W9 : Nat} {Pre : Pt → Array Value → Prop} {Post : Pt → Array Value → Option Value → Pt → Prop} {PostX : Pt → Array Value → Addr → Pt → Prop} (hK : vx_Back l R p e below s args y 3 W9 Pre Post PostX)
    {b : Addr} {cellB : Cell} (hcell : T.heap[b]? = some cellB) (hobj : cellB.vm.isStatics = false) (hcls : s.vm.findClass C = some cellB.cls)
    {g : JFrame} (hg : g.method = m) (hsize : g.locals.size = c.maxLocals) {argsL rest : List Value} (hlen : ∀ sig, parseMethodDescriptor y.desc = some sig → argsL.length = sig.parameters.length)
    (hstack : g.stack = argsL.reverse ++ .ref b :: rest) (hW : 2 * g.monitorRoom + (rest.map fun v => v.category).sum ≤ W9) (hdg : decode c.code g.pc = .ok (.invokevirtual index, 3))
    (hpre : ∀ vm₁, s.WarmedH vm₁ → Pre ⟨T.setVm vm₁, locs, cells, slots⟩ (Value.ref b :: argsL).toArray) :
    (∃ (v : Option Value) (vm₁ : Vm) (B : Pt), s.WarmedH vm₁ ∧ Stand p l e R s m args below meth c B.U B.locs B.cells B.slots ∧ Post ⟨T.setVm vm₁, locs, cells, slots⟩ (Value.ref b :: argsL).toArray v B ∧
      ∀ target, Steps p.tables e below (B.U.setTop { g with pc := g.pc + 3, stack := v.toList ++ rest }) target → Steps p.tables e below (T.setTop g) target) ∨
    (∃ (q : Addr) (vm₁ : Vm) (B : Pt), s.WarmedH vm₁ ∧ Stand p l e R s m args below meth c B.U B.locs B.cells B.slots ∧ PostX ⟨T.setVm vm₁, locs, cells, slots⟩ (Value.ref b :: argsL).toArray q B ∧
      Steps p.tables e below (T.setTop g) ((B.U.setTop { g with stack := rest }).pushFrame (.throwing q))) := by
  obtain ⟨mk, methM, hnamed, hmethM, hstM, habM⟩ := Cond.instanceMethod_spec hinst
  obtain ⟨m8, methM', cM, hn8, hmethM', -, -, -, -, -, -, hsigM⟩ := Cond.codeWith_spec hcode
  cases Option.some.inj (hn8.symm.trans hnamed)
  cases hmethM.symm.trans hmethM'
  obtain ⟨c2, r2, m2, q1, q2, q3, q4, kP, hkP, hkPi⟩ := Cond.selects_spec hsel
  cases hcls.symm.trans q1
  cases (State.methodFound?_of_named hnamed hy).symm.trans q2
  cases hnamed.symm.trans q3
  have hselP : selectMethod e.platform s.vm cellB.cls mk = .method mk := by rw [Launch.admits_selectMethod X.admits]; exact q4
  obtain ⟨vm₁, X₁, hstep₁⟩ := X.invokevirtual hexec hown hlink hnamed hmethM hstM hkP hkPi hy (a := b) (cell := cellB) hcell
    (fun z h => by rw [h] at hobj; cases hobj) hselP hmethM habM hkP hkPi (g := g) hg (argsL := argsL) (rest := rest) (hlen _ hsigM) hstack hdg
  rcases hK m meth c ⟨T.setVm vm₁, locs, cells, slots⟩ { g with stack := rest } (.invokevirtual index) mk (Value.ref b :: argsL).toArray X₁ hg hsize hdg hW (X₁.named hnamed) (hpre vm₁ X₁.warmed) with ⟨v, B, X', hpost, hsteps⟩ | ⟨q, B, X', hpost, hsteps⟩
  · exact Or.inl ⟨v, vm₁, B, X₁.warmed, X', hpost, fun target h => hstep₁ _ fun acts => by rw [doInvoke_state]; exact hsteps.trans h⟩
  · exact Or.inr ⟨q, vm₁, B, X₁.warmed, X', hpost, hstep₁ _ fun acts => by rw [doInvoke_state]; exact hsteps⟩
theorem vx_callSX (X : Stand p l e R s m args below meth c T locs cells slots) (hexec : p.tables.exec = Jvm.exec) {own : String} {index : Nat} {y : MethodName} {bytes : ByteArray} {maxL : Nat} {ret : Option FieldType} {hh : List (Nat × Nat × Nat × Nat)}
    (hown : s.vm.findClass own = some m.cls) (hlink : (Cond.methodLink own index y).before args s = true) (hstat : (Cond.static y).before args s = true) (hinit : (Cond.initialized y.cls).before args s = true)
    (hcode : (Cond.codeWith y bytes maxL ret hh).before args s = true) (hy : y.cls ≠ "java/lang/invoke/MethodHandle" ∧ y.cls ≠ "java/lang/invoke/VarHandle")
    {W9 : Nat} {Pre : Pt → Array Value → Prop} {Post : Pt → Array Value → Option Value → Pt → Prop} {PostX : Pt → Array Value → Addr → Pt → Prop} (hK : vx_Back l R p e below s args y 3 W9 Pre Post PostX)
    {g : JFrame} (hg : g.method = m) (hsize : g.locals.size = c.maxLocals) {argsL rest : List Value} (hlen : ∀ sig, parseMethodDescriptor y.desc = some sig → argsL.length = sig.parameters.length)
    (hstack : g.stack = argsL.reverse ++ rest) (hW : 2 * g.monitorRoom + (rest.map fun v => v.category).sum ≤ W9) (hdg : decode c.code g.pc = .ok (.invokestatic index, 3))
    (hpre : ∀ vm₁, s.WarmedH vm₁ → Pre ⟨T.setVm vm₁, locs, cells, slots⟩ argsL.toArray) :
    (∃ (v : Option Value) (vm₁ : Vm) (B : Pt), s.WarmedH vm₁ ∧ Stand p l e R s m args below meth c B.U B.locs B.cells B.slots ∧ Post ⟨T.setVm vm₁, locs, cells, slots⟩ argsL.toArray v B ∧
      ∀ target, Steps p.tables e below (B.U.setTop { g with pc := g.pc + 3, stack := v.toList ++ rest }) target → Steps p.tables e below (T.setTop g) target) ∨
    (∃ (q : Addr) (vm₁ : Vm) (B : Pt), s.WarmedH vm₁ ∧ Stand p l e R s m args below meth c B.U B.locs B.cells B.slots ∧ PostX ⟨T.setVm vm₁, locs, cells, slots⟩ argsL.toArray q B ∧
      Steps p.tables e below (T.setTop g) ((B.U.setTop { g with stack := rest }).pushFrame (.throwing q))) := by
  obtain ⟨mk, methM, cM, hnamed, hmethM, -, -, -, -, -, -, hsigM⟩ := Cond.codeWith_spec hcode
  have hstatic : methM.isStatic = true := Cond.static_spec hnamed hmethM hstat
  obtain ⟨kP, hkP, -⟩ := className_of_methodNamed hnamed
  have hinitP : kP.init = .initialized := Cond.initialized_spec (findClass_of_methodNamed hnamed) hkP hinit
  obtain ⟨vm₁, X₁, hstep₁⟩ := X.invokestatic hexec hown hlink hnamed hmethM hstatic hkP hinitP hy (g := g) hg (argsL := argsL) (rest := rest) (hlen _ hsigM) hstack hdg
  rcases hK m meth c ⟨T.setVm vm₁, locs, cells, slots⟩ { g with stack := rest } (.invokestatic index) mk argsL.toArray X₁ hg hsize hdg hW (X₁.named hnamed) (hpre vm₁ X₁.warmed) with ⟨v, B, X', hpost, hsteps⟩ | ⟨q, B, X', hpost, hsteps⟩
  · exact Or.inl ⟨v, vm₁, B, X₁.warmed, X', hpost, fun target h => hstep₁ _ fun acts => by rw [doInvoke_state]; exact hsteps.trans h⟩
  · exact Or.inr ⟨q, vm₁, B, X₁.warmed, X', hpost, hstep₁ _ fun acts => by rw [doInvoke_state]; exact hsteps⟩
theorem vx_callVW (X : Stand p l e R s m args below meth c T locs cells slots) (hexec : p.tables.exec = Jvm.exec) {own C : String} {index : Nat} {y : MethodName} {bytes : ByteArray} {maxL : Nat} {ret : Option FieldType} {hh : List (Nat × Nat × Nat × Nat)}
    (hown : s.vm.findClass own = some m.cls) (hlink : (Cond.methodLink own index y).before args s = true) (hinst : (Cond.instanceMethod y).before args s = true) (hsel : (Cond.selects C y y).before args s = true)
    (hcode : (Cond.codeWith y bytes maxL ret hh).before args s = true) (hy : y.cls ≠ "java/lang/invoke/MethodHandle" ∧ y.cls ≠ "java/lang/invoke/VarHandle")
    {W9 : Nat} {Pre : Pt → Array Value → Prop} {Post : Pt → Array Value → Option Value → Pt → Prop} (hK : Back l R p e below s args y 3 W9 Pre Post)
    {b : Addr} {cellB : Cell} (hcell : T.heap[b]? = some cellB) (hobj : cellB.vm.isStatics = false) (hcls : s.vm.findClass C = some cellB.cls)
    {g : JFrame} (hg : g.method = m) (hsize : g.locals.size = c.maxLocals) {argsL rest : List Value} (hlen : ∀ sig, parseMethodDescriptor y.desc = some sig → argsL.length = sig.parameters.length)
    (hstack : g.stack = argsL.reverse ++ .ref b :: rest) (hW : 2 * g.monitorRoom + (rest.map fun v => v.category).sum ≤ W9) (hdg : decode c.code g.pc = .ok (.invokevirtual index, 3))
    (hpre : ∀ vm₁, s.WarmedH vm₁ → Pre ⟨T.setVm vm₁, locs, cells, slots⟩ (Value.ref b :: argsL).toArray) :
    ∃ (v : Option Value) (vm₁ : Vm) (B : Pt), s.WarmedH vm₁ ∧ Stand p l e R s m args below meth c B.U B.locs B.cells B.slots ∧ Post ⟨T.setVm vm₁, locs, cells, slots⟩ (Value.ref b :: argsL).toArray v B ∧
      ∀ target, Steps p.tables e below (B.U.setTop { g with pc := g.pc + 3, stack := v.toList ++ rest }) target → Steps p.tables e below (T.setTop g) target := by
  obtain ⟨mk, methM, hnamed, hmethM, hstM, habM⟩ := Cond.instanceMethod_spec hinst
  obtain ⟨m8, methM', cM, hn8, hmethM', -, -, -, -, -, -, hsigM⟩ := Cond.codeWith_spec hcode
  cases Option.some.inj (hn8.symm.trans hnamed)
  cases hmethM.symm.trans hmethM'
  obtain ⟨c2, r2, m2, q1, q2, q3, q4, kP, hkP, hkPi⟩ := Cond.selects_spec hsel
  cases hcls.symm.trans q1
  cases (State.methodFound?_of_named hnamed hy).symm.trans q2
  cases hnamed.symm.trans q3
  have hselP : selectMethod e.platform s.vm cellB.cls mk = .method mk := by rw [Launch.admits_selectMethod X.admits]; exact q4
  obtain ⟨vm₁, X₁, hstep₁⟩ := X.invokevirtual hexec hown hlink hnamed hmethM hstM hkP hkPi hy (a := b) (cell := cellB) hcell
    (fun z h => by rw [h] at hobj; cases hobj) hselP hmethM habM hkP hkPi (g := g) hg (argsL := argsL) (rest := rest) (hlen _ hsigM) hstack hdg
  obtain ⟨v, B, X', hpost, hsteps⟩ := hK m meth c ⟨T.setVm vm₁, locs, cells, slots⟩ { g with stack := rest } (.invokevirtual index) mk (Value.ref b :: argsL).toArray X₁ hg hsize hdg hW (X₁.named hnamed) (hpre vm₁ X₁.warmed)
  exact ⟨v, vm₁, B, X₁.warmed, X', hpost, fun target h => hstep₁ _ fun acts => by rw [doInvoke_state]; exact hsteps.trans h⟩
abbrev vx_CVW (R : Room) (s : State) (args : Array Value) (own C : String) (index : Nat) (y : MethodName) (bytes : ByteArray) (maxL : Nat) (ret : Option FieldType) (hh : List (Nat × Nat × Nat × Nat)) (ws : List Cond) (rm : Room) (mc ms n : Nat) : Prop :=
  (rm.cells = mc ∧ rm.slots = ms ∧ rm.frames + 1 ≤ R.frames ∧ 8 + (maxL + 11) + rm.locals ≤ R.locals ∧ (∀ w ∈ ws, ∀ (a' : Array Value) (U : State), s.WarmedH U.vm → w.before a' U = true) ∧ Cond.codeWith y bytes maxL ret hh ∈ ws) ∧
  (Cond.codeWith y bytes maxL ret hh).before args s = true ∧ (Cond.initialized y.cls).before args s = true ∧ (y.cls ≠ "java/lang/invoke/MethodHandle" ∧ y.cls ≠ "java/lang/invoke/VarHandle") ∧
  (∀ sig, parseMethodDescriptor y.desc = some sig → n = sig.parameters.length) ∧ (Cond.methodLink own index y).before args s = true ∧ (Cond.instanceMethod y).before args s = true ∧ (Cond.selects C y y).before args s = true
theorem vx_cwVW {own C : String} {index maxL mc ms : Nat} {y : MethodName} {bytes : ByteArray} {ret : Option FieldType} {hh : List (Nat × Nat × Nat × Nat)} {Ts ws ws' : List Cond} {rm : Room} (n : Nat) (ht : ∀ w ∈ Ts, w.before args s = true) (hT : GoodIn Ts (wsV own index C y ws)) (hw : ws = Cond.codeWith y bytes maxL ret hh :: ws') (hrc : rm.cells = mc) (hrs : rm.slots = ms)
    (hd : y.cls = C ∧ y.cls ≠ "java/lang/invoke/MethodHandle" ∧ y.cls ≠ "java/lang/invoke/VarHandle" ∧ (parseMethodDescriptor y.desc).map (fun d => d.parameters.length) = some n) (hR : rm.frames + 1 ≤ R.frames ∧ 8 + (maxL + 11) + rm.locals ≤ R.locals) :
    vx_CVW R s args own C index y bytes maxL ret hh ws rm mc ms n := by
  obtain ⟨hC, hd⟩ := hd
  subst hC
  have ok : ∀ w ∈ wsV own index y.cls y ws, w.before args s = true := fun w h => ht w (hT w h).1
  have hG : GoodIn Ts ws := fun w h => hT w (by unfold wsV; exact List.mem_append_right _ h)
  have hc : Cond.codeWith y bytes maxL ret hh ∈ ws := by rw [hw]; exact List.mem_cons_self
  refine ⟨⟨hrc, hrs, hR.1, hR.2, pay_in ht hG, hc⟩, ht _ (hG _ hc).1, ok _ (by simp [wsV]), ⟨hd.1, hd.2.1⟩, fun sig h => ?_, ok _ (by simp [wsV]), ok _ (by simp [wsV]), ok _ (by simp [wsV])⟩
  have h2 := hd.2.2
  rw [h] at h2
  exact (Option.some.inj h2).symm
theorem vx_runVW {y : MethodName} {bytes cc : ByteArray} {maxL nL mc ms n index : Nat} {ret : Option FieldType} {hh : List (Nat × Nat × Nat × Nat)} {ws : List Cond} {rm : Room} {Pc : Array Value → State → Prop} {Qc : Array Value → State → Outcome → State → Prop} {free : Addr → Prop} {Ts : List Cond} {own C : String} {b : Addr} {As rest : List Value} {g : JFrame}
    (S : CallFix p m c cc nL s args Ts own) (hM : Met l y ws rm Pc Qc mc ms free) (cw : vx_CVW R s args own C index y bytes maxL ret hh ws rm mc ms n) (hp : PreV s H C b Pc As)
    (hg : g.method = m) (hn : As.length = n) (hsize : g.locals.size = nL) (hstack : g.stack = As.reverse ++ .ref b :: rest) (hW : 2 * g.monitorRoom + (rest.map fun v => v.category).sum ≤ 8) (hdg : decode cc g.pc = .ok (.invokevirtual index, 3)) (hf : cells + mc ≤ R.cells ∧ slots + ms ≤ R.slots) :
    va_Run p l e R s m args below meth c H locs cells slots mc ms g rest (Qc (Value.ref b :: As).toArray) free := by
  obtain ⟨⟨hrc, hrs, hfr, hlo, hws, hcw⟩, hcode, hini, hy, hlen, hl, hin, hse⟩ := cw
  have hK : Back l R p e below s args y 3 8 (PreOf R mc ms Pc) (PostOf Qc mc ms free) := va_backW (hh := hh) (bytes := bytes) (maxL := maxL) (ret := ret) hM hp.1 hrc hrs hfr hlo hws hcw (fun a' U hW => word_at hW (Or.inl (by first | rfl | simp [Cond.onTables, Cond.keeps, Cond.steady])) hini)
  obtain ⟨hx, hb, hml, ho, -⟩ := S
  obtain ⟨-, ⟨cellB, hcB, hoB, hclB⟩, hPc⟩ := hp
  intro T hT X
  obtain ⟨v, vm₁, ⟨U', l2, c2, s2⟩, hW₁, X', ⟨g', mk, t, L, e1, e2, hq, h1, hL, h2, h3⟩, st⟩ := vx_callVW X hx (C := C) (hh := hh) (bytes := bytes) (maxL := maxL) (ret := ret) ho hl hin hse hcode hy hK (by rw [hT]; exact hcB) hoB hclB hg (hsize.trans hml.symm) (argsL := As) (rest := rest) (fun sig h => hn.trans (hlen sig h)) hstack hW (by rw [hb]; exact hdg)
    (fun vm₁ hW₁ => ⟨hf.1, hf.2, hPc (T.setVm vm₁) hT hW₁⟩)
  dsimp only [Pt.U, Pt.locs, Pt.cells, Pt.slots] at X' e1 e2 h1 h2 h3 st
  subst h1; subst h2; subst h3
  exact ⟨v, (T.setVm vm₁).calling g' mk (Value.ref b :: As).toArray, t, U', L, hT, X', hL, e1, e2, hq, st⟩
section
variable {y : MethodName} {bytes cc : ByteArray} {maxL nL mc ms n index : Nat} {ret : Option FieldType} {ws : List Cond} {rm : Room} {Pc : Array Value → State → Prop} {Qc : Array Value → State → Outcome → State → Prop} {XC : String → State → State → Prop} {free : Addr → Prop} {Ts : List Cond} {own C : String} {b : Addr} {As rest : List Value} {g : JFrame}
theorem vx_runVX {hh : List (Nat × Nat × Nat × Nat)} (S : CallFix p m c cc nL s args Ts own) (hM : vx_Met l y ws rm Pc Qc XC mc ms free) (cw : vx_CVW R s args own C index y bytes maxL ret hh ws rm mc ms n) (hp : PreV s H C b Pc As)
    (hg : g.method = m) (hn : As.length = n) (hsize : g.locals.size = nL) (hstack : g.stack = As.reverse ++ .ref b :: rest) (hW : 2 * g.monitorRoom + (rest.map fun v => v.category).sum ≤ 8) (hdg : decode cc g.pc = .ok (.invokevirtual index, 3)) (hf : cells + mc ≤ R.cells ∧ slots + ms ≤ R.slots) :
    vx_Run p l e R s m args below meth c H locs cells slots mc ms g rest (Qc (Value.ref b :: As).toArray) XC free := by
  obtain ⟨⟨hrc, hrs, hfr, hlo, hws, hcw⟩, hcode, hini, hy, hlen, hl, hin, hse⟩ := cw
  have hK : vx_Back l R p e below s args y 3 8 (PreOf R mc ms Pc) (PostOf Qc mc ms free) (vx_Post XC mc ms free) := vx_backW (hh := hh) (bytes := bytes) (maxL := maxL) (ret := ret) hM hp.1 hrc hrs hfr hlo hws hcw (fun a' U hW => word_at hW (Or.inl (by first | rfl | simp [Cond.onTables, Cond.keeps, Cond.steady])) hini)
  obtain ⟨hx, hb, hml, ho, -⟩ := S
  obtain ⟨-, ⟨cellB, hcB, hoB, hclB⟩, hPc⟩ := hp
  intro T hT X
  rcases vx_callVX X hx (C := C) (hh := hh) (bytes := bytes) (maxL := maxL) (ret := ret) ho hl hin hse hcode hy hK (by rw [hT]; exact hcB) hoB hclB hg (hsize.trans hml.symm) (argsL := As) (rest := rest) (fun sig h => hn.trans (hlen sig h)) hstack hW (by rw [hb]; exact hdg)
    (fun vm₁ hW₁ => ⟨hf.1, hf.2, hPc (T.setVm vm₁) hT hW₁⟩) with ⟨v, vm₁, ⟨U', l2, c2, s2⟩, hW₁, X', ⟨g', mk, t, L, e1, e2, hq, h1, hL, h2, h3⟩, st⟩ | ⟨q, vm₁, ⟨U', l2, c2, s2⟩, hW₁, X', ⟨g', mk, t, L, E, ce, e1, e2, hq, hce, hcv, hcl, h1, hL, h2, h3⟩, st⟩
  · dsimp only [Pt.U, Pt.locs, Pt.cells, Pt.slots] at X' e1 e2 h1 h2 h3 st
    subst h1; subst h2; subst h3
    exact Or.inl ⟨v, (T.setVm vm₁).calling g' mk (Value.ref b :: As).toArray, t, U', L, hT, X', hL, e1, e2, hq, st⟩
  · dsimp only [Pt.U, Pt.locs, Pt.cells, Pt.slots] at X' e1 e2 h1 h2 h3 st hcl
    subst h1; subst h2; subst h3
    exact Or.inr ⟨q, (T.setVm vm₁).calling g' mk (Value.ref b :: As).toArray, t, U', L, E, ce, hT, X', hL, e1, e2, hq, hce, hcv, vx_cls hW₁ hcl, st⟩
theorem vx_runSX {hh : List (Nat × Nat × Nat × Nat)} (S : CallFix p m c cc nL s args Ts own) (hM : vx_Met l y ws rm Pc Qc XC mc ms free) (cw : vx_CSW R s args own index y bytes maxL ret hh ws rm mc ms n) (hp : PreS s H Pc As)
    (hg : g.method = m) (hn : As.length = n) (hsize : g.locals.size = nL) (hstack : g.stack = As.reverse ++ rest) (hW : 2 * g.monitorRoom + (rest.map fun v => v.category).sum ≤ 8) (hdg : decode cc g.pc = .ok (.invokestatic index, 3)) (hf : cells + mc ≤ R.cells ∧ slots + ms ≤ R.slots) :
    vx_Run p l e R s m args below meth c H locs cells slots mc ms g rest (Qc As.toArray) XC free := by
  obtain ⟨⟨hrc, hrs, hfr, hlo, hws, hcw⟩, hcode, hini, hy, hlen, hl, hstt⟩ := cw
  have hK : vx_Back l R p e below s args y 3 8 (PreOf R mc ms Pc) (PostOf Qc mc ms free) (vx_Post XC mc ms free) := vx_backW (hh := hh) (bytes := bytes) (maxL := maxL) (ret := ret) hM hp.1 hrc hrs hfr hlo hws hcw (fun a' U hW => word_at hW (Or.inl (by first | rfl | simp [Cond.onTables, Cond.keeps, Cond.steady])) hini)
  obtain ⟨hx, hb, hml, ho, -⟩ := S
  intro T hT X
  rcases vx_callSX X hx (hh := hh) (bytes := bytes) (maxL := maxL) (ret := ret) ho hl hstt hini hcode hy hK hg (hsize.trans hml.symm) (argsL := As) (rest := rest) (fun sig h => hn.trans (hlen sig h)) hstack hW (by rw [hb]; exact hdg)
    (fun vm₁ hW₁ => ⟨hf.1, hf.2, hp.2 (T.setVm vm₁) hT hW₁⟩) with ⟨v, vm₁, ⟨U', l2, c2, s2⟩, hW₁, X', ⟨g', mk, t, L, e1, e2, hq, h1, hL, h2, h3⟩, st⟩ | ⟨q, vm₁, ⟨U', l2, c2, s2⟩, hW₁, X', ⟨g', mk, t, L, E, ce, e1, e2, hq, hce, hcv, hcl, h1, hL, h2, h3⟩, st⟩
  · dsimp only [Pt.U, Pt.locs, Pt.cells, Pt.slots] at X' e1 e2 h1 h2 h3 st
    subst h1; subst h2; subst h3
    exact Or.inl ⟨v, (T.setVm vm₁).calling g' mk As.toArray, t, U', L, hT, X', hL, e1, e2, hq, st⟩
  · dsimp only [Pt.U, Pt.locs, Pt.cells, Pt.slots] at X' e1 e2 h1 h2 h3 st hcl
    subst h1; subst h2; subst h3
    exact Or.inr ⟨q, (T.setVm vm₁).calling g' mk As.toArray, t, U', L, E, ce, hT, X', hL, e1, e2, hq, hce, hcv, vx_cls hW₁ hcl, st⟩
end
end VXH
theorem vx_ofWH {l : Launch} {y : MethodName} {ws ws' : List Cond} {rm : Room} {Pc : Array Value → State → Prop} {Qc : Array Value → State → Outcome → State → Prop} {XC : String → State → State → Prop} {mc ms : Nat} {free : Addr → Prop} {cc : ByteArray} {maxL : Nat} {ret : Option FieldType} {hh : List (Nat × Nat × Nat × Nat)}
    (hy : plainName y.cls = true) (hw : ws = Cond.codeWith y cc maxL ret hh :: ws')
    (body : ∀ p e s m args below meth c s₁, BodyLoose p l y (headSpec ws rm) cc maxL ret e s m args below meth c s₁ → c.maxLocals = maxL → Pc args s →
      W p l e (headSpec ws rm).room s m args below meth c s.heap [] 0 0 (vx_MQ below Qc XC args s mc ms free) (entryFrame m args maxL)) : vx_Met l y ws rm Pc Qc XC mc ms free := by
  refine MetFree.of_bodyS (code := cc) (maxLocals := maxL) (ret := ret) hy ?_ ?_
  · intro args s m h hn
    obtain ⟨m9, meth, c, hn9, h1, h2, h3, h4, -, h5, h6, -⟩ := Cond.codeWith_spec (atoms_spec (ws := ws) h _ (by rw [hw]; exact List.mem_cons_self))
    cases hn.symm.trans hn9
    exact ⟨meth, c, h1, h2, h3, h4, h5, h6⟩
  · intro p e s m args below meth c s₁ B hml hP _
    have hh0 : s₁.heap = s.heap := by rw [B.state]; rfl
    obtain ⟨t, a1, o, b1, b2, b3⟩ := body p e s m args below meth c s₁ B hml hP s₁ hh0 (Stand.of_body B)
    exact ⟨t, o, a1, b1, b2, b3⟩
/-! ===== END ===== -/

/-! ===== BEGIN printed: names, fields, word lists, decode rows ===== -/
def RX0 : String := "CollectionsEngine$Bill"
def TX0 : u_T := fun k => match k with
  | 0 => ("CollectionsEngine$Bill", "number", "I", true)
  | 1 => ("CollectionsEngine$Bill", "account", "I", true)
  | 2 => ("CollectionsEngine$Bill", "failures", "[I", true)
  | 3 => ("CollectionsEngine$Bill", "left", "I", false)
  | 4 => ("CollectionsEngine$Bill", "state", "I", false)
  | 5 => ("CollectionsEngine$Bill", "waitDay", "I", false)
  | 6 => ("CollectionsEngine$Bill", "tries", "I", false)
  | 7 => ("CollectionsEngine$Bill", "promises", "I", false)
  | 8 => ("CollectionsEngine$Bill", "brokenPromises", "I", false)
  | 9 => ("CollectionsEngine$Bill", "stateAhead", "I", false)
  | _ => ("CollectionsEngine$Bill", "daysAhead", "I", false)
def tyX0 : Nat → FieldType := fun k => match k with
  | 0 => .int
  | 1 => .int
  | 2 => .array .int
  | 3 => .int
  | 4 => .int
  | 5 => .int
  | 6 => .int
  | 7 => .int
  | 8 => .int
  | 9 => .int
  | _ => .int
abbrev wsX00 : List Cond := u_ws RX0 TX0 11
theorem nmX0 : ∀ a, a < 11 → ∀ b, b < 11 → a ≠ b → (TX0 a).2.1 ≠ (TX0 b).2.1 := by decide +kernel
theorem tyX0_ok : ∀ k, k < 11 → parseFieldDescriptor (TX0 k).2.2.1 = some (tyX0 k) := by decide +kernel
abbrev cX0_init : ByteArray := prog_2_method_1_code
def yX0_init : MethodName := ⟨RX0, "<init>", "(III)V"⟩
def RX1 : String := "CollectionsEngine$Calendar"
def TX1 : u_T := fun k => match k with
  | 0 => ("CollectionsEngine$Calendar", "weekdays", "I", false)
  | _ => ("CollectionsEngine$Calendar", "holidays", "[J", true)
def tyX1 : Nat → FieldType := fun k => match k with
  | 0 => .int
  | _ => .array .long
abbrev wsX10 : List Cond := u_ws RX1 TX1 2
theorem nmX1 : ∀ a, a < 2 → ∀ b, b < 2 → a ≠ b → (TX1 a).2.1 ≠ (TX1 b).2.1 := by decide +kernel
theorem tyX1_ok : ∀ k, k < 2 → parseFieldDescriptor (TX1 k).2.2.1 = some (tyX1 k) := by decide +kernel
abbrev cX1_init : ByteArray := prog_3_method_1_code
def yX1_init : MethodName := ⟨RX1, "<init>", "()V"⟩
abbrev cX1_weekdaysWith : ByteArray := prog_3_method_2_code
def yX1_weekdaysWith : MethodName := ⟨RX1, "weekdaysWith", "(IZ)I"⟩
abbrev cX1_keepHoliday : ByteArray := prog_3_method_3_code
def yX1_keepHoliday : MethodName := ⟨RX1, "keepHoliday", "(I)V"⟩
abbrev cX1_isHoliday : ByteArray := prog_3_method_4_code
def yX1_isHoliday : MethodName := ⟨RX1, "isHoliday", "(I)Z"⟩
abbrev cX1_allowsCharging : ByteArray := prog_3_method_5_code
def yX1_allowsCharging : MethodName := ⟨RX1, "allowsCharging", "(I)Z"⟩
abbrev cX1_firstChargingFrom : ByteArray := prog_3_method_6_code
def yX1_firstChargingFrom : MethodName := ⟨RX1, "firstChargingFrom", "(I)I"⟩
def RX2 : String := "CollectionsEngine$EventLog"
def TX2 : u_T := fun k => match k with
  | 0 => ("CollectionsEngine$EventLog", "codes", "[I", true)
  | _ => ("CollectionsEngine$EventLog", "total", "I", false)
def tyX2 : Nat → FieldType := fun k => match k with
  | 0 => .array .int
  | _ => .int
abbrev wsX20 : List Cond := u_ws RX2 TX2 2
theorem nmX2 : ∀ a, a < 2 → ∀ b, b < 2 → a ≠ b → (TX2 a).2.1 ≠ (TX2 b).2.1 := by decide +kernel
theorem tyX2_ok : ∀ k, k < 2 → parseFieldDescriptor (TX2 k).2.2.1 = some (tyX2 k) := by decide +kernel
abbrev cX2_init : ByteArray := prog_4_method_1_code
def yX2_init : MethodName := ⟨RX2, "<init>", "()V"⟩
abbrev cX2_add : ByteArray := prog_4_method_2_code
def yX2_add : MethodName := ⟨RX2, "add", "(III)V"⟩
abbrev cX2_told : ByteArray := prog_4_method_3_code
def yX2_told : MethodName := ⟨RX2, "told", "()I"⟩
abbrev cX2_codeAt : ByteArray := prog_4_method_4_code
def yX2_codeAt : MethodName := ⟨RX2, "codeAt", "(I)I"⟩
abbrev cX2_lastStateOf : ByteArray := prog_4_method_5_code
def yX2_lastStateOf : MethodName := ⟨RX2, "lastStateOf", "(II)I"⟩
def RX3 : String := "CollectionsEngine$Gaps"
def TX3 : u_T := fun k => match k with
  | 0 => ("CollectionsEngine$Gaps", "days", "[I", true)
  | _ => ("CollectionsEngine$Gaps", "count", "I", false)
def tyX3 : Nat → FieldType := fun k => match k with
  | 0 => .array .int
  | _ => .int
abbrev wsX30 : List Cond := u_ws RX3 TX3 2
theorem nmX3 : ∀ a, a < 2 → ∀ b, b < 2 → a ≠ b → (TX3 a).2.1 ≠ (TX3 b).2.1 := by decide +kernel
theorem tyX3_ok : ∀ k, k < 2 → parseFieldDescriptor (TX3 k).2.2.1 = some (tyX3 k) := by decide +kernel
abbrev cX3_init : ByteArray := prog_5_method_1_code
def yX3_init : MethodName := ⟨RX3, "<init>", "([I)V"⟩
abbrev cX3_append : ByteArray := prog_5_method_2_code
def yX3_append : MethodName := ⟨RX3, "append", "(I)V"⟩
abbrev cX3_daysBehind : ByteArray := prog_5_method_3_code
def yX3_daysBehind : MethodName := ⟨RX3, "daysBehind", "(I)I"⟩
def RX4 : String := "CollectionsEngine"
def TX4 : u_T := fun k => match k with
  | 0 => ("CollectionsEngine", "calendar", "LCollectionsEngine$Calendar;", true)
  | 1 => ("CollectionsEngine", "gaps", "[LCollectionsEngine$Gaps;", true)
  | 2 => ("CollectionsEngine", "billRow", "[LCollectionsEngine$Bill;", true)
  | 3 => ("CollectionsEngine", "log", "LCollectionsEngine$EventLog;", true)
  | 4 => ("CollectionsEngine", "billCount", "I", false)
  | 5 => ("CollectionsEngine", "currentDay", "I", false)
  | 6 => ("CollectionsEngine", "graceTime", "I", false)
  | 7 => ("CollectionsEngine", "overdueTime", "I", false)
  | 8 => ("CollectionsEngine", "billedSum", "I", false)
  | 9 => ("CollectionsEngine", "paidSum", "I", false)
  | 10 => ("CollectionsEngine", "writtenOffSum", "I", false)
  | _ => ("CollectionsEngine", "broughtBackSum", "I", false)
def tyX4 : Nat → FieldType := fun k => match k with
  | 0 => .object "CollectionsEngine$Calendar"
  | 1 => .array (.object "CollectionsEngine$Gaps")
  | 2 => .array (.object "CollectionsEngine$Bill")
  | 3 => .object "CollectionsEngine$EventLog"
  | 4 => .int
  | 5 => .int
  | 6 => .int
  | 7 => .int
  | 8 => .int
  | 9 => .int
  | 10 => .int
  | _ => .int
abbrev wsX40 : List Cond := u_ws RX4 TX4 12
theorem nmX4 : ∀ a, a < 12 → ∀ b, b < 12 → a ≠ b → (TX4 a).2.1 ≠ (TX4 b).2.1 := by decide +kernel
theorem tyX4_ok : ∀ k, k < 12 → parseFieldDescriptor (TX4 k).2.2.1 = some (tyX4 k) := by decide +kernel
abbrev cX4_init : ByteArray := prog_1_method_1_code
def yX4_init : MethodName := ⟨RX4, "<init>", "()V"⟩
abbrev cX4_setWeekday : ByteArray := prog_1_method_2_code
def yX4_setWeekday : MethodName := ⟨RX4, "setWeekday", "(IZ)I"⟩
abbrev cX4_addHoliday : ByteArray := prog_1_method_3_code
def yX4_addHoliday : MethodName := ⟨RX4, "addHoliday", "(I)Z"⟩
abbrev cX4_addGap : ByteArray := prog_1_method_4_code
def yX4_addGap : MethodName := ⟨RX4, "addGap", "(II)I"⟩
abbrev cX4_clearGaps : ByteArray := prog_1_method_5_code
def yX4_clearGaps : MethodName := ⟨RX4, "clearGaps", "(I)I"⟩
abbrev cX4_setTimes : ByteArray := prog_1_method_6_code
def yX4_setTimes : MethodName := ⟨RX4, "setTimes", "(II)I"⟩
abbrev cX4_bill : ByteArray := prog_1_method_7_code
def yX4_bill : MethodName := ⟨RX4, "bill", "(II)I"⟩
abbrev cX4_outcome : ByteArray := prog_1_method_8_code
def yX4_outcome : MethodName := ⟨RX4, "outcome", "(II)I"⟩
abbrev cX4_pay : ByteArray := prog_1_method_9_code
def yX4_pay : MethodName := ⟨RX4, "pay", "(II)I"⟩
abbrev cX4_promise : ByteArray := prog_1_method_10_code
def yX4_promise : MethodName := ⟨RX4, "promise", "(II)I"⟩
abbrev cX4_pass : ByteArray := prog_1_method_11_code
def yX4_pass : MethodName := ⟨RX4, "pass", "(I)I"⟩
abbrev cX4_today : ByteArray := prog_1_method_12_code
def yX4_today : MethodName := ⟨RX4, "today", "()I"⟩
abbrev cX4_isCharging : ByteArray := prog_1_method_13_code
def yX4_isCharging : MethodName := ⟨RX4, "isCharging", "(I)Z"⟩
abbrev cX4_bills : ByteArray := prog_1_method_14_code
def yX4_bills : MethodName := ⟨RX4, "bills", "()I"⟩
abbrev cX4_stateOf : ByteArray := prog_1_method_15_code
def yX4_stateOf : MethodName := ⟨RX4, "stateOf", "(I)I"⟩
abbrev cX4_left : ByteArray := prog_1_method_16_code
def yX4_left : MethodName := ⟨RX4, "left", "(I)I"⟩
abbrev cX4_tries : ByteArray := prog_1_method_17_code
def yX4_tries : MethodName := ⟨RX4, "tries", "(I)I"⟩
abbrev cX4_failures : ByteArray := prog_1_method_18_code
def yX4_failures : MethodName := ⟨RX4, "failures", "(II)I"⟩
abbrev cX4_waitsFor : ByteArray := prog_1_method_19_code
def yX4_waitsFor : MethodName := ⟨RX4, "waitsFor", "(I)I"⟩
abbrev cX4_broken : ByteArray := prog_1_method_20_code
def yX4_broken : MethodName := ⟨RX4, "broken", "(I)I"⟩
abbrev cX4_service : ByteArray := prog_1_method_21_code
def yX4_service : MethodName := ⟨RX4, "service", "(I)I"⟩
abbrev cX4_billed : ByteArray := prog_1_method_22_code
def yX4_billed : MethodName := ⟨RX4, "billed", "()I"⟩
abbrev cX4_paid : ByteArray := prog_1_method_23_code
def yX4_paid : MethodName := ⟨RX4, "paid", "()I"⟩
abbrev cX4_writtenOff : ByteArray := prog_1_method_24_code
def yX4_writtenOff : MethodName := ⟨RX4, "writtenOff", "()I"⟩
abbrev cX4_broughtBack : ByteArray := prog_1_method_25_code
def yX4_broughtBack : MethodName := ⟨RX4, "broughtBack", "()I"⟩
abbrev cX4_leftIn : ByteArray := prog_1_method_26_code
def yX4_leftIn : MethodName := ⟨RX4, "leftIn", "(II)I"⟩
abbrev cX4_events : ByteArray := prog_1_method_27_code
def yX4_events : MethodName := ⟨RX4, "events", "()I"⟩
abbrev cX4_event : ByteArray := prog_1_method_28_code
def yX4_event : MethodName := ⟨RX4, "event", "(I)I"⟩
abbrev cX4_stateAt : ByteArray := prog_1_method_29_code
def yX4_stateAt : MethodName := ⟨RX4, "stateAt", "(II)I"⟩
abbrev cX4_checkRange : ByteArray := prog_1_method_30_code
def yX4_checkRange : MethodName := ⟨RX4, "checkRange", "(III)V"⟩
abbrev cX4_checkAccount : ByteArray := prog_1_method_31_code
def yX4_checkAccount : MethodName := ⟨RX4, "checkAccount", "(I)V"⟩
abbrev cX4_indexOfReason : ByteArray := prog_1_method_32_code
def yX4_indexOfReason : MethodName := ⟨RX4, "indexOfReason", "(I)I"⟩
abbrev cX4_findBill : ByteArray := prog_1_method_33_code
def yX4_findBill : MethodName := ⟨RX4, "findBill", "(I)LCollectionsEngine$Bill;"⟩
abbrev cX4_enter : ByteArray := prog_1_method_34_code
def yX4_enter : MethodName := ⟨RX4, "enter", "(LCollectionsEngine$Bill;II)V"⟩
abbrev cX4_takePayment : ByteArray := prog_1_method_35_code
def yX4_takePayment : MethodName := ⟨RX4, "takePayment", "(LCollectionsEngine$Bill;I)V"⟩
abbrev cX4_fail : ByteArray := prog_1_method_36_code
def yX4_fail : MethodName := ⟨RX4, "fail", "(LCollectionsEngine$Bill;I)V"⟩
abbrev cX4_failUnansweredTries : ByteArray := prog_1_method_37_code
def yX4_failUnansweredTries : MethodName := ⟨RX4, "failUnansweredTries", "()V"⟩
abbrev cX4_lookAtBills : ByteArray := prog_1_method_38_code
def yX4_lookAtBills : MethodName := ⟨RX4, "lookAtBills", "()I"⟩
abbrev cX4_lookAt : ByteArray := prog_1_method_39_code
def yX4_lookAt : MethodName := ⟨RX4, "lookAt", "(LCollectionsEngine$Bill;)Z"⟩
abbrev cX4_beginTry : ByteArray := prog_1_method_40_code
def yX4_beginTry : MethodName := ⟨RX4, "beginTry", "(LCollectionsEngine$Bill;)Z"⟩
abbrev cX4_breakPromise : ByteArray := prog_1_method_41_code
def yX4_breakPromise : MethodName := ⟨RX4, "breakPromise", "(LCollectionsEngine$Bill;)V"⟩
abbrev cX4_serviceWith : ByteArray := prog_1_method_42_code
def yX4_serviceWith : MethodName := ⟨RX4, "serviceWith", "(LCollectionsEngine$Bill;)I"⟩
def RX5 : String := "CollectionsEngineModel"
def TX5 : u_T := fun k => match k with
  | 0 => ("CollectionsEngineModel", "now", "I", false)
  | 1 => ("CollectionsEngineModel", "isWeekday", "[Z", true)
  | 2 => ("CollectionsEngineModel", "holidays", "[I", true)
  | 3 => ("CollectionsEngineModel", "holidayMany", "I", false)
  | 4 => ("CollectionsEngineModel", "gaps", "[I", true)
  | 5 => ("CollectionsEngineModel", "gapMany", "[I", true)
  | 6 => ("CollectionsEngineModel", "graceTime", "I", false)
  | 7 => ("CollectionsEngineModel", "overdueTime", "I", false)
  | 8 => ("CollectionsEngineModel", "billMany", "I", false)
  | 9 => ("CollectionsEngineModel", "accounts", "[I", true)
  | 10 => ("CollectionsEngineModel", "amounts", "[I", true)
  | 11 => ("CollectionsEngineModel", "lefts", "[I", true)
  | 12 => ("CollectionsEngineModel", "states", "[I", true)
  | 13 => ("CollectionsEngineModel", "waits", "[I", true)
  | 14 => ("CollectionsEngineModel", "tryMany", "[I", true)
  | 15 => ("CollectionsEngineModel", "failed", "[I", true)
  | 16 => ("CollectionsEngineModel", "promises", "[I", true)
  | 17 => ("CollectionsEngineModel", "brokenMany", "[I", true)
  | 18 => ("CollectionsEngineModel", "keptStates", "[I", true)
  | 19 => ("CollectionsEngineModel", "keptDays", "[I", true)
  | 20 => ("CollectionsEngineModel", "paidSum", "I", false)
  | 21 => ("CollectionsEngineModel", "offSum", "I", false)
  | 22 => ("CollectionsEngineModel", "backSum", "I", false)
  | 23 => ("CollectionsEngineModel", "told", "[I", true)
  | 24 => ("CollectionsEngineModel", "eventMany", "I", false)
  | _ => ("CollectionsEngineModel", "thrown", "I", false)
def tyX5 : Nat → FieldType := fun k => match k with
  | 0 => .int
  | 1 => .array .boolean
  | 2 => .array .int
  | 3 => .int
  | 4 => .array .int
  | 5 => .array .int
  | 6 => .int
  | 7 => .int
  | 8 => .int
  | 9 => .array .int
  | 10 => .array .int
  | 11 => .array .int
  | 12 => .array .int
  | 13 => .array .int
  | 14 => .array .int
  | 15 => .array .int
  | 16 => .array .int
  | 17 => .array .int
  | 18 => .array .int
  | 19 => .array .int
  | 20 => .int
  | 21 => .int
  | 22 => .int
  | 23 => .array .int
  | 24 => .int
  | _ => .int
abbrev wsX50 : List Cond := u_ws RX5 TX5 26
theorem nmX5 : ∀ a, a < 26 → ∀ b, b < 26 → a ≠ b → (TX5 a).2.1 ≠ (TX5 b).2.1 := by decide +kernel
theorem tyX5_ok : ∀ k, k < 26 → parseFieldDescriptor (TX5 k).2.2.1 = some (tyX5 k) := by decide +kernel
abbrev cX5_init : ByteArray := prog_7_method_1_code
def yX5_init : MethodName := ⟨RX5, "<init>", "()V"⟩
abbrev cX5_addGaps : ByteArray := prog_7_method_2_code
def yX5_addGaps : MethodName := ⟨RX5, "addGaps", "(IIII)V"⟩
abbrev cX5_thrown : ByteArray := prog_7_method_3_code
def yX5_thrown : MethodName := ⟨RX5, "thrown", "()I"⟩
abbrev cX5_in : ByteArray := prog_7_method_4_code
def yX5_in : MethodName := ⟨RX5, "in", "(III)Z"⟩
abbrev cX5_isHoliday : ByteArray := prog_7_method_5_code
def yX5_isHoliday : MethodName := ⟨RX5, "isHoliday", "(I)Z"⟩
abbrev cX5_charges : ByteArray := prog_7_method_6_code
def yX5_charges : MethodName := ⟨RX5, "charges", "(I)Z"⟩
abbrev cX5_chargingFrom : ByteArray := prog_7_method_7_code
def yX5_chargingFrom : MethodName := ⟨RX5, "chargingFrom", "(I)I"⟩
abbrev cX5_setWeekday : ByteArray := prog_7_method_8_code
def yX5_setWeekday : MethodName := ⟨RX5, "setWeekday", "(IZ)I"⟩
abbrev cX5_addHoliday : ByteArray := prog_7_method_9_code
def yX5_addHoliday : MethodName := ⟨RX5, "addHoliday", "(I)Z"⟩
abbrev cX5_addGap : ByteArray := prog_7_method_10_code
def yX5_addGap : MethodName := ⟨RX5, "addGap", "(II)I"⟩
abbrev cX5_clearGaps : ByteArray := prog_7_method_11_code
def yX5_clearGaps : MethodName := ⟨RX5, "clearGaps", "(I)I"⟩
abbrev cX5_setTimes : ByteArray := prog_7_method_12_code
def yX5_setTimes : MethodName := ⟨RX5, "setTimes", "(II)I"⟩
abbrev cX5_enter : ByteArray := prog_7_method_13_code
def yX5_enter : MethodName := ⟨RX5, "enter", "(II)V"⟩
abbrev cX5_bill : ByteArray := prog_7_method_14_code
def yX5_bill : MethodName := ⟨RX5, "bill", "(II)I"⟩
abbrev cX5_fail : ByteArray := prog_7_method_15_code
def yX5_fail : MethodName := ⟨RX5, "fail", "(II)V"⟩
abbrev cX5_receive : ByteArray := prog_7_method_16_code
def yX5_receive : MethodName := ⟨RX5, "receive", "(II)V"⟩
abbrev cX5_isBill : ByteArray := prog_7_method_17_code
def yX5_isBill : MethodName := ⟨RX5, "isBill", "(I)Z"⟩
abbrev cX5_outcome : ByteArray := prog_7_method_18_code
def yX5_outcome : MethodName := ⟨RX5, "outcome", "(II)I"⟩
abbrev cX5_pay : ByteArray := prog_7_method_19_code
def yX5_pay : MethodName := ⟨RX5, "pay", "(II)I"⟩
abbrev cX5_promise : ByteArray := prog_7_method_20_code
def yX5_promise : MethodName := ⟨RX5, "promise", "(II)I"⟩
abbrev cX5_breakPromise : ByteArray := prog_7_method_21_code
def yX5_breakPromise : MethodName := ⟨RX5, "breakPromise", "(I)V"⟩
abbrev cX5_look : ByteArray := prog_7_method_22_code
def yX5_look : MethodName := ⟨RX5, "look", "(I)Z"⟩
abbrev cX5_passDay : ByteArray := prog_7_method_23_code
def yX5_passDay : MethodName := ⟨RX5, "passDay", "()I"⟩
abbrev cX5_pass : ByteArray := prog_7_method_24_code
def yX5_pass : MethodName := ⟨RX5, "pass", "(I)I"⟩
abbrev cX5_today : ByteArray := prog_7_method_25_code
def yX5_today : MethodName := ⟨RX5, "today", "()I"⟩
abbrev cX5_isCharging : ByteArray := prog_7_method_26_code
def yX5_isCharging : MethodName := ⟨RX5, "isCharging", "(I)Z"⟩
abbrev cX5_bills : ByteArray := prog_7_method_27_code
def yX5_bills : MethodName := ⟨RX5, "bills", "()I"⟩
abbrev cX5_stateOf : ByteArray := prog_7_method_28_code
def yX5_stateOf : MethodName := ⟨RX5, "stateOf", "(I)I"⟩
abbrev cX5_left : ByteArray := prog_7_method_29_code
def yX5_left : MethodName := ⟨RX5, "left", "(I)I"⟩
abbrev cX5_tries : ByteArray := prog_7_method_30_code
def yX5_tries : MethodName := ⟨RX5, "tries", "(I)I"⟩
abbrev cX5_failures : ByteArray := prog_7_method_31_code
def yX5_failures : MethodName := ⟨RX5, "failures", "(II)I"⟩
abbrev cX5_waitsFor : ByteArray := prog_7_method_32_code
def yX5_waitsFor : MethodName := ⟨RX5, "waitsFor", "(I)I"⟩
abbrev cX5_broken : ByteArray := prog_7_method_33_code
def yX5_broken : MethodName := ⟨RX5, "broken", "(I)I"⟩
abbrev cX5_service : ByteArray := prog_7_method_34_code
def yX5_service : MethodName := ⟨RX5, "service", "(I)I"⟩
abbrev cX5_billed : ByteArray := prog_7_method_35_code
def yX5_billed : MethodName := ⟨RX5, "billed", "()I"⟩
abbrev cX5_paid : ByteArray := prog_7_method_36_code
def yX5_paid : MethodName := ⟨RX5, "paid", "()I"⟩
abbrev cX5_writtenOff : ByteArray := prog_7_method_37_code
def yX5_writtenOff : MethodName := ⟨RX5, "writtenOff", "()I"⟩
abbrev cX5_broughtBack : ByteArray := prog_7_method_38_code
def yX5_broughtBack : MethodName := ⟨RX5, "broughtBack", "()I"⟩
abbrev cX5_leftIn : ByteArray := prog_7_method_39_code
def yX5_leftIn : MethodName := ⟨RX5, "leftIn", "(II)I"⟩
abbrev cX5_events : ByteArray := prog_7_method_40_code
def yX5_events : MethodName := ⟨RX5, "events", "()I"⟩
abbrev cX5_event : ByteArray := prog_7_method_41_code
def yX5_event : MethodName := ⟨RX5, "event", "(I)I"⟩
abbrev cX5_stateAt : ByteArray := prog_7_method_42_code
def yX5_stateAt : MethodName := ⟨RX5, "stateAt", "(II)I"⟩
def RJ6 : String := "java/lang/Integer"
def TJ6 : u_T := fun k => match k with
  | _ => ("", "", "", false)
def tyJ6 : Nat → FieldType := fun k => match k with
  | _ => .int
abbrev wsJ60 : List Cond := u_ws RJ6 TJ6 0
theorem nmJ6 : ∀ a, a < 0 → ∀ b, b < 0 → a ≠ b → (TJ6 a).2.1 ≠ (TJ6 b).2.1 := by decide +kernel
theorem tyJ6_ok : ∀ k, k < 0 → parseFieldDescriptor (TJ6 k).2.2.1 = some (tyJ6 k) := by decide +kernel
abbrev cJ6_bitCount_0f7a4 : ByteArray := prog_12_method_49_code
def yJ6_bitCount_0f7a4 : MethodName := ⟨RJ6, "bitCount", "(I)I"⟩
def RJ9 : String := "java/lang/Math"
def TJ9 : u_T := fun k => match k with
  | _ => ("", "", "", false)
def tyJ9 : Nat → FieldType := fun k => match k with
  | _ => .int
abbrev wsJ90 : List Cond := u_ws RJ9 TJ9 0
theorem nmJ9 : ∀ a, a < 0 → ∀ b, b < 0 → a ≠ b → (TJ9 a).2.1 ≠ (TJ9 b).2.1 := by decide +kernel
theorem tyJ9_ok : ∀ k, k < 0 → parseFieldDescriptor (TJ9 k).2.2.1 = some (tyJ9 k) := by decide +kernel
abbrev cJ9_floorMod_7cf53 : ByteArray := prog_13_method_50_code
def yJ9_floorMod_7cf53 : MethodName := ⟨RJ9, "floorMod", "(II)I"⟩
abbrev cJ9_min_7cf53 : ByteArray := prog_13_method_69_code
def yJ9_min_7cf53 : MethodName := ⟨RJ9, "min", "(II)I"⟩
def RJ0 : String := "java/lang/String"
def TJ0 : u_T := fun k => match k with
  | _ => ("", "", "", false)
def tyJ0 : Nat → FieldType := fun k => match k with
  | _ => .int
abbrev wsJ00 : List Cond := u_ws RJ0 TJ0 0
theorem nmJ0 : ∀ a, a < 0 → ∀ b, b < 0 → a ≠ b → (TJ0 a).2.1 ≠ (TJ0 b).2.1 := by decide +kernel
theorem tyJ0_ok : ∀ k, k < 0 → parseFieldDescriptor (TJ0 k).2.2.1 = some (tyJ0 k) := by decide +kernel
def RL : String := "CollectionsEngineLaw"
abbrev cL_setWeekday : ByteArray := method_3_code
def yL_setWeekday : MethodName := ⟨RL, "setWeekday", "(LCollectionsEngine;IZ[J)I"⟩
abbrev cL_addHoliday : ByteArray := method_4_code
def yL_addHoliday : MethodName := ⟨RL, "addHoliday", "(LCollectionsEngine;I[J)I"⟩
abbrev cL_addGap : ByteArray := method_5_code
def yL_addGap : MethodName := ⟨RL, "addGap", "(LCollectionsEngine;II[J)I"⟩
abbrev cL_clearGaps : ByteArray := method_6_code
def yL_clearGaps : MethodName := ⟨RL, "clearGaps", "(LCollectionsEngine;I[J)I"⟩
abbrev cL_setTimes : ByteArray := method_7_code
def yL_setTimes : MethodName := ⟨RL, "setTimes", "(LCollectionsEngine;II[J)I"⟩
abbrev cL_bill : ByteArray := method_8_code
def yL_bill : MethodName := ⟨RL, "bill", "(LCollectionsEngine;II[J)I"⟩
abbrev cL_outcome : ByteArray := method_9_code
def yL_outcome : MethodName := ⟨RL, "outcome", "(LCollectionsEngine;II[J)I"⟩
abbrev cL_pay : ByteArray := method_10_code
def yL_pay : MethodName := ⟨RL, "pay", "(LCollectionsEngine;II[J)I"⟩
abbrev cL_promise : ByteArray := method_11_code
def yL_promise : MethodName := ⟨RL, "promise", "(LCollectionsEngine;II[J)I"⟩
abbrev cL_pass : ByteArray := method_12_code
def yL_pass : MethodName := ⟨RL, "pass", "(LCollectionsEngine;I[J)I"⟩
abbrev cL_isCharging : ByteArray := method_13_code
def yL_isCharging : MethodName := ⟨RL, "isCharging", "(LCollectionsEngine;I[J)I"⟩
abbrev cL_stateOf : ByteArray := method_14_code
def yL_stateOf : MethodName := ⟨RL, "stateOf", "(LCollectionsEngine;I[J)I"⟩
abbrev cL_left : ByteArray := method_15_code
def yL_left : MethodName := ⟨RL, "left", "(LCollectionsEngine;I[J)I"⟩
abbrev cL_tries : ByteArray := method_16_code
def yL_tries : MethodName := ⟨RL, "tries", "(LCollectionsEngine;I[J)I"⟩
abbrev cL_failures : ByteArray := method_17_code
def yL_failures : MethodName := ⟨RL, "failures", "(LCollectionsEngine;II[J)I"⟩
abbrev cL_waitsFor : ByteArray := method_18_code
def yL_waitsFor : MethodName := ⟨RL, "waitsFor", "(LCollectionsEngine;I[J)I"⟩
abbrev cL_broken : ByteArray := method_19_code
def yL_broken : MethodName := ⟨RL, "broken", "(LCollectionsEngine;I[J)I"⟩
abbrev cL_service : ByteArray := method_20_code
def yL_service : MethodName := ⟨RL, "service", "(LCollectionsEngine;I[J)I"⟩
abbrev cL_leftIn : ByteArray := method_21_code
def yL_leftIn : MethodName := ⟨RL, "leftIn", "(LCollectionsEngine;II[J)I"⟩
abbrev cL_event : ByteArray := method_22_code
def yL_event : MethodName := ⟨RL, "event", "(LCollectionsEngine;I[J)I"⟩
abbrev cL_stateAt : ByteArray := method_23_code
def yL_stateAt : MethodName := ⟨RL, "stateAt", "(LCollectionsEngine;II[J)I"⟩
abbrev cL_law : ByteArray := code
def yL_law : MethodName := ⟨RL, "law", "([I)Z"⟩
theorem dX0_init_0 : decode cX0_init 0 = .ok (.aload_n 0, 1) := by decide +kernel
theorem dX0_init_1 : decode cX0_init 1 = .ok (.invokespecial 3, 3) := by decide +kernel
theorem dX0_init_4 : decode cX0_init 4 = .ok (.aload_n 0, 1) := by decide +kernel
theorem dX0_init_5 : decode cX0_init 5 = .ok (.iload_n 1, 1) := by decide +kernel
theorem dX0_init_6 : decode cX0_init 6 = .ok (.putfield 9, 3) := by decide +kernel
theorem dX0_init_9 : decode cX0_init 9 = .ok (.aload_n 0, 1) := by decide +kernel
theorem dX0_init_10 : decode cX0_init 10 = .ok (.iload_n 2, 1) := by decide +kernel
theorem dX0_init_11 : decode cX0_init 11 = .ok (.putfield 15, 3) := by decide +kernel
theorem dX0_init_14 : decode cX0_init 14 = .ok (.aload_n 0, 1) := by decide +kernel
theorem dX0_init_15 : decode cX0_init 15 = .ok (.iload_n 3, 1) := by decide +kernel
theorem dX0_init_16 : decode cX0_init 16 = .ok (.putfield 18, 3) := by decide +kernel
theorem dX0_init_19 : decode cX0_init 19 = .ok (.aload_n 0, 1) := by decide +kernel
theorem dX0_init_20 : decode cX0_init 20 = .ok (.iconst 4, 1) := by decide +kernel
theorem dX0_init_21 : decode cX0_init 21 = .ok (.newarray .int, 2) := by decide +kernel
theorem dX0_init_23 : decode cX0_init 23 = .ok (.putfield 21, 3) := by decide +kernel
theorem dX0_init_26 : decode cX0_init 26 = .ok (.return_, 1) := by decide +kernel
theorem dX1_init_0 : decode cX1_init 0 = .ok (.aload_n 0, 1) := by decide +kernel
theorem dX1_init_1 : decode cX1_init 1 = .ok (.invokespecial 1, 3) := by decide +kernel
theorem dX1_init_4 : decode cX1_init 4 = .ok (.aload_n 0, 1) := by decide +kernel
theorem dX1_init_5 : decode cX1_init 5 = .ok (.bipush 31, 2) := by decide +kernel
theorem dX1_init_7 : decode cX1_init 7 = .ok (.putfield 9, 3) := by decide +kernel
theorem dX1_init_10 : decode cX1_init 10 = .ok (.aload_n 0, 1) := by decide +kernel
theorem dX1_init_11 : decode cX1_init 11 = .ok (.sipush 485, 3) := by decide +kernel
theorem dX1_init_14 : decode cX1_init 14 = .ok (.newarray .long, 2) := by decide +kernel
theorem dX1_init_16 : decode cX1_init 16 = .ok (.putfield 13, 3) := by decide +kernel
theorem dX1_init_19 : decode cX1_init 19 = .ok (.return_, 1) := by decide +kernel
theorem dX1_weekdaysWith_0 : decode cX1_weekdaysWith 0 = .ok (.iconst 1, 1) := by decide +kernel
theorem dX1_weekdaysWith_1 : decode cX1_weekdaysWith 1 = .ok (.iload_n 1, 1) := by decide +kernel
theorem dX1_weekdaysWith_2 : decode cX1_weekdaysWith 2 = .ok (.ishl, 1) := by decide +kernel
theorem dX1_weekdaysWith_3 : decode cX1_weekdaysWith 3 = .ok (.istore_n 3, 1) := by decide +kernel
theorem dX1_weekdaysWith_4 : decode cX1_weekdaysWith 4 = .ok (.iload_n 2, 1) := by decide +kernel
theorem dX1_weekdaysWith_5 : decode cX1_weekdaysWith 5 = .ok (.ifCond .eq 12, 3) := by decide +kernel
theorem dX1_weekdaysWith_8 : decode cX1_weekdaysWith 8 = .ok (.aload_n 0, 1) := by decide +kernel
theorem dX1_weekdaysWith_9 : decode cX1_weekdaysWith 9 = .ok (.getfield 9, 3) := by decide +kernel
theorem dX1_weekdaysWith_12 : decode cX1_weekdaysWith 12 = .ok (.iload_n 3, 1) := by decide +kernel
theorem dX1_weekdaysWith_13 : decode cX1_weekdaysWith 13 = .ok (.ior, 1) := by decide +kernel
theorem dX1_weekdaysWith_14 : decode cX1_weekdaysWith 14 = .ok (.goto 11, 3) := by decide +kernel
theorem dX1_weekdaysWith_17 : decode cX1_weekdaysWith 17 = .ok (.aload_n 0, 1) := by decide +kernel
theorem dX1_weekdaysWith_18 : decode cX1_weekdaysWith 18 = .ok (.getfield 9, 3) := by decide +kernel
theorem dX1_weekdaysWith_21 : decode cX1_weekdaysWith 21 = .ok (.iload_n 3, 1) := by decide +kernel
theorem dX1_weekdaysWith_22 : decode cX1_weekdaysWith 22 = .ok (.iconst (-1), 1) := by decide +kernel
theorem dX1_weekdaysWith_23 : decode cX1_weekdaysWith 23 = .ok (.ixor, 1) := by decide +kernel
theorem dX1_weekdaysWith_24 : decode cX1_weekdaysWith 24 = .ok (.iand, 1) := by decide +kernel
theorem dX1_weekdaysWith_25 : decode cX1_weekdaysWith 25 = .ok (.ireturn, 1) := by decide +kernel
theorem dX1_keepHoliday_0 : decode cX1_keepHoliday 0 = .ok (.iload_n 1, 1) := by decide +kernel
theorem dX1_keepHoliday_1 : decode cX1_keepHoliday 1 = .ok (.bipush 6, 2) := by decide +kernel
theorem dX1_keepHoliday_3 : decode cX1_keepHoliday 3 = .ok (.ishr, 1) := by decide +kernel
theorem dX1_keepHoliday_4 : decode cX1_keepHoliday 4 = .ok (.istore_n 2, 1) := by decide +kernel
theorem dX1_keepHoliday_5 : decode cX1_keepHoliday 5 = .ok (.iload_n 2, 1) := by decide +kernel
theorem dX1_keepHoliday_6 : decode cX1_keepHoliday 6 = .ok (.ifCond .lt 27, 3) := by decide +kernel
theorem dX1_keepHoliday_9 : decode cX1_keepHoliday 9 = .ok (.iload_n 2, 1) := by decide +kernel
theorem dX1_keepHoliday_10 : decode cX1_keepHoliday 10 = .ok (.aload_n 0, 1) := by decide +kernel
theorem dX1_keepHoliday_11 : decode cX1_keepHoliday 11 = .ok (.getfield 13, 3) := by decide +kernel
theorem dX1_keepHoliday_14 : decode cX1_keepHoliday 14 = .ok (.arraylength, 1) := by decide +kernel
theorem dX1_keepHoliday_15 : decode cX1_keepHoliday 15 = .ok (.if_icmp .ge 18, 3) := by decide +kernel
theorem dX1_keepHoliday_18 : decode cX1_keepHoliday 18 = .ok (.aload_n 0, 1) := by decide +kernel
theorem dX1_keepHoliday_19 : decode cX1_keepHoliday 19 = .ok (.getfield 13, 3) := by decide +kernel
theorem dX1_keepHoliday_22 : decode cX1_keepHoliday 22 = .ok (.iload_n 2, 1) := by decide +kernel
theorem dX1_keepHoliday_23 : decode cX1_keepHoliday 23 = .ok (.dup2, 1) := by decide +kernel
theorem dX1_keepHoliday_24 : decode cX1_keepHoliday 24 = .ok (.laload, 1) := by decide +kernel
theorem dX1_keepHoliday_25 : decode cX1_keepHoliday 25 = .ok (.lconst 1, 1) := by decide +kernel
theorem dX1_keepHoliday_26 : decode cX1_keepHoliday 26 = .ok (.iload_n 1, 1) := by decide +kernel
theorem dX1_keepHoliday_27 : decode cX1_keepHoliday 27 = .ok (.bipush 63, 2) := by decide +kernel
theorem dX1_keepHoliday_29 : decode cX1_keepHoliday 29 = .ok (.iand, 1) := by decide +kernel
theorem dX1_keepHoliday_30 : decode cX1_keepHoliday 30 = .ok (.lshl, 1) := by decide +kernel
theorem dX1_keepHoliday_31 : decode cX1_keepHoliday 31 = .ok (.lor, 1) := by decide +kernel
theorem dX1_keepHoliday_32 : decode cX1_keepHoliday 32 = .ok (.lastore, 1) := by decide +kernel
theorem dX1_keepHoliday_33 : decode cX1_keepHoliday 33 = .ok (.return_, 1) := by decide +kernel
theorem dX1_isHoliday_0 : decode cX1_isHoliday 0 = .ok (.iload_n 1, 1) := by decide +kernel
theorem dX1_isHoliday_1 : decode cX1_isHoliday 1 = .ok (.bipush 6, 2) := by decide +kernel
theorem dX1_isHoliday_3 : decode cX1_isHoliday 3 = .ok (.ishr, 1) := by decide +kernel
theorem dX1_isHoliday_4 : decode cX1_isHoliday 4 = .ok (.istore_n 2, 1) := by decide +kernel
theorem dX1_isHoliday_5 : decode cX1_isHoliday 5 = .ok (.iload_n 2, 1) := by decide +kernel
theorem dX1_isHoliday_6 : decode cX1_isHoliday 6 = .ok (.ifCond .lt 34, 3) := by decide +kernel
theorem dX1_isHoliday_9 : decode cX1_isHoliday 9 = .ok (.iload_n 2, 1) := by decide +kernel
theorem dX1_isHoliday_10 : decode cX1_isHoliday 10 = .ok (.aload_n 0, 1) := by decide +kernel
theorem dX1_isHoliday_11 : decode cX1_isHoliday 11 = .ok (.getfield 13, 3) := by decide +kernel
theorem dX1_isHoliday_14 : decode cX1_isHoliday 14 = .ok (.arraylength, 1) := by decide +kernel
theorem dX1_isHoliday_15 : decode cX1_isHoliday 15 = .ok (.if_icmp .ge 25, 3) := by decide +kernel
theorem dX1_isHoliday_18 : decode cX1_isHoliday 18 = .ok (.aload_n 0, 1) := by decide +kernel
theorem dX1_isHoliday_19 : decode cX1_isHoliday 19 = .ok (.getfield 13, 3) := by decide +kernel
theorem dX1_isHoliday_22 : decode cX1_isHoliday 22 = .ok (.iload_n 2, 1) := by decide +kernel
theorem dX1_isHoliday_23 : decode cX1_isHoliday 23 = .ok (.laload, 1) := by decide +kernel
theorem dX1_isHoliday_24 : decode cX1_isHoliday 24 = .ok (.iload_n 1, 1) := by decide +kernel
theorem dX1_isHoliday_25 : decode cX1_isHoliday 25 = .ok (.bipush 63, 2) := by decide +kernel
theorem dX1_isHoliday_27 : decode cX1_isHoliday 27 = .ok (.iand, 1) := by decide +kernel
theorem dX1_isHoliday_28 : decode cX1_isHoliday 28 = .ok (.lushr, 1) := by decide +kernel
theorem dX1_isHoliday_29 : decode cX1_isHoliday 29 = .ok (.lconst 1, 1) := by decide +kernel
theorem dX1_isHoliday_30 : decode cX1_isHoliday 30 = .ok (.land, 1) := by decide +kernel
theorem dX1_isHoliday_31 : decode cX1_isHoliday 31 = .ok (.lconst 1, 1) := by decide +kernel
theorem dX1_isHoliday_32 : decode cX1_isHoliday 32 = .ok (.lcmp, 1) := by decide +kernel
theorem dX1_isHoliday_33 : decode cX1_isHoliday 33 = .ok (.ifCond .ne 7, 3) := by decide +kernel
theorem dX1_isHoliday_36 : decode cX1_isHoliday 36 = .ok (.iconst 1, 1) := by decide +kernel
theorem dX1_isHoliday_37 : decode cX1_isHoliday 37 = .ok (.goto 4, 3) := by decide +kernel
theorem dX1_isHoliday_40 : decode cX1_isHoliday 40 = .ok (.iconst 0, 1) := by decide +kernel
theorem dX1_isHoliday_41 : decode cX1_isHoliday 41 = .ok (.ireturn, 1) := by decide +kernel
theorem dX1_allowsCharging_0 : decode cX1_allowsCharging 0 = .ok (.iconst 1, 1) := by decide +kernel
theorem dX1_allowsCharging_1 : decode cX1_allowsCharging 1 = .ok (.iload_n 1, 1) := by decide +kernel
theorem dX1_allowsCharging_2 : decode cX1_allowsCharging 2 = .ok (.bipush 7, 2) := by decide +kernel
theorem dX1_allowsCharging_4 : decode cX1_allowsCharging 4 = .ok (.invokestatic 17, 3) := by decide +kernel
theorem dX1_allowsCharging_7 : decode cX1_allowsCharging 7 = .ok (.ishl, 1) := by decide +kernel
theorem dX1_allowsCharging_8 : decode cX1_allowsCharging 8 = .ok (.istore_n 2, 1) := by decide +kernel
theorem dX1_allowsCharging_9 : decode cX1_allowsCharging 9 = .ok (.aload_n 0, 1) := by decide +kernel
theorem dX1_allowsCharging_10 : decode cX1_allowsCharging 10 = .ok (.getfield 9, 3) := by decide +kernel
theorem dX1_allowsCharging_13 : decode cX1_allowsCharging 13 = .ok (.iload_n 2, 1) := by decide +kernel
theorem dX1_allowsCharging_14 : decode cX1_allowsCharging 14 = .ok (.iand, 1) := by decide +kernel
theorem dX1_allowsCharging_15 : decode cX1_allowsCharging 15 = .ok (.ifCond .eq 15, 3) := by decide +kernel
theorem dX1_allowsCharging_18 : decode cX1_allowsCharging 18 = .ok (.aload_n 0, 1) := by decide +kernel
theorem dX1_allowsCharging_19 : decode cX1_allowsCharging 19 = .ok (.iload_n 1, 1) := by decide +kernel
theorem dX1_allowsCharging_20 : decode cX1_allowsCharging 20 = .ok (.invokevirtual 23, 3) := by decide +kernel
theorem dX1_allowsCharging_23 : decode cX1_allowsCharging 23 = .ok (.ifCond .ne 7, 3) := by decide +kernel
theorem dX1_allowsCharging_26 : decode cX1_allowsCharging 26 = .ok (.iconst 1, 1) := by decide +kernel
theorem dX1_allowsCharging_27 : decode cX1_allowsCharging 27 = .ok (.goto 4, 3) := by decide +kernel
theorem dX1_allowsCharging_30 : decode cX1_allowsCharging 30 = .ok (.iconst 0, 1) := by decide +kernel
theorem dX1_allowsCharging_31 : decode cX1_allowsCharging 31 = .ok (.ireturn, 1) := by decide +kernel
theorem dX1_firstChargingFrom_0 : decode cX1_firstChargingFrom 0 = .ok (.iload_n 1, 1) := by decide +kernel
theorem dX1_firstChargingFrom_1 : decode cX1_firstChargingFrom 1 = .ok (.istore_n 2, 1) := by decide +kernel
theorem dX1_firstChargingFrom_2 : decode cX1_firstChargingFrom 2 = .ok (.iconst 0, 1) := by decide +kernel
theorem dX1_firstChargingFrom_3 : decode cX1_firstChargingFrom 3 = .ok (.istore_n 3, 1) := by decide +kernel
theorem dX1_firstChargingFrom_4 : decode cX1_firstChargingFrom 4 = .ok (.iload_n 3, 1) := by decide +kernel
theorem dX1_firstChargingFrom_5 : decode cX1_firstChargingFrom 5 = .ok (.sipush 1000, 3) := by decide +kernel
theorem dX1_firstChargingFrom_8 : decode cX1_firstChargingFrom 8 = .ok (.if_icmp .ge 20, 3) := by decide +kernel
theorem dX1_firstChargingFrom_11 : decode cX1_firstChargingFrom 11 = .ok (.aload_n 0, 1) := by decide +kernel
theorem dX1_firstChargingFrom_12 : decode cX1_firstChargingFrom 12 = .ok (.iload_n 2, 1) := by decide +kernel
theorem dX1_firstChargingFrom_13 : decode cX1_firstChargingFrom 13 = .ok (.invokevirtual 27, 3) := by decide +kernel
theorem dX1_firstChargingFrom_16 : decode cX1_firstChargingFrom 16 = .ok (.ifCond .ne 12, 3) := by decide +kernel
theorem dX1_firstChargingFrom_19 : decode cX1_firstChargingFrom 19 = .ok (.iinc 2 1, 3) := by decide +kernel
theorem dX1_firstChargingFrom_22 : decode cX1_firstChargingFrom 22 = .ok (.iinc 3 1, 3) := by decide +kernel
theorem dX1_firstChargingFrom_25 : decode cX1_firstChargingFrom 25 = .ok (.goto (-21), 3) := by decide +kernel
theorem dX1_firstChargingFrom_28 : decode cX1_firstChargingFrom 28 = .ok (.iload_n 2, 1) := by decide +kernel
theorem dX1_firstChargingFrom_29 : decode cX1_firstChargingFrom 29 = .ok (.ireturn, 1) := by decide +kernel
theorem dX2_init_0 : decode cX2_init 0 = .ok (.aload_n 0, 1) := by decide +kernel
theorem dX2_init_1 : decode cX2_init 1 = .ok (.invokespecial 3, 3) := by decide +kernel
theorem dX2_init_4 : decode cX2_init 4 = .ok (.aload_n 0, 1) := by decide +kernel
theorem dX2_init_5 : decode cX2_init 5 = .ok (.sipush 400, 3) := by decide +kernel
theorem dX2_init_8 : decode cX2_init 8 = .ok (.newarray .int, 2) := by decide +kernel
theorem dX2_init_10 : decode cX2_init 10 = .ok (.putfield 9, 3) := by decide +kernel
theorem dX2_init_13 : decode cX2_init 13 = .ok (.return_, 1) := by decide +kernel
theorem dX2_add_0 : decode cX2_add 0 = .ok (.aload_n 0, 1) := by decide +kernel
theorem dX2_add_1 : decode cX2_add 1 = .ok (.getfield 9, 3) := by decide +kernel
theorem dX2_add_4 : decode cX2_add 4 = .ok (.aload_n 0, 1) := by decide +kernel
theorem dX2_add_5 : decode cX2_add 5 = .ok (.getfield 15, 3) := by decide +kernel
theorem dX2_add_8 : decode cX2_add 8 = .ok (.sipush 400, 3) := by decide +kernel
theorem dX2_add_11 : decode cX2_add 11 = .ok (.invokestatic 19, 3) := by decide +kernel
theorem dX2_add_14 : decode cX2_add 14 = .ok (.sipush 1000, 3) := by decide +kernel
theorem dX2_add_17 : decode cX2_add 17 = .ok (.iload_n 1, 1) := by decide +kernel
theorem dX2_add_18 : decode cX2_add 18 = .ok (.imul, 1) := by decide +kernel
theorem dX2_add_19 : decode cX2_add 19 = .ok (.bipush 10, 2) := by decide +kernel
theorem dX2_add_21 : decode cX2_add 21 = .ok (.iload_n 2, 1) := by decide +kernel
theorem dX2_add_22 : decode cX2_add 22 = .ok (.imul, 1) := by decide +kernel
theorem dX2_add_23 : decode cX2_add 23 = .ok (.iadd, 1) := by decide +kernel
theorem dX2_add_24 : decode cX2_add 24 = .ok (.iload_n 3, 1) := by decide +kernel
theorem dX2_add_25 : decode cX2_add 25 = .ok (.iadd, 1) := by decide +kernel
theorem dX2_add_26 : decode cX2_add 26 = .ok (.iastore, 1) := by decide +kernel
theorem dX2_add_27 : decode cX2_add 27 = .ok (.aload_n 0, 1) := by decide +kernel
theorem dX2_add_28 : decode cX2_add 28 = .ok (.dup, 1) := by decide +kernel
theorem dX2_add_29 : decode cX2_add 29 = .ok (.getfield 15, 3) := by decide +kernel
theorem dX2_add_32 : decode cX2_add 32 = .ok (.iconst 1, 1) := by decide +kernel
theorem dX2_add_33 : decode cX2_add 33 = .ok (.iadd, 1) := by decide +kernel
theorem dX2_add_34 : decode cX2_add 34 = .ok (.putfield 15, 3) := by decide +kernel
theorem dX2_add_37 : decode cX2_add 37 = .ok (.return_, 1) := by decide +kernel
theorem dX2_told_0 : decode cX2_told 0 = .ok (.aload_n 0, 1) := by decide +kernel
theorem dX2_told_1 : decode cX2_told 1 = .ok (.getfield 15, 3) := by decide +kernel
theorem dX2_told_4 : decode cX2_told 4 = .ok (.sipush 400, 3) := by decide +kernel
theorem dX2_told_7 : decode cX2_told 7 = .ok (.invokestatic 25, 3) := by decide +kernel
theorem dX2_told_10 : decode cX2_told 10 = .ok (.ireturn, 1) := by decide +kernel
theorem dX2_codeAt_0 : decode cX2_codeAt 0 = .ok (.aload_n 0, 1) := by decide +kernel
theorem dX2_codeAt_1 : decode cX2_codeAt 1 = .ok (.getfield 9, 3) := by decide +kernel
theorem dX2_codeAt_4 : decode cX2_codeAt 4 = .ok (.aload_n 0, 1) := by decide +kernel
theorem dX2_codeAt_5 : decode cX2_codeAt 5 = .ok (.getfield 15, 3) := by decide +kernel
theorem dX2_codeAt_8 : decode cX2_codeAt 8 = .ok (.iconst 1, 1) := by decide +kernel
theorem dX2_codeAt_9 : decode cX2_codeAt 9 = .ok (.isub, 1) := by decide +kernel
theorem dX2_codeAt_10 : decode cX2_codeAt 10 = .ok (.iload_n 1, 1) := by decide +kernel
theorem dX2_codeAt_11 : decode cX2_codeAt 11 = .ok (.isub, 1) := by decide +kernel
theorem dX2_codeAt_12 : decode cX2_codeAt 12 = .ok (.sipush 400, 3) := by decide +kernel
theorem dX2_codeAt_15 : decode cX2_codeAt 15 = .ok (.invokestatic 19, 3) := by decide +kernel
theorem dX2_codeAt_18 : decode cX2_codeAt 18 = .ok (.iaload, 1) := by decide +kernel
theorem dX2_codeAt_19 : decode cX2_codeAt 19 = .ok (.ireturn, 1) := by decide +kernel
theorem dX2_lastStateOf_0 : decode cX2_lastStateOf 0 = .ok (.aload_n 0, 1) := by decide +kernel
theorem dX2_lastStateOf_1 : decode cX2_lastStateOf 1 = .ok (.invokevirtual 28, 3) := by decide +kernel
theorem dX2_lastStateOf_4 : decode cX2_lastStateOf 4 = .ok (.istore_n 3, 1) := by decide +kernel
theorem dX2_lastStateOf_5 : decode cX2_lastStateOf 5 = .ok (.iconst 0, 1) := by decide +kernel
theorem dX2_lastStateOf_6 : decode cX2_lastStateOf 6 = .ok (.istore 4, 2) := by decide +kernel
theorem dX2_lastStateOf_8 : decode cX2_lastStateOf 8 = .ok (.iload 4, 2) := by decide +kernel
theorem dX2_lastStateOf_10 : decode cX2_lastStateOf 10 = .ok (.iload_n 3, 1) := by decide +kernel
theorem dX2_lastStateOf_11 : decode cX2_lastStateOf 11 = .ok (.if_icmp .ge 58, 3) := by decide +kernel
theorem dX2_lastStateOf_14 : decode cX2_lastStateOf 14 = .ok (.aload_n 0, 1) := by decide +kernel
theorem dX2_lastStateOf_15 : decode cX2_lastStateOf 15 = .ok (.iload 4, 2) := by decide +kernel
theorem dX2_lastStateOf_17 : decode cX2_lastStateOf 17 = .ok (.invokevirtual 32, 3) := by decide +kernel
theorem dX2_lastStateOf_20 : decode cX2_lastStateOf 20 = .ok (.istore 5, 2) := by decide +kernel
theorem dX2_lastStateOf_22 : decode cX2_lastStateOf 22 = .ok (.iload 5, 2) := by decide +kernel
theorem dX2_lastStateOf_24 : decode cX2_lastStateOf 24 = .ok (.sipush 1000, 3) := by decide +kernel
theorem dX2_lastStateOf_27 : decode cX2_lastStateOf 27 = .ok (.irem, 1) := by decide +kernel
theorem dX2_lastStateOf_28 : decode cX2_lastStateOf 28 = .ok (.bipush 10, 2) := by decide +kernel
theorem dX2_lastStateOf_30 : decode cX2_lastStateOf 30 = .ok (.idiv, 1) := by decide +kernel
theorem dX2_lastStateOf_31 : decode cX2_lastStateOf 31 = .ok (.iload_n 1, 1) := by decide +kernel
theorem dX2_lastStateOf_32 : decode cX2_lastStateOf 32 = .ok (.if_icmp .ne 7, 3) := by decide +kernel
theorem dX2_lastStateOf_35 : decode cX2_lastStateOf 35 = .ok (.iconst 1, 1) := by decide +kernel
theorem dX2_lastStateOf_36 : decode cX2_lastStateOf 36 = .ok (.goto 4, 3) := by decide +kernel
theorem dX2_lastStateOf_39 : decode cX2_lastStateOf 39 = .ok (.iconst 0, 1) := by decide +kernel
theorem dX2_lastStateOf_40 : decode cX2_lastStateOf 40 = .ok (.istore 6, 2) := by decide +kernel
theorem dX2_lastStateOf_42 : decode cX2_lastStateOf 42 = .ok (.iload 6, 2) := by decide +kernel
theorem dX2_lastStateOf_44 : decode cX2_lastStateOf 44 = .ok (.ifCond .eq 19, 3) := by decide +kernel
theorem dX2_lastStateOf_47 : decode cX2_lastStateOf 47 = .ok (.iload 5, 2) := by decide +kernel
theorem dX2_lastStateOf_49 : decode cX2_lastStateOf 49 = .ok (.sipush 1000, 3) := by decide +kernel
theorem dX2_lastStateOf_52 : decode cX2_lastStateOf 52 = .ok (.idiv, 1) := by decide +kernel
theorem dX2_lastStateOf_53 : decode cX2_lastStateOf 53 = .ok (.iload_n 2, 1) := by decide +kernel
theorem dX2_lastStateOf_54 : decode cX2_lastStateOf 54 = .ok (.if_icmp .gt 9, 3) := by decide +kernel
theorem dX2_lastStateOf_57 : decode cX2_lastStateOf 57 = .ok (.iload 5, 2) := by decide +kernel
theorem dX2_lastStateOf_59 : decode cX2_lastStateOf 59 = .ok (.bipush 10, 2) := by decide +kernel
theorem dX2_lastStateOf_61 : decode cX2_lastStateOf 61 = .ok (.irem, 1) := by decide +kernel
theorem dX2_lastStateOf_62 : decode cX2_lastStateOf 62 = .ok (.ireturn, 1) := by decide +kernel
theorem dX2_lastStateOf_63 : decode cX2_lastStateOf 63 = .ok (.iinc 4 1, 3) := by decide +kernel
theorem dX2_lastStateOf_66 : decode cX2_lastStateOf 66 = .ok (.goto (-58), 3) := by decide +kernel
theorem dX2_lastStateOf_69 : decode cX2_lastStateOf 69 = .ok (.iconst (-1), 1) := by decide +kernel
theorem dX2_lastStateOf_70 : decode cX2_lastStateOf 70 = .ok (.ireturn, 1) := by decide +kernel
theorem dX3_init_0 : decode cX3_init 0 = .ok (.aload_n 0, 1) := by decide +kernel
theorem dX3_init_1 : decode cX3_init 1 = .ok (.invokespecial 3, 3) := by decide +kernel
theorem dX3_init_4 : decode cX3_init 4 = .ok (.aload_n 0, 1) := by decide +kernel
theorem dX3_init_5 : decode cX3_init 5 = .ok (.bipush 6, 2) := by decide +kernel
theorem dX3_init_7 : decode cX3_init 7 = .ok (.newarray .int, 2) := by decide +kernel
theorem dX3_init_9 : decode cX3_init 9 = .ok (.putfield 9, 3) := by decide +kernel
theorem dX3_init_12 : decode cX3_init 12 = .ok (.iconst 0, 1) := by decide +kernel
theorem dX3_init_13 : decode cX3_init 13 = .ok (.istore_n 2, 1) := by decide +kernel
theorem dX3_init_14 : decode cX3_init 14 = .ok (.iload_n 2, 1) := by decide +kernel
theorem dX3_init_15 : decode cX3_init 15 = .ok (.aload_n 1, 1) := by decide +kernel
theorem dX3_init_16 : decode cX3_init 16 = .ok (.arraylength, 1) := by decide +kernel
theorem dX3_init_17 : decode cX3_init 17 = .ok (.if_icmp .ge 37, 3) := by decide +kernel
theorem dX3_init_20 : decode cX3_init 20 = .ok (.iload_n 2, 1) := by decide +kernel
theorem dX3_init_21 : decode cX3_init 21 = .ok (.aload_n 0, 1) := by decide +kernel
theorem dX3_init_22 : decode cX3_init 22 = .ok (.getfield 9, 3) := by decide +kernel
theorem dX3_init_25 : decode cX3_init 25 = .ok (.arraylength, 1) := by decide +kernel
theorem dX3_init_26 : decode cX3_init 26 = .ok (.if_icmp .ge 28, 3) := by decide +kernel
theorem dX3_init_29 : decode cX3_init 29 = .ok (.aload_n 0, 1) := by decide +kernel
theorem dX3_init_30 : decode cX3_init 30 = .ok (.getfield 9, 3) := by decide +kernel
theorem dX3_init_33 : decode cX3_init 33 = .ok (.iload_n 2, 1) := by decide +kernel
theorem dX3_init_34 : decode cX3_init 34 = .ok (.aload_n 1, 1) := by decide +kernel
theorem dX3_init_35 : decode cX3_init 35 = .ok (.iload_n 2, 1) := by decide +kernel
theorem dX3_init_36 : decode cX3_init 36 = .ok (.iaload, 1) := by decide +kernel
theorem dX3_init_37 : decode cX3_init 37 = .ok (.iastore, 1) := by decide +kernel
theorem dX3_init_38 : decode cX3_init 38 = .ok (.aload_n 0, 1) := by decide +kernel
theorem dX3_init_39 : decode cX3_init 39 = .ok (.dup, 1) := by decide +kernel
theorem dX3_init_40 : decode cX3_init 40 = .ok (.getfield 15, 3) := by decide +kernel
theorem dX3_init_43 : decode cX3_init 43 = .ok (.iconst 1, 1) := by decide +kernel
theorem dX3_init_44 : decode cX3_init 44 = .ok (.iadd, 1) := by decide +kernel
theorem dX3_init_45 : decode cX3_init 45 = .ok (.putfield 15, 3) := by decide +kernel
theorem dX3_init_48 : decode cX3_init 48 = .ok (.iinc 2 1, 3) := by decide +kernel
theorem dX3_init_51 : decode cX3_init 51 = .ok (.goto (-37), 3) := by decide +kernel
theorem dX3_init_54 : decode cX3_init 54 = .ok (.return_, 1) := by decide +kernel
theorem dX3_append_0 : decode cX3_append 0 = .ok (.aload_n 0, 1) := by decide +kernel
theorem dX3_append_1 : decode cX3_append 1 = .ok (.getfield 15, 3) := by decide +kernel
theorem dX3_append_4 : decode cX3_append 4 = .ok (.ifCond .lt 35, 3) := by decide +kernel
theorem dX3_append_7 : decode cX3_append 7 = .ok (.aload_n 0, 1) := by decide +kernel
theorem dX3_append_8 : decode cX3_append 8 = .ok (.getfield 15, 3) := by decide +kernel
theorem dX3_append_11 : decode cX3_append 11 = .ok (.aload_n 0, 1) := by decide +kernel
theorem dX3_append_12 : decode cX3_append 12 = .ok (.getfield 9, 3) := by decide +kernel
theorem dX3_append_15 : decode cX3_append 15 = .ok (.arraylength, 1) := by decide +kernel
theorem dX3_append_16 : decode cX3_append 16 = .ok (.if_icmp .ge 23, 3) := by decide +kernel
theorem dX3_append_19 : decode cX3_append 19 = .ok (.aload_n 0, 1) := by decide +kernel
theorem dX3_append_20 : decode cX3_append 20 = .ok (.getfield 9, 3) := by decide +kernel
theorem dX3_append_23 : decode cX3_append 23 = .ok (.aload_n 0, 1) := by decide +kernel
theorem dX3_append_24 : decode cX3_append 24 = .ok (.getfield 15, 3) := by decide +kernel
theorem dX3_append_27 : decode cX3_append 27 = .ok (.iload_n 1, 1) := by decide +kernel
theorem dX3_append_28 : decode cX3_append 28 = .ok (.iastore, 1) := by decide +kernel
theorem dX3_append_29 : decode cX3_append 29 = .ok (.aload_n 0, 1) := by decide +kernel
theorem dX3_append_30 : decode cX3_append 30 = .ok (.dup, 1) := by decide +kernel
theorem dX3_append_31 : decode cX3_append 31 = .ok (.getfield 15, 3) := by decide +kernel
theorem dX3_append_34 : decode cX3_append 34 = .ok (.iconst 1, 1) := by decide +kernel
theorem dX3_append_35 : decode cX3_append 35 = .ok (.iadd, 1) := by decide +kernel
theorem dX3_append_36 : decode cX3_append 36 = .ok (.putfield 15, 3) := by decide +kernel
theorem dX3_append_39 : decode cX3_append 39 = .ok (.return_, 1) := by decide +kernel
theorem dX3_daysBehind_0 : decode cX3_daysBehind 0 = .ok (.iload_n 1, 1) := by decide +kernel
theorem dX3_daysBehind_1 : decode cX3_daysBehind 1 = .ok (.iconst 1, 1) := by decide +kernel
theorem dX3_daysBehind_2 : decode cX3_daysBehind 2 = .ok (.if_icmp .lt 24, 3) := by decide +kernel
theorem dX3_daysBehind_5 : decode cX3_daysBehind 5 = .ok (.iload_n 1, 1) := by decide +kernel
theorem dX3_daysBehind_6 : decode cX3_daysBehind 6 = .ok (.aload_n 0, 1) := by decide +kernel
theorem dX3_daysBehind_7 : decode cX3_daysBehind 7 = .ok (.getfield 15, 3) := by decide +kernel
theorem dX3_daysBehind_10 : decode cX3_daysBehind 10 = .ok (.if_icmp .gt 16, 3) := by decide +kernel
theorem dX3_daysBehind_13 : decode cX3_daysBehind 13 = .ok (.iload_n 1, 1) := by decide +kernel
theorem dX3_daysBehind_14 : decode cX3_daysBehind 14 = .ok (.aload_n 0, 1) := by decide +kernel
theorem dX3_daysBehind_15 : decode cX3_daysBehind 15 = .ok (.getfield 9, 3) := by decide +kernel
theorem dX3_daysBehind_18 : decode cX3_daysBehind 18 = .ok (.arraylength, 1) := by decide +kernel
theorem dX3_daysBehind_19 : decode cX3_daysBehind 19 = .ok (.if_icmp .gt 7, 3) := by decide +kernel
theorem dX3_daysBehind_22 : decode cX3_daysBehind 22 = .ok (.iconst 1, 1) := by decide +kernel
theorem dX3_daysBehind_23 : decode cX3_daysBehind 23 = .ok (.goto 4, 3) := by decide +kernel
theorem dX3_daysBehind_26 : decode cX3_daysBehind 26 = .ok (.iconst 0, 1) := by decide +kernel
theorem dX3_daysBehind_27 : decode cX3_daysBehind 27 = .ok (.istore_n 2, 1) := by decide +kernel
theorem dX3_daysBehind_28 : decode cX3_daysBehind 28 = .ok (.iload_n 2, 1) := by decide +kernel
theorem dX3_daysBehind_29 : decode cX3_daysBehind 29 = .ok (.ifCond .eq 14, 3) := by decide +kernel
theorem dX3_daysBehind_32 : decode cX3_daysBehind 32 = .ok (.aload_n 0, 1) := by decide +kernel
theorem dX3_daysBehind_33 : decode cX3_daysBehind 33 = .ok (.getfield 9, 3) := by decide +kernel
theorem dX3_daysBehind_36 : decode cX3_daysBehind 36 = .ok (.iload_n 1, 1) := by decide +kernel
theorem dX3_daysBehind_37 : decode cX3_daysBehind 37 = .ok (.iconst 1, 1) := by decide +kernel
theorem dX3_daysBehind_38 : decode cX3_daysBehind 38 = .ok (.isub, 1) := by decide +kernel
theorem dX3_daysBehind_39 : decode cX3_daysBehind 39 = .ok (.iaload, 1) := by decide +kernel
theorem dX3_daysBehind_40 : decode cX3_daysBehind 40 = .ok (.goto 4, 3) := by decide +kernel
theorem dX3_daysBehind_43 : decode cX3_daysBehind 43 = .ok (.iconst 0, 1) := by decide +kernel
theorem dX3_daysBehind_44 : decode cX3_daysBehind 44 = .ok (.ireturn, 1) := by decide +kernel
theorem dX4_init_0 : decode cX4_init 0 = .ok (.aload_n 0, 1) := by decide +kernel
theorem dX4_init_1 : decode cX4_init 1 = .ok (.invokespecial 1, 3) := by decide +kernel
theorem dX4_init_4 : decode cX4_init 4 = .ok (.aload_n 0, 1) := by decide +kernel
theorem dX4_init_5 : decode cX4_init 5 = .ok (.new 7, 3) := by decide +kernel
theorem dX4_init_8 : decode cX4_init 8 = .ok (.dup, 1) := by decide +kernel
theorem dX4_init_9 : decode cX4_init 9 = .ok (.invokespecial 9, 3) := by decide +kernel
theorem dX4_init_12 : decode cX4_init 12 = .ok (.putfield 10, 3) := by decide +kernel
theorem dX4_init_15 : decode cX4_init 15 = .ok (.aload_n 0, 1) := by decide +kernel
theorem dX4_init_16 : decode cX4_init 16 = .ok (.iconst 4, 1) := by decide +kernel
theorem dX4_init_17 : decode cX4_init 17 = .ok (.anewarray 16, 3) := by decide +kernel
theorem dX4_init_20 : decode cX4_init 20 = .ok (.dup, 1) := by decide +kernel
theorem dX4_init_21 : decode cX4_init 21 = .ok (.iconst 0, 1) := by decide +kernel
theorem dX4_init_22 : decode cX4_init 22 = .ok (.new 16, 3) := by decide +kernel
theorem dX4_init_25 : decode cX4_init 25 = .ok (.dup, 1) := by decide +kernel
theorem dX4_init_26 : decode cX4_init 26 = .ok (.getstatic 18, 3) := by decide +kernel
theorem dX4_init_29 : decode cX4_init 29 = .ok (.invokespecial 22, 3) := by decide +kernel
theorem dX4_init_32 : decode cX4_init 32 = .ok (.aastore, 1) := by decide +kernel
theorem dX4_init_33 : decode cX4_init 33 = .ok (.dup, 1) := by decide +kernel
theorem dX4_init_34 : decode cX4_init 34 = .ok (.iconst 1, 1) := by decide +kernel
theorem dX4_init_35 : decode cX4_init 35 = .ok (.new 16, 3) := by decide +kernel
theorem dX4_init_38 : decode cX4_init 38 = .ok (.dup, 1) := by decide +kernel
theorem dX4_init_39 : decode cX4_init 39 = .ok (.getstatic 25, 3) := by decide +kernel
theorem dX4_init_42 : decode cX4_init 42 = .ok (.invokespecial 22, 3) := by decide +kernel
theorem dX4_init_45 : decode cX4_init 45 = .ok (.aastore, 1) := by decide +kernel
theorem dX4_init_46 : decode cX4_init 46 = .ok (.dup, 1) := by decide +kernel
theorem dX4_init_47 : decode cX4_init 47 = .ok (.iconst 2, 1) := by decide +kernel
theorem dX4_init_48 : decode cX4_init 48 = .ok (.new 16, 3) := by decide +kernel
theorem dX4_init_51 : decode cX4_init 51 = .ok (.dup, 1) := by decide +kernel
theorem dX4_init_52 : decode cX4_init 52 = .ok (.getstatic 28, 3) := by decide +kernel
theorem dX4_init_55 : decode cX4_init 55 = .ok (.invokespecial 22, 3) := by decide +kernel
theorem dX4_init_58 : decode cX4_init 58 = .ok (.aastore, 1) := by decide +kernel
theorem dX4_init_59 : decode cX4_init 59 = .ok (.dup, 1) := by decide +kernel
theorem dX4_init_60 : decode cX4_init 60 = .ok (.iconst 3, 1) := by decide +kernel
theorem dX4_init_61 : decode cX4_init 61 = .ok (.new 16, 3) := by decide +kernel
theorem dX4_init_64 : decode cX4_init 64 = .ok (.dup, 1) := by decide +kernel
theorem dX4_init_65 : decode cX4_init 65 = .ok (.getstatic 31, 3) := by decide +kernel
theorem dX4_init_68 : decode cX4_init 68 = .ok (.invokespecial 22, 3) := by decide +kernel
theorem dX4_init_71 : decode cX4_init 71 = .ok (.aastore, 1) := by decide +kernel
theorem dX4_init_72 : decode cX4_init 72 = .ok (.putfield 34, 3) := by decide +kernel
theorem dX4_init_75 : decode cX4_init 75 = .ok (.aload_n 0, 1) := by decide +kernel
theorem dX4_init_76 : decode cX4_init 76 = .ok (.bipush 30, 2) := by decide +kernel
theorem dX4_init_78 : decode cX4_init 78 = .ok (.anewarray 38, 3) := by decide +kernel
theorem dX4_init_81 : decode cX4_init 81 = .ok (.putfield 40, 3) := by decide +kernel
theorem dX4_init_84 : decode cX4_init 84 = .ok (.aload_n 0, 1) := by decide +kernel
theorem dX4_init_85 : decode cX4_init 85 = .ok (.new 44, 3) := by decide +kernel
theorem dX4_init_88 : decode cX4_init 88 = .ok (.dup, 1) := by decide +kernel
theorem dX4_init_89 : decode cX4_init 89 = .ok (.invokespecial 46, 3) := by decide +kernel
theorem dX4_init_92 : decode cX4_init 92 = .ok (.putfield 47, 3) := by decide +kernel
theorem dX4_init_95 : decode cX4_init 95 = .ok (.aload_n 0, 1) := by decide +kernel
theorem dX4_init_96 : decode cX4_init 96 = .ok (.bipush 10, 2) := by decide +kernel
theorem dX4_init_98 : decode cX4_init 98 = .ok (.putfield 51, 3) := by decide +kernel
theorem dX4_init_101 : decode cX4_init 101 = .ok (.aload_n 0, 1) := by decide +kernel
theorem dX4_init_102 : decode cX4_init 102 = .ok (.bipush 30, 2) := by decide +kernel
theorem dX4_init_104 : decode cX4_init 104 = .ok (.putfield 55, 3) := by decide +kernel
theorem dX4_init_107 : decode cX4_init 107 = .ok (.return_, 1) := by decide +kernel
theorem dX4_setWeekday_0 : decode cX4_setWeekday 0 = .ok (.iload_n 1, 1) := by decide +kernel
theorem dX4_setWeekday_1 : decode cX4_setWeekday 1 = .ok (.ifCond .lt 9, 3) := by decide +kernel
theorem dX4_setWeekday_4 : decode cX4_setWeekday 4 = .ok (.iload_n 1, 1) := by decide +kernel
theorem dX4_setWeekday_5 : decode cX4_setWeekday 5 = .ok (.bipush 7, 2) := by decide +kernel
theorem dX4_setWeekday_7 : decode cX4_setWeekday 7 = .ok (.if_icmp .lt 13, 3) := by decide +kernel
theorem dX4_setWeekday_10 : decode cX4_setWeekday 10 = .ok (.new 58, 3) := by decide +kernel
theorem dX4_setWeekday_13 : decode cX4_setWeekday 13 = .ok (.dup, 1) := by decide +kernel
theorem dX4_setWeekday_14 : decode cX4_setWeekday 14 = .ok (.ldc 60, 2) := by decide +kernel
theorem dX4_setWeekday_16 : decode cX4_setWeekday 16 = .ok (.invokespecial 62, 3) := by decide +kernel
theorem dX4_setWeekday_19 : decode cX4_setWeekday 19 = .ok (.athrow, 1) := by decide +kernel
theorem dX4_setWeekday_20 : decode cX4_setWeekday 20 = .ok (.aload_n 0, 1) := by decide +kernel
theorem dX4_setWeekday_21 : decode cX4_setWeekday 21 = .ok (.getfield 10, 3) := by decide +kernel
theorem dX4_setWeekday_24 : decode cX4_setWeekday 24 = .ok (.iload_n 1, 1) := by decide +kernel
theorem dX4_setWeekday_25 : decode cX4_setWeekday 25 = .ok (.iload_n 2, 1) := by decide +kernel
theorem dX4_setWeekday_26 : decode cX4_setWeekday 26 = .ok (.invokevirtual 65, 3) := by decide +kernel
theorem dX4_setWeekday_29 : decode cX4_setWeekday 29 = .ok (.istore_n 3, 1) := by decide +kernel
theorem dX4_setWeekday_30 : decode cX4_setWeekday 30 = .ok (.iload_n 3, 1) := by decide +kernel
theorem dX4_setWeekday_31 : decode cX4_setWeekday 31 = .ok (.ifCond .ne 13, 3) := by decide +kernel
theorem dX4_setWeekday_34 : decode cX4_setWeekday 34 = .ok (.new 69, 3) := by decide +kernel
theorem dX4_setWeekday_37 : decode cX4_setWeekday 37 = .ok (.dup, 1) := by decide +kernel
theorem dX4_setWeekday_38 : decode cX4_setWeekday 38 = .ok (.ldc 71, 2) := by decide +kernel
theorem dX4_setWeekday_40 : decode cX4_setWeekday 40 = .ok (.invokespecial 73, 3) := by decide +kernel
theorem dX4_setWeekday_43 : decode cX4_setWeekday 43 = .ok (.athrow, 1) := by decide +kernel
theorem dX4_setWeekday_44 : decode cX4_setWeekday 44 = .ok (.aload_n 0, 1) := by decide +kernel
theorem dX4_setWeekday_45 : decode cX4_setWeekday 45 = .ok (.getfield 10, 3) := by decide +kernel
theorem dX4_setWeekday_48 : decode cX4_setWeekday 48 = .ok (.iload_n 3, 1) := by decide +kernel
theorem dX4_setWeekday_49 : decode cX4_setWeekday 49 = .ok (.putfield 74, 3) := by decide +kernel
theorem dX4_setWeekday_52 : decode cX4_setWeekday 52 = .ok (.iload_n 3, 1) := by decide +kernel
theorem dX4_setWeekday_53 : decode cX4_setWeekday 53 = .ok (.invokestatic 77, 3) := by decide +kernel
theorem dX4_setWeekday_56 : decode cX4_setWeekday 56 = .ok (.ireturn, 1) := by decide +kernel
theorem dX4_addHoliday_0 : decode cX4_addHoliday 0 = .ok (.iload_n 1, 1) := by decide +kernel
theorem dX4_addHoliday_1 : decode cX4_addHoliday 1 = .ok (.aload_n 0, 1) := by decide +kernel
theorem dX4_addHoliday_2 : decode cX4_addHoliday 2 = .ok (.getfield 83, 3) := by decide +kernel
theorem dX4_addHoliday_5 : decode cX4_addHoliday 5 = .ok (.iconst 1, 1) := by decide +kernel
theorem dX4_addHoliday_6 : decode cX4_addHoliday 6 = .ok (.iadd, 1) := by decide +kernel
theorem dX4_addHoliday_7 : decode cX4_addHoliday 7 = .ok (.aload_n 0, 1) := by decide +kernel
theorem dX4_addHoliday_8 : decode cX4_addHoliday 8 = .ok (.getfield 83, 3) := by decide +kernel
theorem dX4_addHoliday_11 : decode cX4_addHoliday 11 = .ok (.bipush 60, 2) := by decide +kernel
theorem dX4_addHoliday_13 : decode cX4_addHoliday 13 = .ok (.iadd, 1) := by decide +kernel
theorem dX4_addHoliday_14 : decode cX4_addHoliday 14 = .ok (.invokestatic 86, 3) := by decide +kernel
theorem dX4_addHoliday_17 : decode cX4_addHoliday 17 = .ok (.aload_n 0, 1) := by decide +kernel
theorem dX4_addHoliday_18 : decode cX4_addHoliday 18 = .ok (.getfield 10, 3) := by decide +kernel
theorem dX4_addHoliday_21 : decode cX4_addHoliday 21 = .ok (.iload_n 1, 1) := by decide +kernel
theorem dX4_addHoliday_22 : decode cX4_addHoliday 22 = .ok (.invokevirtual 90, 3) := by decide +kernel
theorem dX4_addHoliday_25 : decode cX4_addHoliday 25 = .ok (.ifCond .ne 7, 3) := by decide +kernel
theorem dX4_addHoliday_28 : decode cX4_addHoliday 28 = .ok (.iconst 1, 1) := by decide +kernel
theorem dX4_addHoliday_29 : decode cX4_addHoliday 29 = .ok (.goto 4, 3) := by decide +kernel
theorem dX4_addHoliday_32 : decode cX4_addHoliday 32 = .ok (.iconst 0, 1) := by decide +kernel
theorem dX4_addHoliday_33 : decode cX4_addHoliday 33 = .ok (.istore_n 2, 1) := by decide +kernel
theorem dX4_addHoliday_34 : decode cX4_addHoliday 34 = .ok (.aload_n 0, 1) := by decide +kernel
theorem dX4_addHoliday_35 : decode cX4_addHoliday 35 = .ok (.getfield 10, 3) := by decide +kernel
theorem dX4_addHoliday_38 : decode cX4_addHoliday 38 = .ok (.iload_n 1, 1) := by decide +kernel
theorem dX4_addHoliday_39 : decode cX4_addHoliday 39 = .ok (.invokevirtual 94, 3) := by decide +kernel
theorem dX4_addHoliday_42 : decode cX4_addHoliday 42 = .ok (.iload_n 2, 1) := by decide +kernel
theorem dX4_addHoliday_43 : decode cX4_addHoliday 43 = .ok (.ireturn, 1) := by decide +kernel
theorem dX4_addGap_0 : decode cX4_addGap 0 = .ok (.aload_n 0, 1) := by decide +kernel
theorem dX4_addGap_1 : decode cX4_addGap 1 = .ok (.getfield 34, 3) := by decide +kernel
theorem dX4_addGap_4 : decode cX4_addGap 4 = .ok (.iload_n 1, 1) := by decide +kernel
theorem dX4_addGap_5 : decode cX4_addGap 5 = .ok (.invokestatic 98, 3) := by decide +kernel
theorem dX4_addGap_8 : decode cX4_addGap 8 = .ok (.aaload, 1) := by decide +kernel
theorem dX4_addGap_9 : decode cX4_addGap 9 = .ok (.astore_n 3, 1) := by decide +kernel
theorem dX4_addGap_10 : decode cX4_addGap 10 = .ok (.iload_n 2, 1) := by decide +kernel
theorem dX4_addGap_11 : decode cX4_addGap 11 = .ok (.iconst 1, 1) := by decide +kernel
theorem dX4_addGap_12 : decode cX4_addGap 12 = .ok (.bipush 30, 2) := by decide +kernel
theorem dX4_addGap_14 : decode cX4_addGap 14 = .ok (.invokestatic 86, 3) := by decide +kernel
theorem dX4_addGap_17 : decode cX4_addGap 17 = .ok (.aload_n 3, 1) := by decide +kernel
theorem dX4_addGap_18 : decode cX4_addGap 18 = .ok (.getfield 101, 3) := by decide +kernel
theorem dX4_addGap_21 : decode cX4_addGap 21 = .ok (.bipush 6, 2) := by decide +kernel
theorem dX4_addGap_23 : decode cX4_addGap 23 = .ok (.if_icmp .lt 13, 3) := by decide +kernel
theorem dX4_addGap_26 : decode cX4_addGap 26 = .ok (.new 69, 3) := by decide +kernel
theorem dX4_addGap_29 : decode cX4_addGap 29 = .ok (.dup, 1) := by decide +kernel
theorem dX4_addGap_30 : decode cX4_addGap 30 = .ok (.ldc 104, 2) := by decide +kernel
theorem dX4_addGap_32 : decode cX4_addGap 32 = .ok (.invokespecial 73, 3) := by decide +kernel
theorem dX4_addGap_35 : decode cX4_addGap 35 = .ok (.athrow, 1) := by decide +kernel
theorem dX4_addGap_36 : decode cX4_addGap 36 = .ok (.aload_n 3, 1) := by decide +kernel
theorem dX4_addGap_37 : decode cX4_addGap 37 = .ok (.iload_n 2, 1) := by decide +kernel
theorem dX4_addGap_38 : decode cX4_addGap 38 = .ok (.invokevirtual 106, 3) := by decide +kernel
theorem dX4_addGap_41 : decode cX4_addGap 41 = .ok (.aload_n 3, 1) := by decide +kernel
theorem dX4_addGap_42 : decode cX4_addGap 42 = .ok (.getfield 101, 3) := by decide +kernel
theorem dX4_addGap_45 : decode cX4_addGap 45 = .ok (.ireturn, 1) := by decide +kernel
theorem dX4_clearGaps_0 : decode cX4_clearGaps 0 = .ok (.aload_n 0, 1) := by decide +kernel
theorem dX4_clearGaps_1 : decode cX4_clearGaps 1 = .ok (.getfield 34, 3) := by decide +kernel
theorem dX4_clearGaps_4 : decode cX4_clearGaps 4 = .ok (.iload_n 1, 1) := by decide +kernel
theorem dX4_clearGaps_5 : decode cX4_clearGaps 5 = .ok (.invokestatic 98, 3) := by decide +kernel
theorem dX4_clearGaps_8 : decode cX4_clearGaps 8 = .ok (.aaload, 1) := by decide +kernel
theorem dX4_clearGaps_9 : decode cX4_clearGaps 9 = .ok (.astore_n 2, 1) := by decide +kernel
theorem dX4_clearGaps_10 : decode cX4_clearGaps 10 = .ok (.aload_n 2, 1) := by decide +kernel
theorem dX4_clearGaps_11 : decode cX4_clearGaps 11 = .ok (.getfield 101, 3) := by decide +kernel
theorem dX4_clearGaps_14 : decode cX4_clearGaps 14 = .ok (.istore_n 3, 1) := by decide +kernel
theorem dX4_clearGaps_15 : decode cX4_clearGaps 15 = .ok (.aload_n 2, 1) := by decide +kernel
theorem dX4_clearGaps_16 : decode cX4_clearGaps 16 = .ok (.iconst 0, 1) := by decide +kernel
theorem dX4_clearGaps_17 : decode cX4_clearGaps 17 = .ok (.putfield 101, 3) := by decide +kernel
theorem dX4_clearGaps_20 : decode cX4_clearGaps 20 = .ok (.iload_n 3, 1) := by decide +kernel
theorem dX4_clearGaps_21 : decode cX4_clearGaps 21 = .ok (.ireturn, 1) := by decide +kernel
theorem dX4_setTimes_0 : decode cX4_setTimes 0 = .ok (.iload_n 1, 1) := by decide +kernel
theorem dX4_setTimes_1 : decode cX4_setTimes 1 = .ok (.iconst 1, 1) := by decide +kernel
theorem dX4_setTimes_2 : decode cX4_setTimes 2 = .ok (.bipush 60, 2) := by decide +kernel
theorem dX4_setTimes_4 : decode cX4_setTimes 4 = .ok (.invokestatic 86, 3) := by decide +kernel
theorem dX4_setTimes_7 : decode cX4_setTimes 7 = .ok (.iload_n 2, 1) := by decide +kernel
theorem dX4_setTimes_8 : decode cX4_setTimes 8 = .ok (.iconst 1, 1) := by decide +kernel
theorem dX4_setTimes_9 : decode cX4_setTimes 9 = .ok (.bipush 90, 2) := by decide +kernel
theorem dX4_setTimes_11 : decode cX4_setTimes 11 = .ok (.invokestatic 86, 3) := by decide +kernel
theorem dX4_setTimes_14 : decode cX4_setTimes 14 = .ok (.aload_n 0, 1) := by decide +kernel
theorem dX4_setTimes_15 : decode cX4_setTimes 15 = .ok (.getfield 51, 3) := by decide +kernel
theorem dX4_setTimes_18 : decode cX4_setTimes 18 = .ok (.istore_n 3, 1) := by decide +kernel
theorem dX4_setTimes_19 : decode cX4_setTimes 19 = .ok (.aload_n 0, 1) := by decide +kernel
theorem dX4_setTimes_20 : decode cX4_setTimes 20 = .ok (.iload_n 1, 1) := by decide +kernel
theorem dX4_setTimes_21 : decode cX4_setTimes 21 = .ok (.putfield 51, 3) := by decide +kernel
theorem dX4_setTimes_24 : decode cX4_setTimes 24 = .ok (.aload_n 0, 1) := by decide +kernel
theorem dX4_setTimes_25 : decode cX4_setTimes 25 = .ok (.iload_n 2, 1) := by decide +kernel
theorem dX4_setTimes_26 : decode cX4_setTimes 26 = .ok (.putfield 55, 3) := by decide +kernel
theorem dX4_setTimes_29 : decode cX4_setTimes 29 = .ok (.iload_n 3, 1) := by decide +kernel
theorem dX4_setTimes_30 : decode cX4_setTimes 30 = .ok (.ireturn, 1) := by decide +kernel
theorem dX4_bill_0 : decode cX4_bill 0 = .ok (.iload_n 1, 1) := by decide +kernel
theorem dX4_bill_1 : decode cX4_bill 1 = .ok (.invokestatic 109, 3) := by decide +kernel
theorem dX4_bill_4 : decode cX4_bill 4 = .ok (.iload_n 2, 1) := by decide +kernel
theorem dX4_bill_5 : decode cX4_bill 5 = .ok (.iconst 1, 1) := by decide +kernel
theorem dX4_bill_6 : decode cX4_bill 6 = .ok (.sipush 9999, 3) := by decide +kernel
theorem dX4_bill_9 : decode cX4_bill 9 = .ok (.invokestatic 86, 3) := by decide +kernel
theorem dX4_bill_12 : decode cX4_bill 12 = .ok (.aload_n 0, 1) := by decide +kernel
theorem dX4_bill_13 : decode cX4_bill 13 = .ok (.getfield 112, 3) := by decide +kernel
theorem dX4_bill_16 : decode cX4_bill 16 = .ok (.istore_n 3, 1) := by decide +kernel
theorem dX4_bill_17 : decode cX4_bill 17 = .ok (.iload_n 3, 1) := by decide +kernel
theorem dX4_bill_18 : decode cX4_bill 18 = .ok (.ifCond .lt 12, 3) := by decide +kernel
theorem dX4_bill_21 : decode cX4_bill 21 = .ok (.iload_n 3, 1) := by decide +kernel
theorem dX4_bill_22 : decode cX4_bill 22 = .ok (.aload_n 0, 1) := by decide +kernel
theorem dX4_bill_23 : decode cX4_bill 23 = .ok (.getfield 40, 3) := by decide +kernel
theorem dX4_bill_26 : decode cX4_bill 26 = .ok (.arraylength, 1) := by decide +kernel
theorem dX4_bill_27 : decode cX4_bill 27 = .ok (.if_icmp .lt 13, 3) := by decide +kernel
theorem dX4_bill_30 : decode cX4_bill 30 = .ok (.new 69, 3) := by decide +kernel
theorem dX4_bill_33 : decode cX4_bill 33 = .ok (.dup, 1) := by decide +kernel
theorem dX4_bill_34 : decode cX4_bill 34 = .ok (.ldc 115, 2) := by decide +kernel
theorem dX4_bill_36 : decode cX4_bill 36 = .ok (.invokespecial 73, 3) := by decide +kernel
theorem dX4_bill_39 : decode cX4_bill 39 = .ok (.athrow, 1) := by decide +kernel
theorem dX4_bill_40 : decode cX4_bill 40 = .ok (.new 38, 3) := by decide +kernel
theorem dX4_bill_43 : decode cX4_bill 43 = .ok (.dup, 1) := by decide +kernel
theorem dX4_bill_44 : decode cX4_bill 44 = .ok (.iload_n 3, 1) := by decide +kernel
theorem dX4_bill_45 : decode cX4_bill 45 = .ok (.iload_n 1, 1) := by decide +kernel
theorem dX4_bill_46 : decode cX4_bill 46 = .ok (.iload_n 2, 1) := by decide +kernel
theorem dX4_bill_47 : decode cX4_bill 47 = .ok (.invokespecial 117, 3) := by decide +kernel
theorem dX4_bill_50 : decode cX4_bill 50 = .ok (.astore 4, 2) := by decide +kernel
theorem dX4_bill_52 : decode cX4_bill 52 = .ok (.aload_n 0, 1) := by decide +kernel
theorem dX4_bill_53 : decode cX4_bill 53 = .ok (.getfield 40, 3) := by decide +kernel
theorem dX4_bill_56 : decode cX4_bill 56 = .ok (.iload_n 3, 1) := by decide +kernel
theorem dX4_bill_57 : decode cX4_bill 57 = .ok (.aload 4, 2) := by decide +kernel
theorem dX4_bill_59 : decode cX4_bill 59 = .ok (.aastore, 1) := by decide +kernel
theorem dX4_bill_60 : decode cX4_bill 60 = .ok (.aload_n 0, 1) := by decide +kernel
theorem dX4_bill_61 : decode cX4_bill 61 = .ok (.iload_n 3, 1) := by decide +kernel
theorem dX4_bill_62 : decode cX4_bill 62 = .ok (.iconst 1, 1) := by decide +kernel
theorem dX4_bill_63 : decode cX4_bill 63 = .ok (.iadd, 1) := by decide +kernel
theorem dX4_bill_64 : decode cX4_bill 64 = .ok (.putfield 112, 3) := by decide +kernel
theorem dX4_bill_67 : decode cX4_bill 67 = .ok (.aload_n 0, 1) := by decide +kernel
theorem dX4_bill_68 : decode cX4_bill 68 = .ok (.dup, 1) := by decide +kernel
theorem dX4_bill_69 : decode cX4_bill 69 = .ok (.getfield 119, 3) := by decide +kernel
theorem dX4_bill_72 : decode cX4_bill 72 = .ok (.iload_n 2, 1) := by decide +kernel
theorem dX4_bill_73 : decode cX4_bill 73 = .ok (.iadd, 1) := by decide +kernel
theorem dX4_bill_74 : decode cX4_bill 74 = .ok (.putfield 119, 3) := by decide +kernel
theorem dX4_bill_77 : decode cX4_bill 77 = .ok (.aload_n 0, 1) := by decide +kernel
theorem dX4_bill_78 : decode cX4_bill 78 = .ok (.aload 4, 2) := by decide +kernel
theorem dX4_bill_80 : decode cX4_bill 80 = .ok (.iconst 0, 1) := by decide +kernel
theorem dX4_bill_81 : decode cX4_bill 81 = .ok (.aload_n 0, 1) := by decide +kernel
theorem dX4_bill_82 : decode cX4_bill 82 = .ok (.getfield 10, 3) := by decide +kernel
theorem dX4_bill_85 : decode cX4_bill 85 = .ok (.aload_n 0, 1) := by decide +kernel
theorem dX4_bill_86 : decode cX4_bill 86 = .ok (.getfield 83, 3) := by decide +kernel
theorem dX4_bill_89 : decode cX4_bill 89 = .ok (.iconst 1, 1) := by decide +kernel
theorem dX4_bill_90 : decode cX4_bill 90 = .ok (.iadd, 1) := by decide +kernel
theorem dX4_bill_91 : decode cX4_bill 91 = .ok (.invokevirtual 122, 3) := by decide +kernel
theorem dX4_bill_94 : decode cX4_bill 94 = .ok (.invokevirtual 125, 3) := by decide +kernel
theorem dX4_bill_97 : decode cX4_bill 97 = .ok (.iload_n 3, 1) := by decide +kernel
theorem dX4_bill_98 : decode cX4_bill 98 = .ok (.ireturn, 1) := by decide +kernel
theorem dX4_outcome_0 : decode cX4_outcome 0 = .ok (.aload_n 0, 1) := by decide +kernel
theorem dX4_outcome_1 : decode cX4_outcome 1 = .ok (.iload_n 1, 1) := by decide +kernel
theorem dX4_outcome_2 : decode cX4_outcome 2 = .ok (.invokevirtual 129, 3) := by decide +kernel
theorem dX4_outcome_5 : decode cX4_outcome 5 = .ok (.astore_n 3, 1) := by decide +kernel
theorem dX4_outcome_6 : decode cX4_outcome 6 = .ok (.iload_n 2, 1) := by decide +kernel
theorem dX4_outcome_7 : decode cX4_outcome 7 = .ok (.iconst 0, 1) := by decide +kernel
theorem dX4_outcome_8 : decode cX4_outcome 8 = .ok (.iconst 4, 1) := by decide +kernel
theorem dX4_outcome_9 : decode cX4_outcome 9 = .ok (.invokestatic 86, 3) := by decide +kernel
theorem dX4_outcome_12 : decode cX4_outcome 12 = .ok (.aload_n 3, 1) := by decide +kernel
theorem dX4_outcome_13 : decode cX4_outcome 13 = .ok (.getfield 133, 3) := by decide +kernel
theorem dX4_outcome_16 : decode cX4_outcome 16 = .ok (.iconst 1, 1) := by decide +kernel
theorem dX4_outcome_17 : decode cX4_outcome 17 = .ok (.if_icmp .eq 13, 3) := by decide +kernel
theorem dX4_outcome_20 : decode cX4_outcome 20 = .ok (.new 69, 3) := by decide +kernel
theorem dX4_outcome_23 : decode cX4_outcome 23 = .ok (.dup, 1) := by decide +kernel
theorem dX4_outcome_24 : decode cX4_outcome 24 = .ok (.ldc 136, 2) := by decide +kernel
theorem dX4_outcome_26 : decode cX4_outcome 26 = .ok (.invokespecial 73, 3) := by decide +kernel
theorem dX4_outcome_29 : decode cX4_outcome 29 = .ok (.athrow, 1) := by decide +kernel
theorem dX4_outcome_30 : decode cX4_outcome 30 = .ok (.iload_n 2, 1) := by decide +kernel
theorem dX4_outcome_31 : decode cX4_outcome 31 = .ok (.ifCond .ne 15, 3) := by decide +kernel
theorem dX4_outcome_34 : decode cX4_outcome 34 = .ok (.aload_n 0, 1) := by decide +kernel
theorem dX4_outcome_35 : decode cX4_outcome 35 = .ok (.aload_n 3, 1) := by decide +kernel
theorem dX4_outcome_36 : decode cX4_outcome 36 = .ok (.aload_n 3, 1) := by decide +kernel
theorem dX4_outcome_37 : decode cX4_outcome 37 = .ok (.getfield 138, 3) := by decide +kernel
theorem dX4_outcome_40 : decode cX4_outcome 40 = .ok (.invokevirtual 141, 3) := by decide +kernel
theorem dX4_outcome_43 : decode cX4_outcome 43 = .ok (.goto 9, 3) := by decide +kernel
theorem dX4_outcome_46 : decode cX4_outcome 46 = .ok (.aload_n 0, 1) := by decide +kernel
theorem dX4_outcome_47 : decode cX4_outcome 47 = .ok (.aload_n 3, 1) := by decide +kernel
theorem dX4_outcome_48 : decode cX4_outcome 48 = .ok (.iload_n 2, 1) := by decide +kernel
theorem dX4_outcome_49 : decode cX4_outcome 49 = .ok (.invokevirtual 145, 3) := by decide +kernel
theorem dX4_outcome_52 : decode cX4_outcome 52 = .ok (.aload_n 3, 1) := by decide +kernel
theorem dX4_outcome_53 : decode cX4_outcome 53 = .ok (.getfield 133, 3) := by decide +kernel
theorem dX4_outcome_56 : decode cX4_outcome 56 = .ok (.ireturn, 1) := by decide +kernel
theorem dX4_pay_0 : decode cX4_pay 0 = .ok (.aload_n 0, 1) := by decide +kernel
theorem dX4_pay_1 : decode cX4_pay 1 = .ok (.iload_n 1, 1) := by decide +kernel
theorem dX4_pay_2 : decode cX4_pay 2 = .ok (.invokevirtual 129, 3) := by decide +kernel
theorem dX4_pay_5 : decode cX4_pay 5 = .ok (.astore_n 3, 1) := by decide +kernel
theorem dX4_pay_6 : decode cX4_pay 6 = .ok (.iload_n 2, 1) := by decide +kernel
theorem dX4_pay_7 : decode cX4_pay 7 = .ok (.iconst 1, 1) := by decide +kernel
theorem dX4_pay_8 : decode cX4_pay 8 = .ok (.sipush 9999, 3) := by decide +kernel
theorem dX4_pay_11 : decode cX4_pay 11 = .ok (.invokestatic 86, 3) := by decide +kernel
theorem dX4_pay_14 : decode cX4_pay 14 = .ok (.aload_n 3, 1) := by decide +kernel
theorem dX4_pay_15 : decode cX4_pay 15 = .ok (.getfield 133, 3) := by decide +kernel
theorem dX4_pay_18 : decode cX4_pay 18 = .ok (.iconst 1, 1) := by decide +kernel
theorem dX4_pay_19 : decode cX4_pay 19 = .ok (.if_icmp .eq 20, 3) := by decide +kernel
theorem dX4_pay_22 : decode cX4_pay 22 = .ok (.aload_n 3, 1) := by decide +kernel
theorem dX4_pay_23 : decode cX4_pay 23 = .ok (.getfield 133, 3) := by decide +kernel
theorem dX4_pay_26 : decode cX4_pay 26 = .ok (.bipush 6, 2) := by decide +kernel
theorem dX4_pay_28 : decode cX4_pay 28 = .ok (.if_icmp .eq 11, 3) := by decide +kernel
theorem dX4_pay_31 : decode cX4_pay 31 = .ok (.iload_n 2, 1) := by decide +kernel
theorem dX4_pay_32 : decode cX4_pay 32 = .ok (.aload_n 3, 1) := by decide +kernel
theorem dX4_pay_33 : decode cX4_pay 33 = .ok (.getfield 138, 3) := by decide +kernel
theorem dX4_pay_36 : decode cX4_pay 36 = .ok (.if_icmp .le 13, 3) := by decide +kernel
theorem dX4_pay_39 : decode cX4_pay 39 = .ok (.new 69, 3) := by decide +kernel
theorem dX4_pay_42 : decode cX4_pay 42 = .ok (.dup, 1) := by decide +kernel
theorem dX4_pay_43 : decode cX4_pay 43 = .ok (.ldc 148, 2) := by decide +kernel
theorem dX4_pay_45 : decode cX4_pay 45 = .ok (.invokespecial 73, 3) := by decide +kernel
theorem dX4_pay_48 : decode cX4_pay 48 = .ok (.athrow, 1) := by decide +kernel
theorem dX4_pay_49 : decode cX4_pay 49 = .ok (.aload_n 0, 1) := by decide +kernel
theorem dX4_pay_50 : decode cX4_pay 50 = .ok (.aload_n 3, 1) := by decide +kernel
theorem dX4_pay_51 : decode cX4_pay 51 = .ok (.iload_n 2, 1) := by decide +kernel
theorem dX4_pay_52 : decode cX4_pay 52 = .ok (.invokevirtual 141, 3) := by decide +kernel
theorem dX4_pay_55 : decode cX4_pay 55 = .ok (.aload_n 3, 1) := by decide +kernel
theorem dX4_pay_56 : decode cX4_pay 56 = .ok (.getfield 138, 3) := by decide +kernel
theorem dX4_pay_59 : decode cX4_pay 59 = .ok (.ireturn, 1) := by decide +kernel
theorem dX4_promise_0 : decode cX4_promise 0 = .ok (.aload_n 0, 1) := by decide +kernel
theorem dX4_promise_1 : decode cX4_promise 1 = .ok (.iload_n 1, 1) := by decide +kernel
theorem dX4_promise_2 : decode cX4_promise 2 = .ok (.invokevirtual 129, 3) := by decide +kernel
theorem dX4_promise_5 : decode cX4_promise 5 = .ok (.astore_n 3, 1) := by decide +kernel
theorem dX4_promise_6 : decode cX4_promise 6 = .ok (.iload_n 2, 1) := by decide +kernel
theorem dX4_promise_7 : decode cX4_promise 7 = .ok (.iconst 1, 1) := by decide +kernel
theorem dX4_promise_8 : decode cX4_promise 8 = .ok (.bipush 30, 2) := by decide +kernel
theorem dX4_promise_10 : decode cX4_promise 10 = .ok (.invokestatic 86, 3) := by decide +kernel
theorem dX4_promise_13 : decode cX4_promise 13 = .ok (.aload_n 3, 1) := by decide +kernel
theorem dX4_promise_14 : decode cX4_promise 14 = .ok (.getfield 133, 3) := by decide +kernel
theorem dX4_promise_17 : decode cX4_promise 17 = .ok (.ifCond .eq 19, 3) := by decide +kernel
theorem dX4_promise_20 : decode cX4_promise 20 = .ok (.aload_n 3, 1) := by decide +kernel
theorem dX4_promise_21 : decode cX4_promise 21 = .ok (.getfield 133, 3) := by decide +kernel
theorem dX4_promise_24 : decode cX4_promise 24 = .ok (.iconst 2, 1) := by decide +kernel
theorem dX4_promise_25 : decode cX4_promise 25 = .ok (.if_icmp .eq 11, 3) := by decide +kernel
theorem dX4_promise_28 : decode cX4_promise 28 = .ok (.aload_n 3, 1) := by decide +kernel
theorem dX4_promise_29 : decode cX4_promise 29 = .ok (.getfield 133, 3) := by decide +kernel
theorem dX4_promise_32 : decode cX4_promise 32 = .ok (.iconst 3, 1) := by decide +kernel
theorem dX4_promise_33 : decode cX4_promise 33 = .ok (.if_icmp .ne 7, 3) := by decide +kernel
theorem dX4_promise_36 : decode cX4_promise 36 = .ok (.iconst 1, 1) := by decide +kernel
theorem dX4_promise_37 : decode cX4_promise 37 = .ok (.goto 4, 3) := by decide +kernel
theorem dX4_promise_40 : decode cX4_promise 40 = .ok (.iconst 0, 1) := by decide +kernel
theorem dX4_promise_41 : decode cX4_promise 41 = .ok (.istore 4, 2) := by decide +kernel
theorem dX4_promise_43 : decode cX4_promise 43 = .ok (.iload 4, 2) := by decide +kernel
theorem dX4_promise_45 : decode cX4_promise 45 = .ok (.ifCond .eq 11, 3) := by decide +kernel
theorem dX4_promise_48 : decode cX4_promise 48 = .ok (.aload_n 3, 1) := by decide +kernel
theorem dX4_promise_49 : decode cX4_promise 49 = .ok (.getfield 150, 3) := by decide +kernel
theorem dX4_promise_52 : decode cX4_promise 52 = .ok (.iconst 2, 1) := by decide +kernel
theorem dX4_promise_53 : decode cX4_promise 53 = .ok (.if_icmp .lt 13, 3) := by decide +kernel
theorem dX4_promise_56 : decode cX4_promise 56 = .ok (.new 69, 3) := by decide +kernel
theorem dX4_promise_59 : decode cX4_promise 59 = .ok (.dup, 1) := by decide +kernel
theorem dX4_promise_60 : decode cX4_promise 60 = .ok (.ldc 153, 2) := by decide +kernel
theorem dX4_promise_62 : decode cX4_promise 62 = .ok (.invokespecial 73, 3) := by decide +kernel
theorem dX4_promise_65 : decode cX4_promise 65 = .ok (.athrow, 1) := by decide +kernel
theorem dX4_promise_66 : decode cX4_promise 66 = .ok (.aload_n 3, 1) := by decide +kernel
theorem dX4_promise_67 : decode cX4_promise 67 = .ok (.dup, 1) := by decide +kernel
theorem dX4_promise_68 : decode cX4_promise 68 = .ok (.getfield 150, 3) := by decide +kernel
theorem dX4_promise_71 : decode cX4_promise 71 = .ok (.iconst 1, 1) := by decide +kernel
theorem dX4_promise_72 : decode cX4_promise 72 = .ok (.iadd, 1) := by decide +kernel
theorem dX4_promise_73 : decode cX4_promise 73 = .ok (.putfield 150, 3) := by decide +kernel
theorem dX4_promise_76 : decode cX4_promise 76 = .ok (.aload_n 3, 1) := by decide +kernel
theorem dX4_promise_77 : decode cX4_promise 77 = .ok (.aload_n 3, 1) := by decide +kernel
theorem dX4_promise_78 : decode cX4_promise 78 = .ok (.getfield 133, 3) := by decide +kernel
theorem dX4_promise_81 : decode cX4_promise 81 = .ok (.putfield 155, 3) := by decide +kernel
theorem dX4_promise_84 : decode cX4_promise 84 = .ok (.aload_n 3, 1) := by decide +kernel
theorem dX4_promise_85 : decode cX4_promise 85 = .ok (.aload_n 3, 1) := by decide +kernel
theorem dX4_promise_86 : decode cX4_promise 86 = .ok (.getfield 158, 3) := by decide +kernel
theorem dX4_promise_89 : decode cX4_promise 89 = .ok (.aload_n 0, 1) := by decide +kernel
theorem dX4_promise_90 : decode cX4_promise 90 = .ok (.getfield 83, 3) := by decide +kernel
theorem dX4_promise_93 : decode cX4_promise 93 = .ok (.isub, 1) := by decide +kernel
theorem dX4_promise_94 : decode cX4_promise 94 = .ok (.putfield 161, 3) := by decide +kernel
theorem dX4_promise_97 : decode cX4_promise 97 = .ok (.aload_n 0, 1) := by decide +kernel
theorem dX4_promise_98 : decode cX4_promise 98 = .ok (.aload_n 3, 1) := by decide +kernel
theorem dX4_promise_99 : decode cX4_promise 99 = .ok (.iconst 4, 1) := by decide +kernel
theorem dX4_promise_100 : decode cX4_promise 100 = .ok (.aload_n 0, 1) := by decide +kernel
theorem dX4_promise_101 : decode cX4_promise 101 = .ok (.getfield 83, 3) := by decide +kernel
theorem dX4_promise_104 : decode cX4_promise 104 = .ok (.iload_n 2, 1) := by decide +kernel
theorem dX4_promise_105 : decode cX4_promise 105 = .ok (.iadd, 1) := by decide +kernel
theorem dX4_promise_106 : decode cX4_promise 106 = .ok (.invokevirtual 125, 3) := by decide +kernel
theorem dX4_promise_109 : decode cX4_promise 109 = .ok (.aload_n 3, 1) := by decide +kernel
theorem dX4_promise_110 : decode cX4_promise 110 = .ok (.getfield 158, 3) := by decide +kernel
theorem dX4_promise_113 : decode cX4_promise 113 = .ok (.ireturn, 1) := by decide +kernel
theorem dX4_pass_0 : decode cX4_pass 0 = .ok (.iload_n 1, 1) := by decide +kernel
theorem dX4_pass_1 : decode cX4_pass 1 = .ok (.iconst 1, 1) := by decide +kernel
theorem dX4_pass_2 : decode cX4_pass 2 = .ok (.bipush 60, 2) := by decide +kernel
theorem dX4_pass_4 : decode cX4_pass 4 = .ok (.invokestatic 86, 3) := by decide +kernel
theorem dX4_pass_7 : decode cX4_pass 7 = .ok (.iconst 0, 1) := by decide +kernel
theorem dX4_pass_8 : decode cX4_pass 8 = .ok (.istore_n 2, 1) := by decide +kernel
theorem dX4_pass_9 : decode cX4_pass 9 = .ok (.iconst 0, 1) := by decide +kernel
theorem dX4_pass_10 : decode cX4_pass 10 = .ok (.istore_n 3, 1) := by decide +kernel
theorem dX4_pass_11 : decode cX4_pass 11 = .ok (.iload_n 3, 1) := by decide +kernel
theorem dX4_pass_12 : decode cX4_pass 12 = .ok (.iload_n 1, 1) := by decide +kernel
theorem dX4_pass_13 : decode cX4_pass 13 = .ok (.if_icmp .ge 30, 3) := by decide +kernel
theorem dX4_pass_16 : decode cX4_pass 16 = .ok (.aload_n 0, 1) := by decide +kernel
theorem dX4_pass_17 : decode cX4_pass 17 = .ok (.invokevirtual 164, 3) := by decide +kernel
theorem dX4_pass_20 : decode cX4_pass 20 = .ok (.aload_n 0, 1) := by decide +kernel
theorem dX4_pass_21 : decode cX4_pass 21 = .ok (.dup, 1) := by decide +kernel
theorem dX4_pass_22 : decode cX4_pass 22 = .ok (.getfield 83, 3) := by decide +kernel
theorem dX4_pass_25 : decode cX4_pass 25 = .ok (.iconst 1, 1) := by decide +kernel
theorem dX4_pass_26 : decode cX4_pass 26 = .ok (.iadd, 1) := by decide +kernel
theorem dX4_pass_27 : decode cX4_pass 27 = .ok (.putfield 83, 3) := by decide +kernel
theorem dX4_pass_30 : decode cX4_pass 30 = .ok (.iload_n 2, 1) := by decide +kernel
theorem dX4_pass_31 : decode cX4_pass 31 = .ok (.aload_n 0, 1) := by decide +kernel
theorem dX4_pass_32 : decode cX4_pass 32 = .ok (.invokevirtual 167, 3) := by decide +kernel
theorem dX4_pass_35 : decode cX4_pass 35 = .ok (.iadd, 1) := by decide +kernel
theorem dX4_pass_36 : decode cX4_pass 36 = .ok (.istore_n 2, 1) := by decide +kernel
theorem dX4_pass_37 : decode cX4_pass 37 = .ok (.iinc 3 1, 3) := by decide +kernel
theorem dX4_pass_40 : decode cX4_pass 40 = .ok (.goto (-29), 3) := by decide +kernel
theorem dX4_pass_43 : decode cX4_pass 43 = .ok (.iload_n 2, 1) := by decide +kernel
theorem dX4_pass_44 : decode cX4_pass 44 = .ok (.ireturn, 1) := by decide +kernel
theorem dX4_today_0 : decode cX4_today 0 = .ok (.aload_n 0, 1) := by decide +kernel
theorem dX4_today_1 : decode cX4_today 1 = .ok (.getfield 83, 3) := by decide +kernel
theorem dX4_today_4 : decode cX4_today 4 = .ok (.ireturn, 1) := by decide +kernel
theorem dX4_isCharging_0 : decode cX4_isCharging 0 = .ok (.iload_n 1, 1) := by decide +kernel
theorem dX4_isCharging_1 : decode cX4_isCharging 1 = .ok (.iconst 0, 1) := by decide +kernel
theorem dX4_isCharging_2 : decode cX4_isCharging 2 = .ok (.ldc 171, 2) := by decide +kernel
theorem dX4_isCharging_4 : decode cX4_isCharging 4 = .ok (.invokestatic 86, 3) := by decide +kernel
theorem dX4_isCharging_7 : decode cX4_isCharging 7 = .ok (.aload_n 0, 1) := by decide +kernel
theorem dX4_isCharging_8 : decode cX4_isCharging 8 = .ok (.getfield 10, 3) := by decide +kernel
theorem dX4_isCharging_11 : decode cX4_isCharging 11 = .ok (.iload_n 1, 1) := by decide +kernel
theorem dX4_isCharging_12 : decode cX4_isCharging 12 = .ok (.invokevirtual 172, 3) := by decide +kernel
theorem dX4_isCharging_15 : decode cX4_isCharging 15 = .ok (.ireturn, 1) := by decide +kernel
theorem dX4_bills_0 : decode cX4_bills 0 = .ok (.aload_n 0, 1) := by decide +kernel
theorem dX4_bills_1 : decode cX4_bills 1 = .ok (.getfield 112, 3) := by decide +kernel
theorem dX4_bills_4 : decode cX4_bills 4 = .ok (.ireturn, 1) := by decide +kernel
theorem dX4_stateOf_0 : decode cX4_stateOf 0 = .ok (.aload_n 0, 1) := by decide +kernel
theorem dX4_stateOf_1 : decode cX4_stateOf 1 = .ok (.iload_n 1, 1) := by decide +kernel
theorem dX4_stateOf_2 : decode cX4_stateOf 2 = .ok (.invokevirtual 129, 3) := by decide +kernel
theorem dX4_stateOf_5 : decode cX4_stateOf 5 = .ok (.getfield 133, 3) := by decide +kernel
theorem dX4_stateOf_8 : decode cX4_stateOf 8 = .ok (.ireturn, 1) := by decide +kernel
theorem dX4_left_0 : decode cX4_left 0 = .ok (.aload_n 0, 1) := by decide +kernel
theorem dX4_left_1 : decode cX4_left 1 = .ok (.iload_n 1, 1) := by decide +kernel
theorem dX4_left_2 : decode cX4_left 2 = .ok (.invokevirtual 129, 3) := by decide +kernel
theorem dX4_left_5 : decode cX4_left 5 = .ok (.getfield 138, 3) := by decide +kernel
theorem dX4_left_8 : decode cX4_left 8 = .ok (.ireturn, 1) := by decide +kernel
theorem dX4_tries_0 : decode cX4_tries 0 = .ok (.aload_n 0, 1) := by decide +kernel
theorem dX4_tries_1 : decode cX4_tries 1 = .ok (.iload_n 1, 1) := by decide +kernel
theorem dX4_tries_2 : decode cX4_tries 2 = .ok (.invokevirtual 129, 3) := by decide +kernel
theorem dX4_tries_5 : decode cX4_tries 5 = .ok (.getfield 175, 3) := by decide +kernel
theorem dX4_tries_8 : decode cX4_tries 8 = .ok (.ireturn, 1) := by decide +kernel
theorem dX4_failures_0 : decode cX4_failures 0 = .ok (.aload_n 0, 1) := by decide +kernel
theorem dX4_failures_1 : decode cX4_failures 1 = .ok (.iload_n 1, 1) := by decide +kernel
theorem dX4_failures_2 : decode cX4_failures 2 = .ok (.invokevirtual 129, 3) := by decide +kernel
theorem dX4_failures_5 : decode cX4_failures 5 = .ok (.astore_n 3, 1) := by decide +kernel
theorem dX4_failures_6 : decode cX4_failures 6 = .ok (.aload_n 3, 1) := by decide +kernel
theorem dX4_failures_7 : decode cX4_failures 7 = .ok (.getfield 178, 3) := by decide +kernel
theorem dX4_failures_10 : decode cX4_failures 10 = .ok (.iload_n 2, 1) := by decide +kernel
theorem dX4_failures_11 : decode cX4_failures 11 = .ok (.invokestatic 98, 3) := by decide +kernel
theorem dX4_failures_14 : decode cX4_failures 14 = .ok (.iaload, 1) := by decide +kernel
theorem dX4_failures_15 : decode cX4_failures 15 = .ok (.ireturn, 1) := by decide +kernel
theorem dX4_waitsFor_0 : decode cX4_waitsFor 0 = .ok (.aload_n 0, 1) := by decide +kernel
theorem dX4_waitsFor_1 : decode cX4_waitsFor 1 = .ok (.iload_n 1, 1) := by decide +kernel
theorem dX4_waitsFor_2 : decode cX4_waitsFor 2 = .ok (.invokevirtual 129, 3) := by decide +kernel
theorem dX4_waitsFor_5 : decode cX4_waitsFor 5 = .ok (.getfield 158, 3) := by decide +kernel
theorem dX4_waitsFor_8 : decode cX4_waitsFor 8 = .ok (.ireturn, 1) := by decide +kernel
theorem dX4_broken_0 : decode cX4_broken 0 = .ok (.aload_n 0, 1) := by decide +kernel
theorem dX4_broken_1 : decode cX4_broken 1 = .ok (.iload_n 1, 1) := by decide +kernel
theorem dX4_broken_2 : decode cX4_broken 2 = .ok (.invokevirtual 129, 3) := by decide +kernel
theorem dX4_broken_5 : decode cX4_broken 5 = .ok (.getfield 181, 3) := by decide +kernel
theorem dX4_broken_8 : decode cX4_broken 8 = .ok (.ireturn, 1) := by decide +kernel
theorem dX4_service_0 : decode cX4_service 0 = .ok (.iload_n 1, 1) := by decide +kernel
theorem dX4_service_1 : decode cX4_service 1 = .ok (.invokestatic 109, 3) := by decide +kernel
theorem dX4_service_4 : decode cX4_service 4 = .ok (.iconst 2, 1) := by decide +kernel
theorem dX4_service_5 : decode cX4_service 5 = .ok (.istore_n 2, 1) := by decide +kernel
theorem dX4_service_6 : decode cX4_service 6 = .ok (.iconst 0, 1) := by decide +kernel
theorem dX4_service_7 : decode cX4_service 7 = .ok (.istore_n 3, 1) := by decide +kernel
theorem dX4_service_8 : decode cX4_service 8 = .ok (.iload_n 3, 1) := by decide +kernel
theorem dX4_service_9 : decode cX4_service 9 = .ok (.aload_n 0, 1) := by decide +kernel
theorem dX4_service_10 : decode cX4_service 10 = .ok (.getfield 40, 3) := by decide +kernel
theorem dX4_service_13 : decode cX4_service 13 = .ok (.arraylength, 1) := by decide +kernel
theorem dX4_service_14 : decode cX4_service 14 = .ok (.if_icmp .ge 41, 3) := by decide +kernel
theorem dX4_service_17 : decode cX4_service 17 = .ok (.aload_n 0, 1) := by decide +kernel
theorem dX4_service_18 : decode cX4_service 18 = .ok (.getfield 40, 3) := by decide +kernel
theorem dX4_service_21 : decode cX4_service 21 = .ok (.iload_n 3, 1) := by decide +kernel
theorem dX4_service_22 : decode cX4_service 22 = .ok (.aaload, 1) := by decide +kernel
theorem dX4_service_23 : decode cX4_service 23 = .ok (.astore 4, 2) := by decide +kernel
theorem dX4_service_25 : decode cX4_service 25 = .ok (.aload 4, 2) := by decide +kernel
theorem dX4_service_27 : decode cX4_service 27 = .ok (.ifnull 22, 3) := by decide +kernel
theorem dX4_service_30 : decode cX4_service 30 = .ok (.aload 4, 2) := by decide +kernel
theorem dX4_service_32 : decode cX4_service 32 = .ok (.getfield 184, 3) := by decide +kernel
theorem dX4_service_35 : decode cX4_service 35 = .ok (.iload_n 1, 1) := by decide +kernel
theorem dX4_service_36 : decode cX4_service 36 = .ok (.if_icmp .ne 13, 3) := by decide +kernel
theorem dX4_service_39 : decode cX4_service 39 = .ok (.iload_n 2, 1) := by decide +kernel
theorem dX4_service_40 : decode cX4_service 40 = .ok (.aload 4, 2) := by decide +kernel
theorem dX4_service_42 : decode cX4_service 42 = .ok (.invokestatic 187, 3) := by decide +kernel
theorem dX4_service_45 : decode cX4_service 45 = .ok (.invokestatic 191, 3) := by decide +kernel
theorem dX4_service_48 : decode cX4_service 48 = .ok (.istore_n 2, 1) := by decide +kernel
theorem dX4_service_49 : decode cX4_service 49 = .ok (.iinc 3 1, 3) := by decide +kernel
theorem dX4_service_52 : decode cX4_service 52 = .ok (.goto (-44), 3) := by decide +kernel
theorem dX4_service_55 : decode cX4_service 55 = .ok (.iload_n 2, 1) := by decide +kernel
theorem dX4_service_56 : decode cX4_service 56 = .ok (.ireturn, 1) := by decide +kernel
theorem dX4_billed_0 : decode cX4_billed 0 = .ok (.aload_n 0, 1) := by decide +kernel
theorem dX4_billed_1 : decode cX4_billed 1 = .ok (.getfield 119, 3) := by decide +kernel
theorem dX4_billed_4 : decode cX4_billed 4 = .ok (.ireturn, 1) := by decide +kernel
theorem dX4_paid_0 : decode cX4_paid 0 = .ok (.aload_n 0, 1) := by decide +kernel
theorem dX4_paid_1 : decode cX4_paid 1 = .ok (.getfield 197, 3) := by decide +kernel
theorem dX4_paid_4 : decode cX4_paid 4 = .ok (.ireturn, 1) := by decide +kernel
theorem dX4_writtenOff_0 : decode cX4_writtenOff 0 = .ok (.aload_n 0, 1) := by decide +kernel
theorem dX4_writtenOff_1 : decode cX4_writtenOff 1 = .ok (.getfield 200, 3) := by decide +kernel
theorem dX4_writtenOff_4 : decode cX4_writtenOff 4 = .ok (.ireturn, 1) := by decide +kernel
theorem dX4_broughtBack_0 : decode cX4_broughtBack 0 = .ok (.aload_n 0, 1) := by decide +kernel
theorem dX4_broughtBack_1 : decode cX4_broughtBack 1 = .ok (.getfield 203, 3) := by decide +kernel
theorem dX4_broughtBack_4 : decode cX4_broughtBack 4 = .ok (.ireturn, 1) := by decide +kernel
theorem dX4_leftIn_0 : decode cX4_leftIn 0 = .ok (.iload_n 1, 1) := by decide +kernel
theorem dX4_leftIn_1 : decode cX4_leftIn 1 = .ok (.invokestatic 109, 3) := by decide +kernel
theorem dX4_leftIn_4 : decode cX4_leftIn 4 = .ok (.iload_n 2, 1) := by decide +kernel
theorem dX4_leftIn_5 : decode cX4_leftIn 5 = .ok (.iconst 0, 1) := by decide +kernel
theorem dX4_leftIn_6 : decode cX4_leftIn 6 = .ok (.bipush 6, 2) := by decide +kernel
theorem dX4_leftIn_8 : decode cX4_leftIn 8 = .ok (.invokestatic 86, 3) := by decide +kernel
theorem dX4_leftIn_11 : decode cX4_leftIn 11 = .ok (.iconst 0, 1) := by decide +kernel
theorem dX4_leftIn_12 : decode cX4_leftIn 12 = .ok (.istore_n 3, 1) := by decide +kernel
theorem dX4_leftIn_13 : decode cX4_leftIn 13 = .ok (.iconst 0, 1) := by decide +kernel
theorem dX4_leftIn_14 : decode cX4_leftIn 14 = .ok (.istore 4, 2) := by decide +kernel
theorem dX4_leftIn_16 : decode cX4_leftIn 16 = .ok (.iload 4, 2) := by decide +kernel
theorem dX4_leftIn_18 : decode cX4_leftIn 18 = .ok (.aload_n 0, 1) := by decide +kernel
theorem dX4_leftIn_19 : decode cX4_leftIn 19 = .ok (.getfield 40, 3) := by decide +kernel
theorem dX4_leftIn_22 : decode cX4_leftIn 22 = .ok (.arraylength, 1) := by decide +kernel
theorem dX4_leftIn_23 : decode cX4_leftIn 23 = .ok (.if_icmp .ge 49, 3) := by decide +kernel
theorem dX4_leftIn_26 : decode cX4_leftIn 26 = .ok (.aload_n 0, 1) := by decide +kernel
theorem dX4_leftIn_27 : decode cX4_leftIn 27 = .ok (.getfield 40, 3) := by decide +kernel
theorem dX4_leftIn_30 : decode cX4_leftIn 30 = .ok (.iload 4, 2) := by decide +kernel
theorem dX4_leftIn_32 : decode cX4_leftIn 32 = .ok (.aaload, 1) := by decide +kernel
theorem dX4_leftIn_33 : decode cX4_leftIn 33 = .ok (.astore 5, 2) := by decide +kernel
theorem dX4_leftIn_35 : decode cX4_leftIn 35 = .ok (.aload 5, 2) := by decide +kernel
theorem dX4_leftIn_37 : decode cX4_leftIn 37 = .ok (.ifnull 29, 3) := by decide +kernel
theorem dX4_leftIn_40 : decode cX4_leftIn 40 = .ok (.aload 5, 2) := by decide +kernel
theorem dX4_leftIn_42 : decode cX4_leftIn 42 = .ok (.getfield 184, 3) := by decide +kernel
theorem dX4_leftIn_45 : decode cX4_leftIn 45 = .ok (.iload_n 1, 1) := by decide +kernel
theorem dX4_leftIn_46 : decode cX4_leftIn 46 = .ok (.if_icmp .ne 20, 3) := by decide +kernel
theorem dX4_leftIn_49 : decode cX4_leftIn 49 = .ok (.aload 5, 2) := by decide +kernel
theorem dX4_leftIn_51 : decode cX4_leftIn 51 = .ok (.getfield 133, 3) := by decide +kernel
theorem dX4_leftIn_54 : decode cX4_leftIn 54 = .ok (.iload_n 2, 1) := by decide +kernel
theorem dX4_leftIn_55 : decode cX4_leftIn 55 = .ok (.if_icmp .ne 11, 3) := by decide +kernel
theorem dX4_leftIn_58 : decode cX4_leftIn 58 = .ok (.iload_n 3, 1) := by decide +kernel
theorem dX4_leftIn_59 : decode cX4_leftIn 59 = .ok (.aload 5, 2) := by decide +kernel
theorem dX4_leftIn_61 : decode cX4_leftIn 61 = .ok (.getfield 138, 3) := by decide +kernel
theorem dX4_leftIn_64 : decode cX4_leftIn 64 = .ok (.iadd, 1) := by decide +kernel
theorem dX4_leftIn_65 : decode cX4_leftIn 65 = .ok (.istore_n 3, 1) := by decide +kernel
theorem dX4_leftIn_66 : decode cX4_leftIn 66 = .ok (.iinc 4 1, 3) := by decide +kernel
theorem dX4_leftIn_69 : decode cX4_leftIn 69 = .ok (.goto (-53), 3) := by decide +kernel
theorem dX4_leftIn_72 : decode cX4_leftIn 72 = .ok (.iload_n 3, 1) := by decide +kernel
theorem dX4_leftIn_73 : decode cX4_leftIn 73 = .ok (.ireturn, 1) := by decide +kernel
theorem dX4_events_0 : decode cX4_events 0 = .ok (.aload_n 0, 1) := by decide +kernel
theorem dX4_events_1 : decode cX4_events 1 = .ok (.getfield 47, 3) := by decide +kernel
theorem dX4_events_4 : decode cX4_events 4 = .ok (.getfield 206, 3) := by decide +kernel
theorem dX4_events_7 : decode cX4_events 7 = .ok (.ireturn, 1) := by decide +kernel
theorem dX4_event_0 : decode cX4_event 0 = .ok (.iload_n 1, 1) := by decide +kernel
theorem dX4_event_1 : decode cX4_event 1 = .ok (.ifCond .lt 14, 3) := by decide +kernel
theorem dX4_event_4 : decode cX4_event 4 = .ok (.iload_n 1, 1) := by decide +kernel
theorem dX4_event_5 : decode cX4_event 5 = .ok (.aload_n 0, 1) := by decide +kernel
theorem dX4_event_6 : decode cX4_event 6 = .ok (.getfield 47, 3) := by decide +kernel
theorem dX4_event_9 : decode cX4_event 9 = .ok (.invokevirtual 209, 3) := by decide +kernel
theorem dX4_event_12 : decode cX4_event 12 = .ok (.if_icmp .lt 13, 3) := by decide +kernel
theorem dX4_event_15 : decode cX4_event 15 = .ok (.new 58, 3) := by decide +kernel
theorem dX4_event_18 : decode cX4_event 18 = .ok (.dup, 1) := by decide +kernel
theorem dX4_event_19 : decode cX4_event 19 = .ok (.ldc 212, 2) := by decide +kernel
theorem dX4_event_21 : decode cX4_event 21 = .ok (.invokespecial 62, 3) := by decide +kernel
theorem dX4_event_24 : decode cX4_event 24 = .ok (.athrow, 1) := by decide +kernel
theorem dX4_event_25 : decode cX4_event 25 = .ok (.aload_n 0, 1) := by decide +kernel
theorem dX4_event_26 : decode cX4_event 26 = .ok (.getfield 47, 3) := by decide +kernel
theorem dX4_event_29 : decode cX4_event 29 = .ok (.iload_n 1, 1) := by decide +kernel
theorem dX4_event_30 : decode cX4_event 30 = .ok (.invokevirtual 214, 3) := by decide +kernel
theorem dX4_event_33 : decode cX4_event 33 = .ok (.ireturn, 1) := by decide +kernel
theorem dX4_stateAt_0 : decode cX4_stateAt 0 = .ok (.aload_n 0, 1) := by decide +kernel
theorem dX4_stateAt_1 : decode cX4_stateAt 1 = .ok (.iload_n 1, 1) := by decide +kernel
theorem dX4_stateAt_2 : decode cX4_stateAt 2 = .ok (.invokevirtual 129, 3) := by decide +kernel
theorem dX4_stateAt_5 : decode cX4_stateAt 5 = .ok (.pop, 1) := by decide +kernel
theorem dX4_stateAt_6 : decode cX4_stateAt 6 = .ok (.iload_n 2, 1) := by decide +kernel
theorem dX4_stateAt_7 : decode cX4_stateAt 7 = .ok (.iconst 0, 1) := by decide +kernel
theorem dX4_stateAt_8 : decode cX4_stateAt 8 = .ok (.aload_n 0, 1) := by decide +kernel
theorem dX4_stateAt_9 : decode cX4_stateAt 9 = .ok (.getfield 83, 3) := by decide +kernel
theorem dX4_stateAt_12 : decode cX4_stateAt 12 = .ok (.invokestatic 86, 3) := by decide +kernel
theorem dX4_stateAt_15 : decode cX4_stateAt 15 = .ok (.aload_n 0, 1) := by decide +kernel
theorem dX4_stateAt_16 : decode cX4_stateAt 16 = .ok (.getfield 47, 3) := by decide +kernel
theorem dX4_stateAt_19 : decode cX4_stateAt 19 = .ok (.iload_n 1, 1) := by decide +kernel
theorem dX4_stateAt_20 : decode cX4_stateAt 20 = .ok (.iload_n 2, 1) := by decide +kernel
theorem dX4_stateAt_21 : decode cX4_stateAt 21 = .ok (.invokevirtual 217, 3) := by decide +kernel
theorem dX4_stateAt_24 : decode cX4_stateAt 24 = .ok (.ireturn, 1) := by decide +kernel
theorem dX4_checkRange_0 : decode cX4_checkRange 0 = .ok (.iload_n 0, 1) := by decide +kernel
theorem dX4_checkRange_1 : decode cX4_checkRange 1 = .ok (.iload_n 1, 1) := by decide +kernel
theorem dX4_checkRange_2 : decode cX4_checkRange 2 = .ok (.if_icmp .lt 8, 3) := by decide +kernel
theorem dX4_checkRange_5 : decode cX4_checkRange 5 = .ok (.iload_n 0, 1) := by decide +kernel
theorem dX4_checkRange_6 : decode cX4_checkRange 6 = .ok (.iload_n 2, 1) := by decide +kernel
theorem dX4_checkRange_7 : decode cX4_checkRange 7 = .ok (.if_icmp .le 13, 3) := by decide +kernel
theorem dX4_checkRange_10 : decode cX4_checkRange 10 = .ok (.new 220, 3) := by decide +kernel
theorem dX4_checkRange_13 : decode cX4_checkRange 13 = .ok (.dup, 1) := by decide +kernel
theorem dX4_checkRange_14 : decode cX4_checkRange 14 = .ok (.ldc 222, 2) := by decide +kernel
theorem dX4_checkRange_16 : decode cX4_checkRange 16 = .ok (.invokespecial 224, 3) := by decide +kernel
theorem dX4_checkRange_19 : decode cX4_checkRange 19 = .ok (.athrow, 1) := by decide +kernel
theorem dX4_checkRange_20 : decode cX4_checkRange 20 = .ok (.return_, 1) := by decide +kernel
theorem dX4_checkAccount_0 : decode cX4_checkAccount 0 = .ok (.iload_n 0, 1) := by decide +kernel
theorem dX4_checkAccount_1 : decode cX4_checkAccount 1 = .ok (.ifCond .lt 9, 3) := by decide +kernel
theorem dX4_checkAccount_4 : decode cX4_checkAccount 4 = .ok (.iload_n 0, 1) := by decide +kernel
theorem dX4_checkAccount_5 : decode cX4_checkAccount 5 = .ok (.bipush 8, 2) := by decide +kernel
theorem dX4_checkAccount_7 : decode cX4_checkAccount 7 = .ok (.if_icmp .lt 13, 3) := by decide +kernel
theorem dX4_checkAccount_10 : decode cX4_checkAccount 10 = .ok (.new 58, 3) := by decide +kernel
theorem dX4_checkAccount_13 : decode cX4_checkAccount 13 = .ok (.dup, 1) := by decide +kernel
theorem dX4_checkAccount_14 : decode cX4_checkAccount 14 = .ok (.ldc 225, 2) := by decide +kernel
theorem dX4_checkAccount_16 : decode cX4_checkAccount 16 = .ok (.invokespecial 62, 3) := by decide +kernel
theorem dX4_checkAccount_19 : decode cX4_checkAccount 19 = .ok (.athrow, 1) := by decide +kernel
theorem dX4_checkAccount_20 : decode cX4_checkAccount 20 = .ok (.return_, 1) := by decide +kernel
theorem dX4_indexOfReason_0 : decode cX4_indexOfReason 0 = .ok (.iload_n 0, 1) := by decide +kernel
theorem dX4_indexOfReason_1 : decode cX4_indexOfReason 1 = .ok (.iconst 1, 1) := by decide +kernel
theorem dX4_indexOfReason_2 : decode cX4_indexOfReason 2 = .ok (.if_icmp .lt 8, 3) := by decide +kernel
theorem dX4_indexOfReason_5 : decode cX4_indexOfReason 5 = .ok (.iload_n 0, 1) := by decide +kernel
theorem dX4_indexOfReason_6 : decode cX4_indexOfReason 6 = .ok (.iconst 4, 1) := by decide +kernel
theorem dX4_indexOfReason_7 : decode cX4_indexOfReason 7 = .ok (.if_icmp .le 13, 3) := by decide +kernel
theorem dX4_indexOfReason_10 : decode cX4_indexOfReason 10 = .ok (.new 58, 3) := by decide +kernel
theorem dX4_indexOfReason_13 : decode cX4_indexOfReason 13 = .ok (.dup, 1) := by decide +kernel
theorem dX4_indexOfReason_14 : decode cX4_indexOfReason 14 = .ok (.ldc 227, 2) := by decide +kernel
theorem dX4_indexOfReason_16 : decode cX4_indexOfReason 16 = .ok (.invokespecial 62, 3) := by decide +kernel
theorem dX4_indexOfReason_19 : decode cX4_indexOfReason 19 = .ok (.athrow, 1) := by decide +kernel
theorem dX4_indexOfReason_20 : decode cX4_indexOfReason 20 = .ok (.iload_n 0, 1) := by decide +kernel
theorem dX4_indexOfReason_21 : decode cX4_indexOfReason 21 = .ok (.iconst 1, 1) := by decide +kernel
theorem dX4_indexOfReason_22 : decode cX4_indexOfReason 22 = .ok (.isub, 1) := by decide +kernel
theorem dX4_indexOfReason_23 : decode cX4_indexOfReason 23 = .ok (.ireturn, 1) := by decide +kernel
theorem dX4_findBill_0 : decode cX4_findBill 0 = .ok (.iload_n 1, 1) := by decide +kernel
theorem dX4_findBill_1 : decode cX4_findBill 1 = .ok (.ifCond .lt 21, 3) := by decide +kernel
theorem dX4_findBill_4 : decode cX4_findBill 4 = .ok (.iload_n 1, 1) := by decide +kernel
theorem dX4_findBill_5 : decode cX4_findBill 5 = .ok (.aload_n 0, 1) := by decide +kernel
theorem dX4_findBill_6 : decode cX4_findBill 6 = .ok (.getfield 40, 3) := by decide +kernel
theorem dX4_findBill_9 : decode cX4_findBill 9 = .ok (.arraylength, 1) := by decide +kernel
theorem dX4_findBill_10 : decode cX4_findBill 10 = .ok (.if_icmp .ge 12, 3) := by decide +kernel
theorem dX4_findBill_13 : decode cX4_findBill 13 = .ok (.aload_n 0, 1) := by decide +kernel
theorem dX4_findBill_14 : decode cX4_findBill 14 = .ok (.getfield 40, 3) := by decide +kernel
theorem dX4_findBill_17 : decode cX4_findBill 17 = .ok (.iload_n 1, 1) := by decide +kernel
theorem dX4_findBill_18 : decode cX4_findBill 18 = .ok (.aaload, 1) := by decide +kernel
theorem dX4_findBill_19 : decode cX4_findBill 19 = .ok (.goto 4, 3) := by decide +kernel
theorem dX4_findBill_22 : decode cX4_findBill 22 = .ok (.aconst_null, 1) := by decide +kernel
theorem dX4_findBill_23 : decode cX4_findBill 23 = .ok (.astore_n 2, 1) := by decide +kernel
theorem dX4_findBill_24 : decode cX4_findBill 24 = .ok (.aload_n 2, 1) := by decide +kernel
theorem dX4_findBill_25 : decode cX4_findBill 25 = .ok (.ifnonnull 13, 3) := by decide +kernel
theorem dX4_findBill_28 : decode cX4_findBill 28 = .ok (.new 58, 3) := by decide +kernel
theorem dX4_findBill_31 : decode cX4_findBill 31 = .ok (.dup, 1) := by decide +kernel
theorem dX4_findBill_32 : decode cX4_findBill 32 = .ok (.ldc 229, 2) := by decide +kernel
theorem dX4_findBill_34 : decode cX4_findBill 34 = .ok (.invokespecial 62, 3) := by decide +kernel
theorem dX4_findBill_37 : decode cX4_findBill 37 = .ok (.athrow, 1) := by decide +kernel
theorem dX4_findBill_38 : decode cX4_findBill 38 = .ok (.aload_n 2, 1) := by decide +kernel
theorem dX4_findBill_39 : decode cX4_findBill 39 = .ok (.areturn, 1) := by decide +kernel
theorem dX4_enter_0 : decode cX4_enter 0 = .ok (.aload_n 1, 1) := by decide +kernel
theorem dX4_enter_1 : decode cX4_enter 1 = .ok (.iload_n 2, 1) := by decide +kernel
theorem dX4_enter_2 : decode cX4_enter 2 = .ok (.putfield 133, 3) := by decide +kernel
theorem dX4_enter_5 : decode cX4_enter 5 = .ok (.aload_n 1, 1) := by decide +kernel
theorem dX4_enter_6 : decode cX4_enter 6 = .ok (.iload_n 3, 1) := by decide +kernel
theorem dX4_enter_7 : decode cX4_enter 7 = .ok (.putfield 158, 3) := by decide +kernel
theorem dX4_enter_10 : decode cX4_enter 10 = .ok (.aload_n 0, 1) := by decide +kernel
theorem dX4_enter_11 : decode cX4_enter 11 = .ok (.getfield 47, 3) := by decide +kernel
theorem dX4_enter_14 : decode cX4_enter 14 = .ok (.aload_n 0, 1) := by decide +kernel
theorem dX4_enter_15 : decode cX4_enter 15 = .ok (.getfield 83, 3) := by decide +kernel
theorem dX4_enter_18 : decode cX4_enter 18 = .ok (.aload_n 1, 1) := by decide +kernel
theorem dX4_enter_19 : decode cX4_enter 19 = .ok (.getfield 231, 3) := by decide +kernel
theorem dX4_enter_22 : decode cX4_enter 22 = .ok (.iload_n 2, 1) := by decide +kernel
theorem dX4_enter_23 : decode cX4_enter 23 = .ok (.invokevirtual 234, 3) := by decide +kernel
theorem dX4_enter_26 : decode cX4_enter 26 = .ok (.return_, 1) := by decide +kernel
theorem dX4_takePayment_0 : decode cX4_takePayment 0 = .ok (.aload_n 1, 1) := by decide +kernel
theorem dX4_takePayment_1 : decode cX4_takePayment 1 = .ok (.dup, 1) := by decide +kernel
theorem dX4_takePayment_2 : decode cX4_takePayment 2 = .ok (.getfield 138, 3) := by decide +kernel
theorem dX4_takePayment_5 : decode cX4_takePayment 5 = .ok (.iload_n 2, 1) := by decide +kernel
theorem dX4_takePayment_6 : decode cX4_takePayment 6 = .ok (.isub, 1) := by decide +kernel
theorem dX4_takePayment_7 : decode cX4_takePayment 7 = .ok (.putfield 138, 3) := by decide +kernel
theorem dX4_takePayment_10 : decode cX4_takePayment 10 = .ok (.aload_n 0, 1) := by decide +kernel
theorem dX4_takePayment_11 : decode cX4_takePayment 11 = .ok (.dup, 1) := by decide +kernel
theorem dX4_takePayment_12 : decode cX4_takePayment 12 = .ok (.getfield 197, 3) := by decide +kernel
theorem dX4_takePayment_15 : decode cX4_takePayment 15 = .ok (.iload_n 2, 1) := by decide +kernel
theorem dX4_takePayment_16 : decode cX4_takePayment 16 = .ok (.iadd, 1) := by decide +kernel
theorem dX4_takePayment_17 : decode cX4_takePayment 17 = .ok (.putfield 197, 3) := by decide +kernel
theorem dX4_takePayment_20 : decode cX4_takePayment 20 = .ok (.aload_n 1, 1) := by decide +kernel
theorem dX4_takePayment_21 : decode cX4_takePayment 21 = .ok (.getfield 133, 3) := by decide +kernel
theorem dX4_takePayment_24 : decode cX4_takePayment 24 = .ok (.iconst 5, 1) := by decide +kernel
theorem dX4_takePayment_25 : decode cX4_takePayment 25 = .ok (.if_icmp .ne 13, 3) := by decide +kernel
theorem dX4_takePayment_28 : decode cX4_takePayment 28 = .ok (.aload_n 0, 1) := by decide +kernel
theorem dX4_takePayment_29 : decode cX4_takePayment 29 = .ok (.dup, 1) := by decide +kernel
theorem dX4_takePayment_30 : decode cX4_takePayment 30 = .ok (.getfield 203, 3) := by decide +kernel
theorem dX4_takePayment_33 : decode cX4_takePayment 33 = .ok (.iload_n 2, 1) := by decide +kernel
theorem dX4_takePayment_34 : decode cX4_takePayment 34 = .ok (.iadd, 1) := by decide +kernel
theorem dX4_takePayment_35 : decode cX4_takePayment 35 = .ok (.putfield 203, 3) := by decide +kernel
theorem dX4_takePayment_38 : decode cX4_takePayment 38 = .ok (.aload_n 1, 1) := by decide +kernel
theorem dX4_takePayment_39 : decode cX4_takePayment 39 = .ok (.getfield 138, 3) := by decide +kernel
theorem dX4_takePayment_42 : decode cX4_takePayment 42 = .ok (.ifCond .ne 11, 3) := by decide +kernel
theorem dX4_takePayment_45 : decode cX4_takePayment 45 = .ok (.aload_n 0, 1) := by decide +kernel
theorem dX4_takePayment_46 : decode cX4_takePayment 46 = .ok (.aload_n 1, 1) := by decide +kernel
theorem dX4_takePayment_47 : decode cX4_takePayment 47 = .ok (.bipush 6, 2) := by decide +kernel
theorem dX4_takePayment_49 : decode cX4_takePayment 49 = .ok (.iconst (-1), 1) := by decide +kernel
theorem dX4_takePayment_50 : decode cX4_takePayment 50 = .ok (.invokevirtual 125, 3) := by decide +kernel
theorem dX4_takePayment_53 : decode cX4_takePayment 53 = .ok (.return_, 1) := by decide +kernel
theorem dX4_fail_0 : decode cX4_fail 0 = .ok (.iload_n 2, 1) := by decide +kernel
theorem dX4_fail_1 : decode cX4_fail 1 = .ok (.invokestatic 98, 3) := by decide +kernel
theorem dX4_fail_4 : decode cX4_fail 4 = .ok (.istore_n 3, 1) := by decide +kernel
theorem dX4_fail_5 : decode cX4_fail 5 = .ok (.aload_n 1, 1) := by decide +kernel
theorem dX4_fail_6 : decode cX4_fail 6 = .ok (.getfield 178, 3) := by decide +kernel
theorem dX4_fail_9 : decode cX4_fail 9 = .ok (.iload_n 3, 1) := by decide +kernel
theorem dX4_fail_10 : decode cX4_fail 10 = .ok (.dup2, 1) := by decide +kernel
theorem dX4_fail_11 : decode cX4_fail 11 = .ok (.iaload, 1) := by decide +kernel
theorem dX4_fail_12 : decode cX4_fail 12 = .ok (.iconst 1, 1) := by decide +kernel
theorem dX4_fail_13 : decode cX4_fail 13 = .ok (.iadd, 1) := by decide +kernel
theorem dX4_fail_14 : decode cX4_fail 14 = .ok (.iastore, 1) := by decide +kernel
theorem dX4_fail_15 : decode cX4_fail 15 = .ok (.aload_n 0, 1) := by decide +kernel
theorem dX4_fail_16 : decode cX4_fail 16 = .ok (.getfield 34, 3) := by decide +kernel
theorem dX4_fail_19 : decode cX4_fail 19 = .ok (.iload_n 3, 1) := by decide +kernel
theorem dX4_fail_20 : decode cX4_fail 20 = .ok (.aaload, 1) := by decide +kernel
theorem dX4_fail_21 : decode cX4_fail 21 = .ok (.aload_n 1, 1) := by decide +kernel
theorem dX4_fail_22 : decode cX4_fail 22 = .ok (.getfield 178, 3) := by decide +kernel
theorem dX4_fail_25 : decode cX4_fail 25 = .ok (.iload_n 3, 1) := by decide +kernel
theorem dX4_fail_26 : decode cX4_fail 26 = .ok (.iaload, 1) := by decide +kernel
theorem dX4_fail_27 : decode cX4_fail 27 = .ok (.invokevirtual 237, 3) := by decide +kernel
theorem dX4_fail_30 : decode cX4_fail 30 = .ok (.istore 4, 2) := by decide +kernel
theorem dX4_fail_32 : decode cX4_fail 32 = .ok (.iload 4, 2) := by decide +kernel
theorem dX4_fail_34 : decode cX4_fail 34 = .ok (.ifCond .ne 21, 3) := by decide +kernel
theorem dX4_fail_37 : decode cX4_fail 37 = .ok (.aload_n 0, 1) := by decide +kernel
theorem dX4_fail_38 : decode cX4_fail 38 = .ok (.aload_n 1, 1) := by decide +kernel
theorem dX4_fail_39 : decode cX4_fail 39 = .ok (.iconst 2, 1) := by decide +kernel
theorem dX4_fail_40 : decode cX4_fail 40 = .ok (.aload_n 0, 1) := by decide +kernel
theorem dX4_fail_41 : decode cX4_fail 41 = .ok (.getfield 83, 3) := by decide +kernel
theorem dX4_fail_44 : decode cX4_fail 44 = .ok (.aload_n 0, 1) := by decide +kernel
theorem dX4_fail_45 : decode cX4_fail 45 = .ok (.getfield 51, 3) := by decide +kernel
theorem dX4_fail_48 : decode cX4_fail 48 = .ok (.iadd, 1) := by decide +kernel
theorem dX4_fail_49 : decode cX4_fail 49 = .ok (.invokevirtual 125, 3) := by decide +kernel
theorem dX4_fail_52 : decode cX4_fail 52 = .ok (.goto 23, 3) := by decide +kernel
theorem dX4_fail_55 : decode cX4_fail 55 = .ok (.aload_n 0, 1) := by decide +kernel
theorem dX4_fail_56 : decode cX4_fail 56 = .ok (.aload_n 1, 1) := by decide +kernel
theorem dX4_fail_57 : decode cX4_fail 57 = .ok (.iconst 0, 1) := by decide +kernel
theorem dX4_fail_58 : decode cX4_fail 58 = .ok (.aload_n 0, 1) := by decide +kernel
theorem dX4_fail_59 : decode cX4_fail 59 = .ok (.getfield 10, 3) := by decide +kernel
theorem dX4_fail_62 : decode cX4_fail 62 = .ok (.aload_n 0, 1) := by decide +kernel
theorem dX4_fail_63 : decode cX4_fail 63 = .ok (.getfield 83, 3) := by decide +kernel
theorem dX4_fail_66 : decode cX4_fail 66 = .ok (.iload 4, 2) := by decide +kernel
theorem dX4_fail_68 : decode cX4_fail 68 = .ok (.iadd, 1) := by decide +kernel
theorem dX4_fail_69 : decode cX4_fail 69 = .ok (.invokevirtual 122, 3) := by decide +kernel
theorem dX4_fail_72 : decode cX4_fail 72 = .ok (.invokevirtual 125, 3) := by decide +kernel
theorem dX4_fail_75 : decode cX4_fail 75 = .ok (.return_, 1) := by decide +kernel
theorem dX4_failUnansweredTries_0 : decode cX4_failUnansweredTries 0 = .ok (.iconst 0, 1) := by decide +kernel
theorem dX4_failUnansweredTries_1 : decode cX4_failUnansweredTries 1 = .ok (.istore_n 1, 1) := by decide +kernel
theorem dX4_failUnansweredTries_2 : decode cX4_failUnansweredTries 2 = .ok (.iload_n 1, 1) := by decide +kernel
theorem dX4_failUnansweredTries_3 : decode cX4_failUnansweredTries 3 = .ok (.aload_n 0, 1) := by decide +kernel
theorem dX4_failUnansweredTries_4 : decode cX4_failUnansweredTries 4 = .ok (.getfield 40, 3) := by decide +kernel
theorem dX4_failUnansweredTries_7 : decode cX4_failUnansweredTries 7 = .ok (.arraylength, 1) := by decide +kernel
theorem dX4_failUnansweredTries_8 : decode cX4_failUnansweredTries 8 = .ok (.if_icmp .ge 34, 3) := by decide +kernel
theorem dX4_failUnansweredTries_11 : decode cX4_failUnansweredTries 11 = .ok (.aload_n 0, 1) := by decide +kernel
theorem dX4_failUnansweredTries_12 : decode cX4_failUnansweredTries 12 = .ok (.getfield 40, 3) := by decide +kernel
theorem dX4_failUnansweredTries_15 : decode cX4_failUnansweredTries 15 = .ok (.iload_n 1, 1) := by decide +kernel
theorem dX4_failUnansweredTries_16 : decode cX4_failUnansweredTries 16 = .ok (.aaload, 1) := by decide +kernel
theorem dX4_failUnansweredTries_17 : decode cX4_failUnansweredTries 17 = .ok (.astore_n 2, 1) := by decide +kernel
theorem dX4_failUnansweredTries_18 : decode cX4_failUnansweredTries 18 = .ok (.aload_n 2, 1) := by decide +kernel
theorem dX4_failUnansweredTries_19 : decode cX4_failUnansweredTries 19 = .ok (.ifnull 17, 3) := by decide +kernel
theorem dX4_failUnansweredTries_22 : decode cX4_failUnansweredTries 22 = .ok (.aload_n 2, 1) := by decide +kernel
theorem dX4_failUnansweredTries_23 : decode cX4_failUnansweredTries 23 = .ok (.getfield 133, 3) := by decide +kernel
theorem dX4_failUnansweredTries_26 : decode cX4_failUnansweredTries 26 = .ok (.iconst 1, 1) := by decide +kernel
theorem dX4_failUnansweredTries_27 : decode cX4_failUnansweredTries 27 = .ok (.if_icmp .ne 9, 3) := by decide +kernel
theorem dX4_failUnansweredTries_30 : decode cX4_failUnansweredTries 30 = .ok (.aload_n 0, 1) := by decide +kernel
theorem dX4_failUnansweredTries_31 : decode cX4_failUnansweredTries 31 = .ok (.aload_n 2, 1) := by decide +kernel
theorem dX4_failUnansweredTries_32 : decode cX4_failUnansweredTries 32 = .ok (.iconst 4, 1) := by decide +kernel
theorem dX4_failUnansweredTries_33 : decode cX4_failUnansweredTries 33 = .ok (.invokevirtual 145, 3) := by decide +kernel
theorem dX4_failUnansweredTries_36 : decode cX4_failUnansweredTries 36 = .ok (.iinc 1 1, 3) := by decide +kernel
theorem dX4_failUnansweredTries_39 : decode cX4_failUnansweredTries 39 = .ok (.goto (-37), 3) := by decide +kernel
theorem dX4_failUnansweredTries_42 : decode cX4_failUnansweredTries 42 = .ok (.return_, 1) := by decide +kernel
theorem dX4_lookAtBills_0 : decode cX4_lookAtBills 0 = .ok (.iconst 0, 1) := by decide +kernel
theorem dX4_lookAtBills_1 : decode cX4_lookAtBills 1 = .ok (.istore_n 1, 1) := by decide +kernel
theorem dX4_lookAtBills_2 : decode cX4_lookAtBills 2 = .ok (.iconst 0, 1) := by decide +kernel
theorem dX4_lookAtBills_3 : decode cX4_lookAtBills 3 = .ok (.istore_n 2, 1) := by decide +kernel
theorem dX4_lookAtBills_4 : decode cX4_lookAtBills 4 = .ok (.iload_n 2, 1) := by decide +kernel
theorem dX4_lookAtBills_5 : decode cX4_lookAtBills 5 = .ok (.aload_n 0, 1) := by decide +kernel
theorem dX4_lookAtBills_6 : decode cX4_lookAtBills 6 = .ok (.getfield 40, 3) := by decide +kernel
theorem dX4_lookAtBills_9 : decode cX4_lookAtBills 9 = .ok (.arraylength, 1) := by decide +kernel
theorem dX4_lookAtBills_10 : decode cX4_lookAtBills 10 = .ok (.if_icmp .ge 31, 3) := by decide +kernel
theorem dX4_lookAtBills_13 : decode cX4_lookAtBills 13 = .ok (.aload_n 0, 1) := by decide +kernel
theorem dX4_lookAtBills_14 : decode cX4_lookAtBills 14 = .ok (.getfield 40, 3) := by decide +kernel
theorem dX4_lookAtBills_17 : decode cX4_lookAtBills 17 = .ok (.iload_n 2, 1) := by decide +kernel
theorem dX4_lookAtBills_18 : decode cX4_lookAtBills 18 = .ok (.aaload, 1) := by decide +kernel
theorem dX4_lookAtBills_19 : decode cX4_lookAtBills 19 = .ok (.astore_n 3, 1) := by decide +kernel
theorem dX4_lookAtBills_20 : decode cX4_lookAtBills 20 = .ok (.aload_n 3, 1) := by decide +kernel
theorem dX4_lookAtBills_21 : decode cX4_lookAtBills 21 = .ok (.ifnull 14, 3) := by decide +kernel
theorem dX4_lookAtBills_24 : decode cX4_lookAtBills 24 = .ok (.aload_n 0, 1) := by decide +kernel
theorem dX4_lookAtBills_25 : decode cX4_lookAtBills 25 = .ok (.aload_n 3, 1) := by decide +kernel
theorem dX4_lookAtBills_26 : decode cX4_lookAtBills 26 = .ok (.invokevirtual 240, 3) := by decide +kernel
theorem dX4_lookAtBills_29 : decode cX4_lookAtBills 29 = .ok (.ifCond .eq 6, 3) := by decide +kernel
theorem dX4_lookAtBills_32 : decode cX4_lookAtBills 32 = .ok (.iinc 1 1, 3) := by decide +kernel
theorem dX4_lookAtBills_35 : decode cX4_lookAtBills 35 = .ok (.iinc 2 1, 3) := by decide +kernel
theorem dX4_lookAtBills_38 : decode cX4_lookAtBills 38 = .ok (.goto (-34), 3) := by decide +kernel
theorem dX4_lookAtBills_41 : decode cX4_lookAtBills 41 = .ok (.iload_n 1, 1) := by decide +kernel
theorem dX4_lookAtBills_42 : decode cX4_lookAtBills 42 = .ok (.ireturn, 1) := by decide +kernel
theorem dX4_lookAt_0 : decode cX4_lookAt 0 = .ok (.aload_n 1, 1) := by decide +kernel
theorem dX4_lookAt_1 : decode cX4_lookAt 1 = .ok (.getfield 133, 3) := by decide +kernel
theorem dX4_lookAt_4 : decode cX4_lookAt 4 = .ok (.ifCond .ne 28, 3) := by decide +kernel
theorem dX4_lookAt_7 : decode cX4_lookAt 7 = .ok (.aload_n 1, 1) := by decide +kernel
theorem dX4_lookAt_8 : decode cX4_lookAt 8 = .ok (.getfield 158, 3) := by decide +kernel
theorem dX4_lookAt_11 : decode cX4_lookAt 11 = .ok (.aload_n 0, 1) := by decide +kernel
theorem dX4_lookAt_12 : decode cX4_lookAt 12 = .ok (.getfield 83, 3) := by decide +kernel
theorem dX4_lookAt_15 : decode cX4_lookAt 15 = .ok (.if_icmp .gt 15, 3) := by decide +kernel
theorem dX4_lookAt_18 : decode cX4_lookAt 18 = .ok (.aload_n 0, 1) := by decide +kernel
theorem dX4_lookAt_19 : decode cX4_lookAt 19 = .ok (.aload_n 1, 1) := by decide +kernel
theorem dX4_lookAt_20 : decode cX4_lookAt 20 = .ok (.invokevirtual 244, 3) := by decide +kernel
theorem dX4_lookAt_23 : decode cX4_lookAt 23 = .ok (.ifCond .eq 7, 3) := by decide +kernel
theorem dX4_lookAt_26 : decode cX4_lookAt 26 = .ok (.iconst 1, 1) := by decide +kernel
theorem dX4_lookAt_27 : decode cX4_lookAt 27 = .ok (.goto 4, 3) := by decide +kernel
theorem dX4_lookAt_30 : decode cX4_lookAt 30 = .ok (.iconst 0, 1) := by decide +kernel
theorem dX4_lookAt_31 : decode cX4_lookAt 31 = .ok (.ireturn, 1) := by decide +kernel
theorem dX4_lookAt_32 : decode cX4_lookAt 32 = .ok (.aload_n 1, 1) := by decide +kernel
theorem dX4_lookAt_33 : decode cX4_lookAt 33 = .ok (.getfield 158, 3) := by decide +kernel
theorem dX4_lookAt_36 : decode cX4_lookAt 36 = .ok (.aload_n 0, 1) := by decide +kernel
theorem dX4_lookAt_37 : decode cX4_lookAt 37 = .ok (.getfield 83, 3) := by decide +kernel
theorem dX4_lookAt_40 : decode cX4_lookAt 40 = .ok (.if_icmp .eq 5, 3) := by decide +kernel
theorem dX4_lookAt_43 : decode cX4_lookAt 43 = .ok (.iconst 0, 1) := by decide +kernel
theorem dX4_lookAt_44 : decode cX4_lookAt 44 = .ok (.ireturn, 1) := by decide +kernel
theorem dX4_lookAt_45 : decode cX4_lookAt 45 = .ok (.aload_n 1, 1) := by decide +kernel
theorem dX4_lookAt_46 : decode cX4_lookAt 46 = .ok (.getfield 133, 3) := by decide +kernel
theorem dX4_lookAt_49 : decode cX4_lookAt 49 = .ok (.iconst 2, 1) := by decide +kernel
theorem dX4_lookAt_50 : decode cX4_lookAt 50 = .ok (.if_icmp .ne 21, 3) := by decide +kernel
theorem dX4_lookAt_53 : decode cX4_lookAt 53 = .ok (.aload_n 0, 1) := by decide +kernel
theorem dX4_lookAt_54 : decode cX4_lookAt 54 = .ok (.aload_n 1, 1) := by decide +kernel
theorem dX4_lookAt_55 : decode cX4_lookAt 55 = .ok (.iconst 3, 1) := by decide +kernel
theorem dX4_lookAt_56 : decode cX4_lookAt 56 = .ok (.aload_n 0, 1) := by decide +kernel
theorem dX4_lookAt_57 : decode cX4_lookAt 57 = .ok (.getfield 83, 3) := by decide +kernel
theorem dX4_lookAt_60 : decode cX4_lookAt 60 = .ok (.aload_n 0, 1) := by decide +kernel
theorem dX4_lookAt_61 : decode cX4_lookAt 61 = .ok (.getfield 55, 3) := by decide +kernel
theorem dX4_lookAt_64 : decode cX4_lookAt 64 = .ok (.iadd, 1) := by decide +kernel
theorem dX4_lookAt_65 : decode cX4_lookAt 65 = .ok (.invokevirtual 125, 3) := by decide +kernel
theorem dX4_lookAt_68 : decode cX4_lookAt 68 = .ok (.goto 47, 3) := by decide +kernel
theorem dX4_lookAt_71 : decode cX4_lookAt 71 = .ok (.aload_n 1, 1) := by decide +kernel
theorem dX4_lookAt_72 : decode cX4_lookAt 72 = .ok (.getfield 133, 3) := by decide +kernel
theorem dX4_lookAt_75 : decode cX4_lookAt 75 = .ok (.iconst 3, 1) := by decide +kernel
theorem dX4_lookAt_76 : decode cX4_lookAt 76 = .ok (.if_icmp .ne 26, 3) := by decide +kernel
theorem dX4_lookAt_79 : decode cX4_lookAt 79 = .ok (.aload_n 0, 1) := by decide +kernel
theorem dX4_lookAt_80 : decode cX4_lookAt 80 = .ok (.dup, 1) := by decide +kernel
theorem dX4_lookAt_81 : decode cX4_lookAt 81 = .ok (.getfield 200, 3) := by decide +kernel
theorem dX4_lookAt_84 : decode cX4_lookAt 84 = .ok (.aload_n 1, 1) := by decide +kernel
theorem dX4_lookAt_85 : decode cX4_lookAt 85 = .ok (.getfield 138, 3) := by decide +kernel
theorem dX4_lookAt_88 : decode cX4_lookAt 88 = .ok (.iadd, 1) := by decide +kernel
theorem dX4_lookAt_89 : decode cX4_lookAt 89 = .ok (.putfield 200, 3) := by decide +kernel
theorem dX4_lookAt_92 : decode cX4_lookAt 92 = .ok (.aload_n 0, 1) := by decide +kernel
theorem dX4_lookAt_93 : decode cX4_lookAt 93 = .ok (.aload_n 1, 1) := by decide +kernel
theorem dX4_lookAt_94 : decode cX4_lookAt 94 = .ok (.iconst 5, 1) := by decide +kernel
theorem dX4_lookAt_95 : decode cX4_lookAt 95 = .ok (.iconst (-1), 1) := by decide +kernel
theorem dX4_lookAt_96 : decode cX4_lookAt 96 = .ok (.invokevirtual 125, 3) := by decide +kernel
theorem dX4_lookAt_99 : decode cX4_lookAt 99 = .ok (.goto 16, 3) := by decide +kernel
theorem dX4_lookAt_102 : decode cX4_lookAt 102 = .ok (.aload_n 1, 1) := by decide +kernel
theorem dX4_lookAt_103 : decode cX4_lookAt 103 = .ok (.getfield 133, 3) := by decide +kernel
theorem dX4_lookAt_106 : decode cX4_lookAt 106 = .ok (.iconst 4, 1) := by decide +kernel
theorem dX4_lookAt_107 : decode cX4_lookAt 107 = .ok (.if_icmp .ne 8, 3) := by decide +kernel
theorem dX4_lookAt_110 : decode cX4_lookAt 110 = .ok (.aload_n 0, 1) := by decide +kernel
theorem dX4_lookAt_111 : decode cX4_lookAt 111 = .ok (.aload_n 1, 1) := by decide +kernel
theorem dX4_lookAt_112 : decode cX4_lookAt 112 = .ok (.invokevirtual 247, 3) := by decide +kernel
theorem dX4_lookAt_115 : decode cX4_lookAt 115 = .ok (.iconst 0, 1) := by decide +kernel
theorem dX4_lookAt_116 : decode cX4_lookAt 116 = .ok (.ireturn, 1) := by decide +kernel
theorem dX4_beginTry_0 : decode cX4_beginTry 0 = .ok (.aload_n 0, 1) := by decide +kernel
theorem dX4_beginTry_1 : decode cX4_beginTry 1 = .ok (.getfield 10, 3) := by decide +kernel
theorem dX4_beginTry_4 : decode cX4_beginTry 4 = .ok (.aload_n 0, 1) := by decide +kernel
theorem dX4_beginTry_5 : decode cX4_beginTry 5 = .ok (.getfield 83, 3) := by decide +kernel
theorem dX4_beginTry_8 : decode cX4_beginTry 8 = .ok (.invokevirtual 172, 3) := by decide +kernel
theorem dX4_beginTry_11 : decode cX4_beginTry 11 = .ok (.ifCond .ne 22, 3) := by decide +kernel
theorem dX4_beginTry_14 : decode cX4_beginTry 14 = .ok (.aload_n 1, 1) := by decide +kernel
theorem dX4_beginTry_15 : decode cX4_beginTry 15 = .ok (.aload_n 0, 1) := by decide +kernel
theorem dX4_beginTry_16 : decode cX4_beginTry 16 = .ok (.getfield 10, 3) := by decide +kernel
theorem dX4_beginTry_19 : decode cX4_beginTry 19 = .ok (.aload_n 0, 1) := by decide +kernel
theorem dX4_beginTry_20 : decode cX4_beginTry 20 = .ok (.getfield 83, 3) := by decide +kernel
theorem dX4_beginTry_23 : decode cX4_beginTry 23 = .ok (.iconst 1, 1) := by decide +kernel
theorem dX4_beginTry_24 : decode cX4_beginTry 24 = .ok (.iadd, 1) := by decide +kernel
theorem dX4_beginTry_25 : decode cX4_beginTry 25 = .ok (.invokevirtual 122, 3) := by decide +kernel
theorem dX4_beginTry_28 : decode cX4_beginTry 28 = .ok (.putfield 158, 3) := by decide +kernel
theorem dX4_beginTry_31 : decode cX4_beginTry 31 = .ok (.iconst 0, 1) := by decide +kernel
theorem dX4_beginTry_32 : decode cX4_beginTry 32 = .ok (.ireturn, 1) := by decide +kernel
theorem dX4_beginTry_33 : decode cX4_beginTry 33 = .ok (.aload_n 1, 1) := by decide +kernel
theorem dX4_beginTry_34 : decode cX4_beginTry 34 = .ok (.dup, 1) := by decide +kernel
theorem dX4_beginTry_35 : decode cX4_beginTry 35 = .ok (.getfield 175, 3) := by decide +kernel
theorem dX4_beginTry_38 : decode cX4_beginTry 38 = .ok (.iconst 1, 1) := by decide +kernel
theorem dX4_beginTry_39 : decode cX4_beginTry 39 = .ok (.iadd, 1) := by decide +kernel
theorem dX4_beginTry_40 : decode cX4_beginTry 40 = .ok (.putfield 175, 3) := by decide +kernel
theorem dX4_beginTry_43 : decode cX4_beginTry 43 = .ok (.aload_n 0, 1) := by decide +kernel
theorem dX4_beginTry_44 : decode cX4_beginTry 44 = .ok (.aload_n 1, 1) := by decide +kernel
theorem dX4_beginTry_45 : decode cX4_beginTry 45 = .ok (.iconst 1, 1) := by decide +kernel
theorem dX4_beginTry_46 : decode cX4_beginTry 46 = .ok (.iconst (-1), 1) := by decide +kernel
theorem dX4_beginTry_47 : decode cX4_beginTry 47 = .ok (.invokevirtual 125, 3) := by decide +kernel
theorem dX4_beginTry_50 : decode cX4_beginTry 50 = .ok (.iconst 1, 1) := by decide +kernel
theorem dX4_beginTry_51 : decode cX4_beginTry 51 = .ok (.ireturn, 1) := by decide +kernel
theorem dX4_breakPromise_0 : decode cX4_breakPromise 0 = .ok (.aload_n 1, 1) := by decide +kernel
theorem dX4_breakPromise_1 : decode cX4_breakPromise 1 = .ok (.dup, 1) := by decide +kernel
theorem dX4_breakPromise_2 : decode cX4_breakPromise 2 = .ok (.getfield 181, 3) := by decide +kernel
theorem dX4_breakPromise_5 : decode cX4_breakPromise 5 = .ok (.iconst 1, 1) := by decide +kernel
theorem dX4_breakPromise_6 : decode cX4_breakPromise 6 = .ok (.iadd, 1) := by decide +kernel
theorem dX4_breakPromise_7 : decode cX4_breakPromise 7 = .ok (.putfield 181, 3) := by decide +kernel
theorem dX4_breakPromise_10 : decode cX4_breakPromise 10 = .ok (.aload_n 1, 1) := by decide +kernel
theorem dX4_breakPromise_11 : decode cX4_breakPromise 11 = .ok (.getfield 155, 3) := by decide +kernel
theorem dX4_breakPromise_14 : decode cX4_breakPromise 14 = .ok (.ifCond .ne 25, 3) := by decide +kernel
theorem dX4_breakPromise_17 : decode cX4_breakPromise 17 = .ok (.aload_n 0, 1) := by decide +kernel
theorem dX4_breakPromise_18 : decode cX4_breakPromise 18 = .ok (.aload_n 1, 1) := by decide +kernel
theorem dX4_breakPromise_19 : decode cX4_breakPromise 19 = .ok (.iconst 0, 1) := by decide +kernel
theorem dX4_breakPromise_20 : decode cX4_breakPromise 20 = .ok (.aload_n 0, 1) := by decide +kernel
theorem dX4_breakPromise_21 : decode cX4_breakPromise 21 = .ok (.getfield 10, 3) := by decide +kernel
theorem dX4_breakPromise_24 : decode cX4_breakPromise 24 = .ok (.aload_n 0, 1) := by decide +kernel
theorem dX4_breakPromise_25 : decode cX4_breakPromise 25 = .ok (.getfield 83, 3) := by decide +kernel
theorem dX4_breakPromise_28 : decode cX4_breakPromise 28 = .ok (.iconst 1, 1) := by decide +kernel
theorem dX4_breakPromise_29 : decode cX4_breakPromise 29 = .ok (.iadd, 1) := by decide +kernel
theorem dX4_breakPromise_30 : decode cX4_breakPromise 30 = .ok (.invokevirtual 122, 3) := by decide +kernel
theorem dX4_breakPromise_33 : decode cX4_breakPromise 33 = .ok (.invokevirtual 125, 3) := by decide +kernel
theorem dX4_breakPromise_36 : decode cX4_breakPromise 36 = .ok (.goto 21, 3) := by decide +kernel
theorem dX4_breakPromise_39 : decode cX4_breakPromise 39 = .ok (.aload_n 0, 1) := by decide +kernel
theorem dX4_breakPromise_40 : decode cX4_breakPromise 40 = .ok (.aload_n 1, 1) := by decide +kernel
theorem dX4_breakPromise_41 : decode cX4_breakPromise 41 = .ok (.aload_n 1, 1) := by decide +kernel
theorem dX4_breakPromise_42 : decode cX4_breakPromise 42 = .ok (.getfield 155, 3) := by decide +kernel
theorem dX4_breakPromise_45 : decode cX4_breakPromise 45 = .ok (.aload_n 0, 1) := by decide +kernel
theorem dX4_breakPromise_46 : decode cX4_breakPromise 46 = .ok (.getfield 83, 3) := by decide +kernel
theorem dX4_breakPromise_49 : decode cX4_breakPromise 49 = .ok (.aload_n 1, 1) := by decide +kernel
theorem dX4_breakPromise_50 : decode cX4_breakPromise 50 = .ok (.getfield 161, 3) := by decide +kernel
theorem dX4_breakPromise_53 : decode cX4_breakPromise 53 = .ok (.iadd, 1) := by decide +kernel
theorem dX4_breakPromise_54 : decode cX4_breakPromise 54 = .ok (.invokevirtual 125, 3) := by decide +kernel
theorem dX4_breakPromise_57 : decode cX4_breakPromise 57 = .ok (.return_, 1) := by decide +kernel
theorem dX4_serviceWith_0 : decode cX4_serviceWith 0 = .ok (.aload_n 0, 1) := by decide +kernel
theorem dX4_serviceWith_1 : decode cX4_serviceWith 1 = .ok (.getfield 133, 3) := by decide +kernel
theorem dX4_serviceWith_4 : decode cX4_serviceWith 4 = .ok (.iconst 3, 1) := by decide +kernel
theorem dX4_serviceWith_5 : decode cX4_serviceWith 5 = .ok (.if_icmp .eq 11, 3) := by decide +kernel
theorem dX4_serviceWith_8 : decode cX4_serviceWith 8 = .ok (.aload_n 0, 1) := by decide +kernel
theorem dX4_serviceWith_9 : decode cX4_serviceWith 9 = .ok (.getfield 133, 3) := by decide +kernel
theorem dX4_serviceWith_12 : decode cX4_serviceWith 12 = .ok (.iconst 5, 1) := by decide +kernel
theorem dX4_serviceWith_13 : decode cX4_serviceWith 13 = .ok (.if_icmp .ne 5, 3) := by decide +kernel
theorem dX4_serviceWith_16 : decode cX4_serviceWith 16 = .ok (.iconst 0, 1) := by decide +kernel
theorem dX4_serviceWith_17 : decode cX4_serviceWith 17 = .ok (.ireturn, 1) := by decide +kernel
theorem dX4_serviceWith_18 : decode cX4_serviceWith 18 = .ok (.aload_n 0, 1) := by decide +kernel
theorem dX4_serviceWith_19 : decode cX4_serviceWith 19 = .ok (.getfield 133, 3) := by decide +kernel
theorem dX4_serviceWith_22 : decode cX4_serviceWith 22 = .ok (.iconst 4, 1) := by decide +kernel
theorem dX4_serviceWith_23 : decode cX4_serviceWith 23 = .ok (.if_icmp .ne 14, 3) := by decide +kernel
theorem dX4_serviceWith_26 : decode cX4_serviceWith 26 = .ok (.aload_n 0, 1) := by decide +kernel
theorem dX4_serviceWith_27 : decode cX4_serviceWith 27 = .ok (.getfield 155, 3) := by decide +kernel
theorem dX4_serviceWith_30 : decode cX4_serviceWith 30 = .ok (.ifCond .eq 7, 3) := by decide +kernel
theorem dX4_serviceWith_33 : decode cX4_serviceWith 33 = .ok (.iconst 1, 1) := by decide +kernel
theorem dX4_serviceWith_34 : decode cX4_serviceWith 34 = .ok (.goto 4, 3) := by decide +kernel
theorem dX4_serviceWith_37 : decode cX4_serviceWith 37 = .ok (.iconst 0, 1) := by decide +kernel
theorem dX4_serviceWith_38 : decode cX4_serviceWith 38 = .ok (.istore_n 1, 1) := by decide +kernel
theorem dX4_serviceWith_39 : decode cX4_serviceWith 39 = .ok (.aload_n 0, 1) := by decide +kernel
theorem dX4_serviceWith_40 : decode cX4_serviceWith 40 = .ok (.getfield 133, 3) := by decide +kernel
theorem dX4_serviceWith_43 : decode cX4_serviceWith 43 = .ok (.iconst 2, 1) := by decide +kernel
theorem dX4_serviceWith_44 : decode cX4_serviceWith 44 = .ok (.if_icmp .eq 7, 3) := by decide +kernel
theorem dX4_serviceWith_47 : decode cX4_serviceWith 47 = .ok (.iload_n 1, 1) := by decide +kernel
theorem dX4_serviceWith_48 : decode cX4_serviceWith 48 = .ok (.ifCond .eq 7, 3) := by decide +kernel
theorem dX4_serviceWith_51 : decode cX4_serviceWith 51 = .ok (.iconst 1, 1) := by decide +kernel
theorem dX4_serviceWith_52 : decode cX4_serviceWith 52 = .ok (.goto 4, 3) := by decide +kernel
theorem dX4_serviceWith_55 : decode cX4_serviceWith 55 = .ok (.iconst 2, 1) := by decide +kernel
theorem dX4_serviceWith_56 : decode cX4_serviceWith 56 = .ok (.ireturn, 1) := by decide +kernel
theorem dX5_init_0 : decode cX5_init 0 = .ok (.aload_n 0, 1) := by decide +kernel
theorem dX5_init_1 : decode cX5_init 1 = .ok (.invokespecial 1, 3) := by decide +kernel
theorem dX5_init_4 : decode cX5_init 4 = .ok (.aload_n 0, 1) := by decide +kernel
theorem dX5_init_5 : decode cX5_init 5 = .ok (.bipush 7, 2) := by decide +kernel
theorem dX5_init_7 : decode cX5_init 7 = .ok (.newarray .boolean, 2) := by decide +kernel
theorem dX5_init_9 : decode cX5_init 9 = .ok (.putfield 7, 3) := by decide +kernel
theorem dX5_init_12 : decode cX5_init 12 = .ok (.aload_n 0, 1) := by decide +kernel
theorem dX5_init_13 : decode cX5_init 13 = .ok (.sipush 1024, 3) := by decide +kernel
theorem dX5_init_16 : decode cX5_init 16 = .ok (.newarray .int, 2) := by decide +kernel
theorem dX5_init_18 : decode cX5_init 18 = .ok (.putfield 13, 3) := by decide +kernel
theorem dX5_init_21 : decode cX5_init 21 = .ok (.aload_n 0, 1) := by decide +kernel
theorem dX5_init_22 : decode cX5_init 22 = .ok (.bipush 30, 2) := by decide +kernel
theorem dX5_init_24 : decode cX5_init 24 = .ok (.newarray .int, 2) := by decide +kernel
theorem dX5_init_26 : decode cX5_init 26 = .ok (.putfield 17, 3) := by decide +kernel
theorem dX5_init_29 : decode cX5_init 29 = .ok (.aload_n 0, 1) := by decide +kernel
theorem dX5_init_30 : decode cX5_init 30 = .ok (.iconst 5, 1) := by decide +kernel
theorem dX5_init_31 : decode cX5_init 31 = .ok (.newarray .int, 2) := by decide +kernel
theorem dX5_init_33 : decode cX5_init 33 = .ok (.putfield 20, 3) := by decide +kernel
theorem dX5_init_36 : decode cX5_init 36 = .ok (.aload_n 0, 1) := by decide +kernel
theorem dX5_init_37 : decode cX5_init 37 = .ok (.bipush 30, 2) := by decide +kernel
theorem dX5_init_39 : decode cX5_init 39 = .ok (.newarray .int, 2) := by decide +kernel
theorem dX5_init_41 : decode cX5_init 41 = .ok (.putfield 23, 3) := by decide +kernel
theorem dX5_init_44 : decode cX5_init 44 = .ok (.aload_n 0, 1) := by decide +kernel
theorem dX5_init_45 : decode cX5_init 45 = .ok (.bipush 30, 2) := by decide +kernel
theorem dX5_init_47 : decode cX5_init 47 = .ok (.newarray .int, 2) := by decide +kernel
theorem dX5_init_49 : decode cX5_init 49 = .ok (.putfield 26, 3) := by decide +kernel
theorem dX5_init_52 : decode cX5_init 52 = .ok (.aload_n 0, 1) := by decide +kernel
theorem dX5_init_53 : decode cX5_init 53 = .ok (.bipush 30, 2) := by decide +kernel
theorem dX5_init_55 : decode cX5_init 55 = .ok (.newarray .int, 2) := by decide +kernel
theorem dX5_init_57 : decode cX5_init 57 = .ok (.putfield 29, 3) := by decide +kernel
theorem dX5_init_60 : decode cX5_init 60 = .ok (.aload_n 0, 1) := by decide +kernel
theorem dX5_init_61 : decode cX5_init 61 = .ok (.bipush 30, 2) := by decide +kernel
theorem dX5_init_63 : decode cX5_init 63 = .ok (.newarray .int, 2) := by decide +kernel
theorem dX5_init_65 : decode cX5_init 65 = .ok (.putfield 32, 3) := by decide +kernel
theorem dX5_init_68 : decode cX5_init 68 = .ok (.aload_n 0, 1) := by decide +kernel
theorem dX5_init_69 : decode cX5_init 69 = .ok (.bipush 30, 2) := by decide +kernel
theorem dX5_init_71 : decode cX5_init 71 = .ok (.newarray .int, 2) := by decide +kernel
theorem dX5_init_73 : decode cX5_init 73 = .ok (.putfield 35, 3) := by decide +kernel
theorem dX5_init_76 : decode cX5_init 76 = .ok (.aload_n 0, 1) := by decide +kernel
theorem dX5_init_77 : decode cX5_init 77 = .ok (.bipush 30, 2) := by decide +kernel
theorem dX5_init_79 : decode cX5_init 79 = .ok (.newarray .int, 2) := by decide +kernel
theorem dX5_init_81 : decode cX5_init 81 = .ok (.putfield 38, 3) := by decide +kernel
theorem dX5_init_84 : decode cX5_init 84 = .ok (.aload_n 0, 1) := by decide +kernel
theorem dX5_init_85 : decode cX5_init 85 = .ok (.sipush 150, 3) := by decide +kernel
theorem dX5_init_88 : decode cX5_init 88 = .ok (.newarray .int, 2) := by decide +kernel
theorem dX5_init_90 : decode cX5_init 90 = .ok (.putfield 41, 3) := by decide +kernel
theorem dX5_init_93 : decode cX5_init 93 = .ok (.aload_n 0, 1) := by decide +kernel
theorem dX5_init_94 : decode cX5_init 94 = .ok (.bipush 30, 2) := by decide +kernel
theorem dX5_init_96 : decode cX5_init 96 = .ok (.newarray .int, 2) := by decide +kernel
theorem dX5_init_98 : decode cX5_init 98 = .ok (.putfield 44, 3) := by decide +kernel
theorem dX5_init_101 : decode cX5_init 101 = .ok (.aload_n 0, 1) := by decide +kernel
theorem dX5_init_102 : decode cX5_init 102 = .ok (.bipush 30, 2) := by decide +kernel
theorem dX5_init_104 : decode cX5_init 104 = .ok (.newarray .int, 2) := by decide +kernel
theorem dX5_init_106 : decode cX5_init 106 = .ok (.putfield 47, 3) := by decide +kernel
theorem dX5_init_109 : decode cX5_init 109 = .ok (.aload_n 0, 1) := by decide +kernel
theorem dX5_init_110 : decode cX5_init 110 = .ok (.bipush 30, 2) := by decide +kernel
theorem dX5_init_112 : decode cX5_init 112 = .ok (.newarray .int, 2) := by decide +kernel
theorem dX5_init_114 : decode cX5_init 114 = .ok (.putfield 50, 3) := by decide +kernel
theorem dX5_init_117 : decode cX5_init 117 = .ok (.aload_n 0, 1) := by decide +kernel
theorem dX5_init_118 : decode cX5_init 118 = .ok (.bipush 30, 2) := by decide +kernel
theorem dX5_init_120 : decode cX5_init 120 = .ok (.newarray .int, 2) := by decide +kernel
theorem dX5_init_122 : decode cX5_init 122 = .ok (.putfield 53, 3) := by decide +kernel
theorem dX5_init_125 : decode cX5_init 125 = .ok (.aload_n 0, 1) := by decide +kernel
theorem dX5_init_126 : decode cX5_init 126 = .ok (.sipush 400, 3) := by decide +kernel
theorem dX5_init_129 : decode cX5_init 129 = .ok (.newarray .int, 2) := by decide +kernel
theorem dX5_init_131 : decode cX5_init 131 = .ok (.putfield 56, 3) := by decide +kernel
theorem dX5_init_134 : decode cX5_init 134 = .ok (.iconst 0, 1) := by decide +kernel
theorem dX5_init_135 : decode cX5_init 135 = .ok (.istore_n 1, 1) := by decide +kernel
theorem dX5_init_136 : decode cX5_init 136 = .ok (.iload_n 1, 1) := by decide +kernel
theorem dX5_init_137 : decode cX5_init 137 = .ok (.iconst 5, 1) := by decide +kernel
theorem dX5_init_138 : decode cX5_init 138 = .ok (.if_icmp .ge 16, 3) := by decide +kernel
theorem dX5_init_141 : decode cX5_init 141 = .ok (.aload_n 0, 1) := by decide +kernel
theorem dX5_init_142 : decode cX5_init 142 = .ok (.getfield 7, 3) := by decide +kernel
theorem dX5_init_145 : decode cX5_init 145 = .ok (.iload_n 1, 1) := by decide +kernel
theorem dX5_init_146 : decode cX5_init 146 = .ok (.iconst 1, 1) := by decide +kernel
theorem dX5_init_147 : decode cX5_init 147 = .ok (.bastore, 1) := by decide +kernel
theorem dX5_init_148 : decode cX5_init 148 = .ok (.iinc 1 1, 3) := by decide +kernel
theorem dX5_init_151 : decode cX5_init 151 = .ok (.goto (-15), 3) := by decide +kernel
theorem dX5_init_154 : decode cX5_init 154 = .ok (.aload_n 0, 1) := by decide +kernel
theorem dX5_init_155 : decode cX5_init 155 = .ok (.iconst 1, 1) := by decide +kernel
theorem dX5_init_156 : decode cX5_init 156 = .ok (.iconst 3, 1) := by decide +kernel
theorem dX5_init_157 : decode cX5_init 157 = .ok (.iconst 5, 1) := by decide +kernel
theorem dX5_init_158 : decode cX5_init 158 = .ok (.bipush 7, 2) := by decide +kernel
theorem dX5_init_160 : decode cX5_init 160 = .ok (.invokevirtual 59, 3) := by decide +kernel
theorem dX5_init_163 : decode cX5_init 163 = .ok (.aload_n 0, 1) := by decide +kernel
theorem dX5_init_164 : decode cX5_init 164 = .ok (.iconst 2, 1) := by decide +kernel
theorem dX5_init_165 : decode cX5_init 165 = .ok (.bipush 7, 2) := by decide +kernel
theorem dX5_init_167 : decode cX5_init 167 = .ok (.bipush 7, 2) := by decide +kernel
theorem dX5_init_169 : decode cX5_init 169 = .ok (.iconst 0, 1) := by decide +kernel
theorem dX5_init_170 : decode cX5_init 170 = .ok (.invokevirtual 59, 3) := by decide +kernel
theorem dX5_init_173 : decode cX5_init 173 = .ok (.aload_n 0, 1) := by decide +kernel
theorem dX5_init_174 : decode cX5_init 174 = .ok (.iconst 4, 1) := by decide +kernel
theorem dX5_init_175 : decode cX5_init 175 = .ok (.iconst 1, 1) := by decide +kernel
theorem dX5_init_176 : decode cX5_init 176 = .ok (.iconst 1, 1) := by decide +kernel
theorem dX5_init_177 : decode cX5_init 177 = .ok (.iconst 1, 1) := by decide +kernel
theorem dX5_init_178 : decode cX5_init 178 = .ok (.invokevirtual 59, 3) := by decide +kernel
theorem dX5_init_181 : decode cX5_init 181 = .ok (.aload_n 0, 1) := by decide +kernel
theorem dX5_init_182 : decode cX5_init 182 = .ok (.getfield 17, 3) := by decide +kernel
theorem dX5_init_185 : decode cX5_init 185 = .ok (.bipush 27, 2) := by decide +kernel
theorem dX5_init_187 : decode cX5_init 187 = .ok (.iconst 1, 1) := by decide +kernel
theorem dX5_init_188 : decode cX5_init 188 = .ok (.iastore, 1) := by decide +kernel
theorem dX5_init_189 : decode cX5_init 189 = .ok (.aload_n 0, 1) := by decide +kernel
theorem dX5_init_190 : decode cX5_init 190 = .ok (.getfield 20, 3) := by decide +kernel
theorem dX5_init_193 : decode cX5_init 193 = .ok (.iconst 4, 1) := by decide +kernel
theorem dX5_init_194 : decode cX5_init 194 = .ok (.iconst 4, 1) := by decide +kernel
theorem dX5_init_195 : decode cX5_init 195 = .ok (.iastore, 1) := by decide +kernel
theorem dX5_init_196 : decode cX5_init 196 = .ok (.aload_n 0, 1) := by decide +kernel
theorem dX5_init_197 : decode cX5_init 197 = .ok (.bipush 10, 2) := by decide +kernel
theorem dX5_init_199 : decode cX5_init 199 = .ok (.putfield 63, 3) := by decide +kernel
theorem dX5_init_202 : decode cX5_init 202 = .ok (.aload_n 0, 1) := by decide +kernel
theorem dX5_init_203 : decode cX5_init 203 = .ok (.bipush 30, 2) := by decide +kernel
theorem dX5_init_205 : decode cX5_init 205 = .ok (.putfield 67, 3) := by decide +kernel
theorem dX5_init_208 : decode cX5_init 208 = .ok (.return_, 1) := by decide +kernel
theorem dX5_addGaps_0 : decode cX5_addGaps 0 = .ok (.aload_n 0, 1) := by decide +kernel
theorem dX5_addGaps_1 : decode cX5_addGaps 1 = .ok (.getfield 17, 3) := by decide +kernel
theorem dX5_addGaps_4 : decode cX5_addGaps 4 = .ok (.bipush 6, 2) := by decide +kernel
theorem dX5_addGaps_6 : decode cX5_addGaps 6 = .ok (.iload_n 1, 1) := by decide +kernel
theorem dX5_addGaps_7 : decode cX5_addGaps 7 = .ok (.imul, 1) := by decide +kernel
theorem dX5_addGaps_8 : decode cX5_addGaps 8 = .ok (.iload_n 2, 1) := by decide +kernel
theorem dX5_addGaps_9 : decode cX5_addGaps 9 = .ok (.iastore, 1) := by decide +kernel
theorem dX5_addGaps_10 : decode cX5_addGaps 10 = .ok (.aload_n 0, 1) := by decide +kernel
theorem dX5_addGaps_11 : decode cX5_addGaps 11 = .ok (.getfield 17, 3) := by decide +kernel
theorem dX5_addGaps_14 : decode cX5_addGaps 14 = .ok (.bipush 6, 2) := by decide +kernel
theorem dX5_addGaps_16 : decode cX5_addGaps 16 = .ok (.iload_n 1, 1) := by decide +kernel
theorem dX5_addGaps_17 : decode cX5_addGaps 17 = .ok (.imul, 1) := by decide +kernel
theorem dX5_addGaps_18 : decode cX5_addGaps 18 = .ok (.iconst 1, 1) := by decide +kernel
theorem dX5_addGaps_19 : decode cX5_addGaps 19 = .ok (.iadd, 1) := by decide +kernel
theorem dX5_addGaps_20 : decode cX5_addGaps 20 = .ok (.iload_n 3, 1) := by decide +kernel
theorem dX5_addGaps_21 : decode cX5_addGaps 21 = .ok (.iastore, 1) := by decide +kernel
theorem dX5_addGaps_22 : decode cX5_addGaps 22 = .ok (.aload_n 0, 1) := by decide +kernel
theorem dX5_addGaps_23 : decode cX5_addGaps 23 = .ok (.getfield 17, 3) := by decide +kernel
theorem dX5_addGaps_26 : decode cX5_addGaps 26 = .ok (.bipush 6, 2) := by decide +kernel
theorem dX5_addGaps_28 : decode cX5_addGaps 28 = .ok (.iload_n 1, 1) := by decide +kernel
theorem dX5_addGaps_29 : decode cX5_addGaps 29 = .ok (.imul, 1) := by decide +kernel
theorem dX5_addGaps_30 : decode cX5_addGaps 30 = .ok (.iconst 2, 1) := by decide +kernel
theorem dX5_addGaps_31 : decode cX5_addGaps 31 = .ok (.iadd, 1) := by decide +kernel
theorem dX5_addGaps_32 : decode cX5_addGaps 32 = .ok (.iload 4, 2) := by decide +kernel
theorem dX5_addGaps_34 : decode cX5_addGaps 34 = .ok (.iastore, 1) := by decide +kernel
theorem dX5_addGaps_35 : decode cX5_addGaps 35 = .ok (.aload_n 0, 1) := by decide +kernel
theorem dX5_addGaps_36 : decode cX5_addGaps 36 = .ok (.getfield 20, 3) := by decide +kernel
theorem dX5_addGaps_39 : decode cX5_addGaps 39 = .ok (.iload_n 1, 1) := by decide +kernel
theorem dX5_addGaps_40 : decode cX5_addGaps 40 = .ok (.iload 4, 2) := by decide +kernel
theorem dX5_addGaps_42 : decode cX5_addGaps 42 = .ok (.ifCond .le 7, 3) := by decide +kernel
theorem dX5_addGaps_45 : decode cX5_addGaps 45 = .ok (.iconst 3, 1) := by decide +kernel
theorem dX5_addGaps_46 : decode cX5_addGaps 46 = .ok (.goto 4, 3) := by decide +kernel
theorem dX5_addGaps_49 : decode cX5_addGaps 49 = .ok (.iconst 2, 1) := by decide +kernel
theorem dX5_addGaps_50 : decode cX5_addGaps 50 = .ok (.iastore, 1) := by decide +kernel
theorem dX5_addGaps_51 : decode cX5_addGaps 51 = .ok (.return_, 1) := by decide +kernel
theorem dX5_thrown_0 : decode cX5_thrown 0 = .ok (.aload_n 0, 1) := by decide +kernel
theorem dX5_thrown_1 : decode cX5_thrown 1 = .ok (.getfield 70, 3) := by decide +kernel
theorem dX5_thrown_4 : decode cX5_thrown 4 = .ok (.ireturn, 1) := by decide +kernel
theorem dX5_in_0 : decode cX5_in 0 = .ok (.iload_n 0, 1) := by decide +kernel
theorem dX5_in_1 : decode cX5_in 1 = .ok (.iload_n 1, 1) := by decide +kernel
theorem dX5_in_2 : decode cX5_in 2 = .ok (.if_icmp .lt 12, 3) := by decide +kernel
theorem dX5_in_5 : decode cX5_in 5 = .ok (.iload_n 0, 1) := by decide +kernel
theorem dX5_in_6 : decode cX5_in 6 = .ok (.iload_n 2, 1) := by decide +kernel
theorem dX5_in_7 : decode cX5_in 7 = .ok (.if_icmp .gt 7, 3) := by decide +kernel
theorem dX5_in_10 : decode cX5_in 10 = .ok (.iconst 1, 1) := by decide +kernel
theorem dX5_in_11 : decode cX5_in 11 = .ok (.goto 4, 3) := by decide +kernel
theorem dX5_in_14 : decode cX5_in 14 = .ok (.iconst 0, 1) := by decide +kernel
theorem dX5_in_15 : decode cX5_in 15 = .ok (.ireturn, 1) := by decide +kernel
theorem dX5_isHoliday_0 : decode cX5_isHoliday 0 = .ok (.iconst 0, 1) := by decide +kernel
theorem dX5_isHoliday_1 : decode cX5_isHoliday 1 = .ok (.istore_n 2, 1) := by decide +kernel
theorem dX5_isHoliday_2 : decode cX5_isHoliday 2 = .ok (.iconst 0, 1) := by decide +kernel
theorem dX5_isHoliday_3 : decode cX5_isHoliday 3 = .ok (.istore_n 3, 1) := by decide +kernel
theorem dX5_isHoliday_4 : decode cX5_isHoliday 4 = .ok (.iload_n 3, 1) := by decide +kernel
theorem dX5_isHoliday_5 : decode cX5_isHoliday 5 = .ok (.aload_n 0, 1) := by decide +kernel
theorem dX5_isHoliday_6 : decode cX5_isHoliday 6 = .ok (.getfield 73, 3) := by decide +kernel
theorem dX5_isHoliday_9 : decode cX5_isHoliday 9 = .ok (.if_icmp .ge 29, 3) := by decide +kernel
theorem dX5_isHoliday_12 : decode cX5_isHoliday 12 = .ok (.iload_n 2, 1) := by decide +kernel
theorem dX5_isHoliday_13 : decode cX5_isHoliday 13 = .ok (.ifCond .ne 13, 3) := by decide +kernel
theorem dX5_isHoliday_16 : decode cX5_isHoliday 16 = .ok (.aload_n 0, 1) := by decide +kernel
theorem dX5_isHoliday_17 : decode cX5_isHoliday 17 = .ok (.getfield 13, 3) := by decide +kernel
theorem dX5_isHoliday_20 : decode cX5_isHoliday 20 = .ok (.iload_n 3, 1) := by decide +kernel
theorem dX5_isHoliday_21 : decode cX5_isHoliday 21 = .ok (.iaload, 1) := by decide +kernel
theorem dX5_isHoliday_22 : decode cX5_isHoliday 22 = .ok (.iload_n 1, 1) := by decide +kernel
theorem dX5_isHoliday_23 : decode cX5_isHoliday 23 = .ok (.if_icmp .ne 7, 3) := by decide +kernel
theorem dX5_isHoliday_26 : decode cX5_isHoliday 26 = .ok (.iconst 1, 1) := by decide +kernel
theorem dX5_isHoliday_27 : decode cX5_isHoliday 27 = .ok (.goto 4, 3) := by decide +kernel
theorem dX5_isHoliday_30 : decode cX5_isHoliday 30 = .ok (.iconst 0, 1) := by decide +kernel
theorem dX5_isHoliday_31 : decode cX5_isHoliday 31 = .ok (.istore_n 2, 1) := by decide +kernel
theorem dX5_isHoliday_32 : decode cX5_isHoliday 32 = .ok (.iinc 3 1, 3) := by decide +kernel
theorem dX5_isHoliday_35 : decode cX5_isHoliday 35 = .ok (.goto (-31), 3) := by decide +kernel
theorem dX5_isHoliday_38 : decode cX5_isHoliday 38 = .ok (.iload_n 2, 1) := by decide +kernel
theorem dX5_isHoliday_39 : decode cX5_isHoliday 39 = .ok (.ireturn, 1) := by decide +kernel
theorem dX5_charges_0 : decode cX5_charges 0 = .ok (.aload_n 0, 1) := by decide +kernel
theorem dX5_charges_1 : decode cX5_charges 1 = .ok (.getfield 7, 3) := by decide +kernel
theorem dX5_charges_4 : decode cX5_charges 4 = .ok (.iload_n 1, 1) := by decide +kernel
theorem dX5_charges_5 : decode cX5_charges 5 = .ok (.bipush 7, 2) := by decide +kernel
theorem dX5_charges_7 : decode cX5_charges 7 = .ok (.irem, 1) := by decide +kernel
theorem dX5_charges_8 : decode cX5_charges 8 = .ok (.baload, 1) := by decide +kernel
theorem dX5_charges_9 : decode cX5_charges 9 = .ok (.ifCond .eq 15, 3) := by decide +kernel
theorem dX5_charges_12 : decode cX5_charges 12 = .ok (.aload_n 0, 1) := by decide +kernel
theorem dX5_charges_13 : decode cX5_charges 13 = .ok (.iload_n 1, 1) := by decide +kernel
theorem dX5_charges_14 : decode cX5_charges 14 = .ok (.invokevirtual 76, 3) := by decide +kernel
theorem dX5_charges_17 : decode cX5_charges 17 = .ok (.ifCond .ne 7, 3) := by decide +kernel
theorem dX5_charges_20 : decode cX5_charges 20 = .ok (.iconst 1, 1) := by decide +kernel
theorem dX5_charges_21 : decode cX5_charges 21 = .ok (.goto 4, 3) := by decide +kernel
theorem dX5_charges_24 : decode cX5_charges 24 = .ok (.iconst 0, 1) := by decide +kernel
theorem dX5_charges_25 : decode cX5_charges 25 = .ok (.ireturn, 1) := by decide +kernel
theorem dX5_chargingFrom_0 : decode cX5_chargingFrom 0 = .ok (.iload_n 1, 1) := by decide +kernel
theorem dX5_chargingFrom_1 : decode cX5_chargingFrom 1 = .ok (.istore_n 2, 1) := by decide +kernel
theorem dX5_chargingFrom_2 : decode cX5_chargingFrom 2 = .ok (.aload_n 0, 1) := by decide +kernel
theorem dX5_chargingFrom_3 : decode cX5_chargingFrom 3 = .ok (.iload_n 2, 1) := by decide +kernel
theorem dX5_chargingFrom_4 : decode cX5_chargingFrom 4 = .ok (.invokevirtual 80, 3) := by decide +kernel
theorem dX5_chargingFrom_7 : decode cX5_chargingFrom 7 = .ok (.ifCond .ne 9, 3) := by decide +kernel
theorem dX5_chargingFrom_10 : decode cX5_chargingFrom 10 = .ok (.iinc 2 1, 3) := by decide +kernel
theorem dX5_chargingFrom_13 : decode cX5_chargingFrom 13 = .ok (.goto (-11), 3) := by decide +kernel
theorem dX5_chargingFrom_16 : decode cX5_chargingFrom 16 = .ok (.iload_n 2, 1) := by decide +kernel
theorem dX5_chargingFrom_17 : decode cX5_chargingFrom 17 = .ok (.ireturn, 1) := by decide +kernel
theorem dX5_setWeekday_0 : decode cX5_setWeekday 0 = .ok (.aload_n 0, 1) := by decide +kernel
theorem dX5_setWeekday_1 : decode cX5_setWeekday 1 = .ok (.iload_n 1, 1) := by decide +kernel
theorem dX5_setWeekday_2 : decode cX5_setWeekday 2 = .ok (.iconst 0, 1) := by decide +kernel
theorem dX5_setWeekday_3 : decode cX5_setWeekday 3 = .ok (.bipush 6, 2) := by decide +kernel
theorem dX5_setWeekday_5 : decode cX5_setWeekday 5 = .ok (.invokestatic 83, 3) := by decide +kernel
theorem dX5_setWeekday_8 : decode cX5_setWeekday 8 = .ok (.ifCond .eq 7, 3) := by decide +kernel
theorem dX5_setWeekday_11 : decode cX5_setWeekday 11 = .ok (.iconst 0, 1) := by decide +kernel
theorem dX5_setWeekday_12 : decode cX5_setWeekday 12 = .ok (.goto 4, 3) := by decide +kernel
theorem dX5_setWeekday_15 : decode cX5_setWeekday 15 = .ok (.iconst 1, 1) := by decide +kernel
theorem dX5_setWeekday_16 : decode cX5_setWeekday 16 = .ok (.putfield 70, 3) := by decide +kernel
theorem dX5_setWeekday_19 : decode cX5_setWeekday 19 = .ok (.aload_n 0, 1) := by decide +kernel
theorem dX5_setWeekday_20 : decode cX5_setWeekday 20 = .ok (.getfield 70, 3) := by decide +kernel
theorem dX5_setWeekday_23 : decode cX5_setWeekday 23 = .ok (.ifCond .le 5, 3) := by decide +kernel
theorem dX5_setWeekday_26 : decode cX5_setWeekday 26 = .ok (.iconst 0, 1) := by decide +kernel
theorem dX5_setWeekday_27 : decode cX5_setWeekday 27 = .ok (.ireturn, 1) := by decide +kernel
theorem dX5_setWeekday_28 : decode cX5_setWeekday 28 = .ok (.iconst 0, 1) := by decide +kernel
theorem dX5_setWeekday_29 : decode cX5_setWeekday 29 = .ok (.istore_n 3, 1) := by decide +kernel
theorem dX5_setWeekday_30 : decode cX5_setWeekday 30 = .ok (.iconst 0, 1) := by decide +kernel
theorem dX5_setWeekday_31 : decode cX5_setWeekday 31 = .ok (.istore 4, 2) := by decide +kernel
theorem dX5_setWeekday_33 : decode cX5_setWeekday 33 = .ok (.iload 4, 2) := by decide +kernel
theorem dX5_setWeekday_35 : decode cX5_setWeekday 35 = .ok (.bipush 7, 2) := by decide +kernel
theorem dX5_setWeekday_37 : decode cX5_setWeekday 37 = .ok (.if_icmp .ge 40, 3) := by decide +kernel
theorem dX5_setWeekday_40 : decode cX5_setWeekday 40 = .ok (.iload_n 3, 1) := by decide +kernel
theorem dX5_setWeekday_41 : decode cX5_setWeekday 41 = .ok (.iload 4, 2) := by decide +kernel
theorem dX5_setWeekday_43 : decode cX5_setWeekday 43 = .ok (.iload_n 1, 1) := by decide +kernel
theorem dX5_setWeekday_44 : decode cX5_setWeekday 44 = .ok (.if_icmp .ne 10, 3) := by decide +kernel
theorem dX5_setWeekday_47 : decode cX5_setWeekday 47 = .ok (.iload_n 2, 1) := by decide +kernel
theorem dX5_setWeekday_48 : decode cX5_setWeekday 48 = .ok (.ifCond .eq 20, 3) := by decide +kernel
theorem dX5_setWeekday_51 : decode cX5_setWeekday 51 = .ok (.goto 13, 3) := by decide +kernel
theorem dX5_setWeekday_54 : decode cX5_setWeekday 54 = .ok (.aload_n 0, 1) := by decide +kernel
theorem dX5_setWeekday_55 : decode cX5_setWeekday 55 = .ok (.getfield 7, 3) := by decide +kernel
theorem dX5_setWeekday_58 : decode cX5_setWeekday 58 = .ok (.iload 4, 2) := by decide +kernel
theorem dX5_setWeekday_60 : decode cX5_setWeekday 60 = .ok (.baload, 1) := by decide +kernel
theorem dX5_setWeekday_61 : decode cX5_setWeekday 61 = .ok (.ifCond .eq 7, 3) := by decide +kernel
theorem dX5_setWeekday_64 : decode cX5_setWeekday 64 = .ok (.iconst 1, 1) := by decide +kernel
theorem dX5_setWeekday_65 : decode cX5_setWeekday 65 = .ok (.goto 4, 3) := by decide +kernel
theorem dX5_setWeekday_68 : decode cX5_setWeekday 68 = .ok (.iconst 0, 1) := by decide +kernel
theorem dX5_setWeekday_69 : decode cX5_setWeekday 69 = .ok (.iadd, 1) := by decide +kernel
theorem dX5_setWeekday_70 : decode cX5_setWeekday 70 = .ok (.istore_n 3, 1) := by decide +kernel
theorem dX5_setWeekday_71 : decode cX5_setWeekday 71 = .ok (.iinc 4 1, 3) := by decide +kernel
theorem dX5_setWeekday_74 : decode cX5_setWeekday 74 = .ok (.goto (-41), 3) := by decide +kernel
theorem dX5_setWeekday_77 : decode cX5_setWeekday 77 = .ok (.aload_n 0, 1) := by decide +kernel
theorem dX5_setWeekday_78 : decode cX5_setWeekday 78 = .ok (.iload_n 3, 1) := by decide +kernel
theorem dX5_setWeekday_79 : decode cX5_setWeekday 79 = .ok (.ifCond .ne 7, 3) := by decide +kernel
theorem dX5_setWeekday_82 : decode cX5_setWeekday 82 = .ok (.iconst 2, 1) := by decide +kernel
theorem dX5_setWeekday_83 : decode cX5_setWeekday 83 = .ok (.goto 4, 3) := by decide +kernel
theorem dX5_setWeekday_86 : decode cX5_setWeekday 86 = .ok (.iconst 0, 1) := by decide +kernel
theorem dX5_setWeekday_87 : decode cX5_setWeekday 87 = .ok (.putfield 70, 3) := by decide +kernel
theorem dX5_setWeekday_90 : decode cX5_setWeekday 90 = .ok (.aload_n 0, 1) := by decide +kernel
theorem dX5_setWeekday_91 : decode cX5_setWeekday 91 = .ok (.getfield 70, 3) := by decide +kernel
theorem dX5_setWeekday_94 : decode cX5_setWeekday 94 = .ok (.ifCond .le 5, 3) := by decide +kernel
theorem dX5_setWeekday_97 : decode cX5_setWeekday 97 = .ok (.iconst 0, 1) := by decide +kernel
theorem dX5_setWeekday_98 : decode cX5_setWeekday 98 = .ok (.ireturn, 1) := by decide +kernel
theorem dX5_setWeekday_99 : decode cX5_setWeekday 99 = .ok (.aload_n 0, 1) := by decide +kernel
theorem dX5_setWeekday_100 : decode cX5_setWeekday 100 = .ok (.getfield 7, 3) := by decide +kernel
theorem dX5_setWeekday_103 : decode cX5_setWeekday 103 = .ok (.iload_n 1, 1) := by decide +kernel
theorem dX5_setWeekday_104 : decode cX5_setWeekday 104 = .ok (.iload_n 2, 1) := by decide +kernel
theorem dX5_setWeekday_105 : decode cX5_setWeekday 105 = .ok (.bastore, 1) := by decide +kernel
theorem dX5_setWeekday_106 : decode cX5_setWeekday 106 = .ok (.iload_n 3, 1) := by decide +kernel
theorem dX5_setWeekday_107 : decode cX5_setWeekday 107 = .ok (.ireturn, 1) := by decide +kernel
theorem dX5_addHoliday_0 : decode cX5_addHoliday 0 = .ok (.aload_n 0, 1) := by decide +kernel
theorem dX5_addHoliday_1 : decode cX5_addHoliday 1 = .ok (.iload_n 1, 1) := by decide +kernel
theorem dX5_addHoliday_2 : decode cX5_addHoliday 2 = .ok (.aload_n 0, 1) := by decide +kernel
theorem dX5_addHoliday_3 : decode cX5_addHoliday 3 = .ok (.getfield 87, 3) := by decide +kernel
theorem dX5_addHoliday_6 : decode cX5_addHoliday 6 = .ok (.iconst 1, 1) := by decide +kernel
theorem dX5_addHoliday_7 : decode cX5_addHoliday 7 = .ok (.iadd, 1) := by decide +kernel
theorem dX5_addHoliday_8 : decode cX5_addHoliday 8 = .ok (.aload_n 0, 1) := by decide +kernel
theorem dX5_addHoliday_9 : decode cX5_addHoliday 9 = .ok (.getfield 87, 3) := by decide +kernel
theorem dX5_addHoliday_12 : decode cX5_addHoliday 12 = .ok (.bipush 60, 2) := by decide +kernel
theorem dX5_addHoliday_14 : decode cX5_addHoliday 14 = .ok (.iadd, 1) := by decide +kernel
theorem dX5_addHoliday_15 : decode cX5_addHoliday 15 = .ok (.invokestatic 83, 3) := by decide +kernel
theorem dX5_addHoliday_18 : decode cX5_addHoliday 18 = .ok (.ifCond .eq 7, 3) := by decide +kernel
theorem dX5_addHoliday_21 : decode cX5_addHoliday 21 = .ok (.iconst 0, 1) := by decide +kernel
theorem dX5_addHoliday_22 : decode cX5_addHoliday 22 = .ok (.goto 4, 3) := by decide +kernel
theorem dX5_addHoliday_25 : decode cX5_addHoliday 25 = .ok (.iconst 1, 1) := by decide +kernel
theorem dX5_addHoliday_26 : decode cX5_addHoliday 26 = .ok (.putfield 70, 3) := by decide +kernel
theorem dX5_addHoliday_29 : decode cX5_addHoliday 29 = .ok (.aload_n 0, 1) := by decide +kernel
theorem dX5_addHoliday_30 : decode cX5_addHoliday 30 = .ok (.getfield 70, 3) := by decide +kernel
theorem dX5_addHoliday_33 : decode cX5_addHoliday 33 = .ok (.ifCond .gt 11, 3) := by decide +kernel
theorem dX5_addHoliday_36 : decode cX5_addHoliday 36 = .ok (.aload_n 0, 1) := by decide +kernel
theorem dX5_addHoliday_37 : decode cX5_addHoliday 37 = .ok (.iload_n 1, 1) := by decide +kernel
theorem dX5_addHoliday_38 : decode cX5_addHoliday 38 = .ok (.invokevirtual 76, 3) := by decide +kernel
theorem dX5_addHoliday_41 : decode cX5_addHoliday 41 = .ok (.ifCond .eq 5, 3) := by decide +kernel
theorem dX5_addHoliday_44 : decode cX5_addHoliday 44 = .ok (.iconst 0, 1) := by decide +kernel
theorem dX5_addHoliday_45 : decode cX5_addHoliday 45 = .ok (.ireturn, 1) := by decide +kernel
theorem dX5_addHoliday_46 : decode cX5_addHoliday 46 = .ok (.aload_n 0, 1) := by decide +kernel
theorem dX5_addHoliday_47 : decode cX5_addHoliday 47 = .ok (.getfield 13, 3) := by decide +kernel
theorem dX5_addHoliday_50 : decode cX5_addHoliday 50 = .ok (.aload_n 0, 1) := by decide +kernel
theorem dX5_addHoliday_51 : decode cX5_addHoliday 51 = .ok (.getfield 73, 3) := by decide +kernel
theorem dX5_addHoliday_54 : decode cX5_addHoliday 54 = .ok (.iload_n 1, 1) := by decide +kernel
theorem dX5_addHoliday_55 : decode cX5_addHoliday 55 = .ok (.iastore, 1) := by decide +kernel
theorem dX5_addHoliday_56 : decode cX5_addHoliday 56 = .ok (.aload_n 0, 1) := by decide +kernel
theorem dX5_addHoliday_57 : decode cX5_addHoliday 57 = .ok (.dup, 1) := by decide +kernel
theorem dX5_addHoliday_58 : decode cX5_addHoliday 58 = .ok (.getfield 73, 3) := by decide +kernel
theorem dX5_addHoliday_61 : decode cX5_addHoliday 61 = .ok (.iconst 1, 1) := by decide +kernel
theorem dX5_addHoliday_62 : decode cX5_addHoliday 62 = .ok (.iadd, 1) := by decide +kernel
theorem dX5_addHoliday_63 : decode cX5_addHoliday 63 = .ok (.putfield 73, 3) := by decide +kernel
theorem dX5_addHoliday_66 : decode cX5_addHoliday 66 = .ok (.iconst 1, 1) := by decide +kernel
theorem dX5_addHoliday_67 : decode cX5_addHoliday 67 = .ok (.ireturn, 1) := by decide +kernel
theorem dX5_addGap_0 : decode cX5_addGap 0 = .ok (.aload_n 0, 1) := by decide +kernel
theorem dX5_addGap_1 : decode cX5_addGap 1 = .ok (.iload_n 1, 1) := by decide +kernel
theorem dX5_addGap_2 : decode cX5_addGap 2 = .ok (.iconst 1, 1) := by decide +kernel
theorem dX5_addGap_3 : decode cX5_addGap 3 = .ok (.iconst 4, 1) := by decide +kernel
theorem dX5_addGap_4 : decode cX5_addGap 4 = .ok (.invokestatic 83, 3) := by decide +kernel
theorem dX5_addGap_7 : decode cX5_addGap 7 = .ok (.ifCond .ne 7, 3) := by decide +kernel
theorem dX5_addGap_10 : decode cX5_addGap 10 = .ok (.iconst 1, 1) := by decide +kernel
theorem dX5_addGap_11 : decode cX5_addGap 11 = .ok (.goto 33, 3) := by decide +kernel
theorem dX5_addGap_14 : decode cX5_addGap 14 = .ok (.iload_n 2, 1) := by decide +kernel
theorem dX5_addGap_15 : decode cX5_addGap 15 = .ok (.iconst 1, 1) := by decide +kernel
theorem dX5_addGap_16 : decode cX5_addGap 16 = .ok (.bipush 30, 2) := by decide +kernel
theorem dX5_addGap_18 : decode cX5_addGap 18 = .ok (.invokestatic 83, 3) := by decide +kernel
theorem dX5_addGap_21 : decode cX5_addGap 21 = .ok (.ifCond .ne 7, 3) := by decide +kernel
theorem dX5_addGap_24 : decode cX5_addGap 24 = .ok (.iconst 2, 1) := by decide +kernel
theorem dX5_addGap_25 : decode cX5_addGap 25 = .ok (.goto 19, 3) := by decide +kernel
theorem dX5_addGap_28 : decode cX5_addGap 28 = .ok (.aload_n 0, 1) := by decide +kernel
theorem dX5_addGap_29 : decode cX5_addGap 29 = .ok (.getfield 20, 3) := by decide +kernel
theorem dX5_addGap_32 : decode cX5_addGap 32 = .ok (.iload_n 1, 1) := by decide +kernel
theorem dX5_addGap_33 : decode cX5_addGap 33 = .ok (.iaload, 1) := by decide +kernel
theorem dX5_addGap_34 : decode cX5_addGap 34 = .ok (.bipush 6, 2) := by decide +kernel
theorem dX5_addGap_36 : decode cX5_addGap 36 = .ok (.if_icmp .ne 7, 3) := by decide +kernel
theorem dX5_addGap_39 : decode cX5_addGap 39 = .ok (.iconst 3, 1) := by decide +kernel
theorem dX5_addGap_40 : decode cX5_addGap 40 = .ok (.goto 4, 3) := by decide +kernel
theorem dX5_addGap_43 : decode cX5_addGap 43 = .ok (.iconst 0, 1) := by decide +kernel
theorem dX5_addGap_44 : decode cX5_addGap 44 = .ok (.putfield 70, 3) := by decide +kernel
theorem dX5_addGap_47 : decode cX5_addGap 47 = .ok (.aload_n 0, 1) := by decide +kernel
theorem dX5_addGap_48 : decode cX5_addGap 48 = .ok (.getfield 70, 3) := by decide +kernel
theorem dX5_addGap_51 : decode cX5_addGap 51 = .ok (.ifCond .le 5, 3) := by decide +kernel
theorem dX5_addGap_54 : decode cX5_addGap 54 = .ok (.iconst 0, 1) := by decide +kernel
theorem dX5_addGap_55 : decode cX5_addGap 55 = .ok (.ireturn, 1) := by decide +kernel
theorem dX5_addGap_56 : decode cX5_addGap 56 = .ok (.aload_n 0, 1) := by decide +kernel
theorem dX5_addGap_57 : decode cX5_addGap 57 = .ok (.getfield 17, 3) := by decide +kernel
theorem dX5_addGap_60 : decode cX5_addGap 60 = .ok (.bipush 6, 2) := by decide +kernel
theorem dX5_addGap_62 : decode cX5_addGap 62 = .ok (.iload_n 1, 1) := by decide +kernel
theorem dX5_addGap_63 : decode cX5_addGap 63 = .ok (.imul, 1) := by decide +kernel
theorem dX5_addGap_64 : decode cX5_addGap 64 = .ok (.aload_n 0, 1) := by decide +kernel
theorem dX5_addGap_65 : decode cX5_addGap 65 = .ok (.getfield 20, 3) := by decide +kernel
theorem dX5_addGap_68 : decode cX5_addGap 68 = .ok (.iload_n 1, 1) := by decide +kernel
theorem dX5_addGap_69 : decode cX5_addGap 69 = .ok (.iaload, 1) := by decide +kernel
theorem dX5_addGap_70 : decode cX5_addGap 70 = .ok (.iadd, 1) := by decide +kernel
theorem dX5_addGap_71 : decode cX5_addGap 71 = .ok (.iload_n 2, 1) := by decide +kernel
theorem dX5_addGap_72 : decode cX5_addGap 72 = .ok (.iastore, 1) := by decide +kernel
theorem dX5_addGap_73 : decode cX5_addGap 73 = .ok (.aload_n 0, 1) := by decide +kernel
theorem dX5_addGap_74 : decode cX5_addGap 74 = .ok (.getfield 20, 3) := by decide +kernel
theorem dX5_addGap_77 : decode cX5_addGap 77 = .ok (.iload_n 1, 1) := by decide +kernel
theorem dX5_addGap_78 : decode cX5_addGap 78 = .ok (.dup2, 1) := by decide +kernel
theorem dX5_addGap_79 : decode cX5_addGap 79 = .ok (.iaload, 1) := by decide +kernel
theorem dX5_addGap_80 : decode cX5_addGap 80 = .ok (.iconst 1, 1) := by decide +kernel
theorem dX5_addGap_81 : decode cX5_addGap 81 = .ok (.iadd, 1) := by decide +kernel
theorem dX5_addGap_82 : decode cX5_addGap 82 = .ok (.iastore, 1) := by decide +kernel
theorem dX5_addGap_83 : decode cX5_addGap 83 = .ok (.aload_n 0, 1) := by decide +kernel
theorem dX5_addGap_84 : decode cX5_addGap 84 = .ok (.getfield 20, 3) := by decide +kernel
theorem dX5_addGap_87 : decode cX5_addGap 87 = .ok (.iload_n 1, 1) := by decide +kernel
theorem dX5_addGap_88 : decode cX5_addGap 88 = .ok (.iaload, 1) := by decide +kernel
theorem dX5_addGap_89 : decode cX5_addGap 89 = .ok (.ireturn, 1) := by decide +kernel
theorem dX5_clearGaps_0 : decode cX5_clearGaps 0 = .ok (.aload_n 0, 1) := by decide +kernel
theorem dX5_clearGaps_1 : decode cX5_clearGaps 1 = .ok (.iload_n 1, 1) := by decide +kernel
theorem dX5_clearGaps_2 : decode cX5_clearGaps 2 = .ok (.iconst 1, 1) := by decide +kernel
theorem dX5_clearGaps_3 : decode cX5_clearGaps 3 = .ok (.iconst 4, 1) := by decide +kernel
theorem dX5_clearGaps_4 : decode cX5_clearGaps 4 = .ok (.invokestatic 83, 3) := by decide +kernel
theorem dX5_clearGaps_7 : decode cX5_clearGaps 7 = .ok (.ifCond .eq 7, 3) := by decide +kernel
theorem dX5_clearGaps_10 : decode cX5_clearGaps 10 = .ok (.iconst 0, 1) := by decide +kernel
theorem dX5_clearGaps_11 : decode cX5_clearGaps 11 = .ok (.goto 4, 3) := by decide +kernel
theorem dX5_clearGaps_14 : decode cX5_clearGaps 14 = .ok (.iconst 1, 1) := by decide +kernel
theorem dX5_clearGaps_15 : decode cX5_clearGaps 15 = .ok (.putfield 70, 3) := by decide +kernel
theorem dX5_clearGaps_18 : decode cX5_clearGaps 18 = .ok (.aload_n 0, 1) := by decide +kernel
theorem dX5_clearGaps_19 : decode cX5_clearGaps 19 = .ok (.getfield 70, 3) := by decide +kernel
theorem dX5_clearGaps_22 : decode cX5_clearGaps 22 = .ok (.ifCond .le 5, 3) := by decide +kernel
theorem dX5_clearGaps_25 : decode cX5_clearGaps 25 = .ok (.iconst 0, 1) := by decide +kernel
theorem dX5_clearGaps_26 : decode cX5_clearGaps 26 = .ok (.ireturn, 1) := by decide +kernel
theorem dX5_clearGaps_27 : decode cX5_clearGaps 27 = .ok (.aload_n 0, 1) := by decide +kernel
theorem dX5_clearGaps_28 : decode cX5_clearGaps 28 = .ok (.getfield 20, 3) := by decide +kernel
theorem dX5_clearGaps_31 : decode cX5_clearGaps 31 = .ok (.iload_n 1, 1) := by decide +kernel
theorem dX5_clearGaps_32 : decode cX5_clearGaps 32 = .ok (.iaload, 1) := by decide +kernel
theorem dX5_clearGaps_33 : decode cX5_clearGaps 33 = .ok (.istore_n 2, 1) := by decide +kernel
theorem dX5_clearGaps_34 : decode cX5_clearGaps 34 = .ok (.aload_n 0, 1) := by decide +kernel
theorem dX5_clearGaps_35 : decode cX5_clearGaps 35 = .ok (.getfield 20, 3) := by decide +kernel
theorem dX5_clearGaps_38 : decode cX5_clearGaps 38 = .ok (.iload_n 1, 1) := by decide +kernel
theorem dX5_clearGaps_39 : decode cX5_clearGaps 39 = .ok (.iconst 0, 1) := by decide +kernel
theorem dX5_clearGaps_40 : decode cX5_clearGaps 40 = .ok (.iastore, 1) := by decide +kernel
theorem dX5_clearGaps_41 : decode cX5_clearGaps 41 = .ok (.iload_n 2, 1) := by decide +kernel
theorem dX5_clearGaps_42 : decode cX5_clearGaps 42 = .ok (.ireturn, 1) := by decide +kernel
theorem dX5_setTimes_0 : decode cX5_setTimes 0 = .ok (.aload_n 0, 1) := by decide +kernel
theorem dX5_setTimes_1 : decode cX5_setTimes 1 = .ok (.iload_n 1, 1) := by decide +kernel
theorem dX5_setTimes_2 : decode cX5_setTimes 2 = .ok (.iconst 1, 1) := by decide +kernel
theorem dX5_setTimes_3 : decode cX5_setTimes 3 = .ok (.bipush 60, 2) := by decide +kernel
theorem dX5_setTimes_5 : decode cX5_setTimes 5 = .ok (.invokestatic 83, 3) := by decide +kernel
theorem dX5_setTimes_8 : decode cX5_setTimes 8 = .ok (.ifCond .eq 17, 3) := by decide +kernel
theorem dX5_setTimes_11 : decode cX5_setTimes 11 = .ok (.iload_n 2, 1) := by decide +kernel
theorem dX5_setTimes_12 : decode cX5_setTimes 12 = .ok (.iconst 1, 1) := by decide +kernel
theorem dX5_setTimes_13 : decode cX5_setTimes 13 = .ok (.bipush 90, 2) := by decide +kernel
theorem dX5_setTimes_15 : decode cX5_setTimes 15 = .ok (.invokestatic 83, 3) := by decide +kernel
theorem dX5_setTimes_18 : decode cX5_setTimes 18 = .ok (.ifCond .eq 7, 3) := by decide +kernel
theorem dX5_setTimes_21 : decode cX5_setTimes 21 = .ok (.iconst 0, 1) := by decide +kernel
theorem dX5_setTimes_22 : decode cX5_setTimes 22 = .ok (.goto 4, 3) := by decide +kernel
theorem dX5_setTimes_25 : decode cX5_setTimes 25 = .ok (.iconst 1, 1) := by decide +kernel
theorem dX5_setTimes_26 : decode cX5_setTimes 26 = .ok (.putfield 70, 3) := by decide +kernel
theorem dX5_setTimes_29 : decode cX5_setTimes 29 = .ok (.aload_n 0, 1) := by decide +kernel
theorem dX5_setTimes_30 : decode cX5_setTimes 30 = .ok (.getfield 70, 3) := by decide +kernel
theorem dX5_setTimes_33 : decode cX5_setTimes 33 = .ok (.ifCond .le 5, 3) := by decide +kernel
theorem dX5_setTimes_36 : decode cX5_setTimes 36 = .ok (.iconst 0, 1) := by decide +kernel
theorem dX5_setTimes_37 : decode cX5_setTimes 37 = .ok (.ireturn, 1) := by decide +kernel
theorem dX5_setTimes_38 : decode cX5_setTimes 38 = .ok (.aload_n 0, 1) := by decide +kernel
theorem dX5_setTimes_39 : decode cX5_setTimes 39 = .ok (.getfield 63, 3) := by decide +kernel
theorem dX5_setTimes_42 : decode cX5_setTimes 42 = .ok (.istore_n 3, 1) := by decide +kernel
theorem dX5_setTimes_43 : decode cX5_setTimes 43 = .ok (.aload_n 0, 1) := by decide +kernel
theorem dX5_setTimes_44 : decode cX5_setTimes 44 = .ok (.iload_n 1, 1) := by decide +kernel
theorem dX5_setTimes_45 : decode cX5_setTimes 45 = .ok (.putfield 63, 3) := by decide +kernel
theorem dX5_setTimes_48 : decode cX5_setTimes 48 = .ok (.aload_n 0, 1) := by decide +kernel
theorem dX5_setTimes_49 : decode cX5_setTimes 49 = .ok (.iload_n 2, 1) := by decide +kernel
theorem dX5_setTimes_50 : decode cX5_setTimes 50 = .ok (.putfield 67, 3) := by decide +kernel
theorem dX5_setTimes_53 : decode cX5_setTimes 53 = .ok (.iload_n 3, 1) := by decide +kernel
theorem dX5_setTimes_54 : decode cX5_setTimes 54 = .ok (.ireturn, 1) := by decide +kernel
theorem dX5_enter_0 : decode cX5_enter 0 = .ok (.aload_n 0, 1) := by decide +kernel
theorem dX5_enter_1 : decode cX5_enter 1 = .ok (.getfield 32, 3) := by decide +kernel
theorem dX5_enter_4 : decode cX5_enter 4 = .ok (.iload_n 1, 1) := by decide +kernel
theorem dX5_enter_5 : decode cX5_enter 5 = .ok (.iload_n 2, 1) := by decide +kernel
theorem dX5_enter_6 : decode cX5_enter 6 = .ok (.iastore, 1) := by decide +kernel
theorem dX5_enter_7 : decode cX5_enter 7 = .ok (.aload_n 0, 1) := by decide +kernel
theorem dX5_enter_8 : decode cX5_enter 8 = .ok (.getfield 56, 3) := by decide +kernel
theorem dX5_enter_11 : decode cX5_enter 11 = .ok (.aload_n 0, 1) := by decide +kernel
theorem dX5_enter_12 : decode cX5_enter 12 = .ok (.getfield 90, 3) := by decide +kernel
theorem dX5_enter_15 : decode cX5_enter 15 = .ok (.sipush 400, 3) := by decide +kernel
theorem dX5_enter_18 : decode cX5_enter 18 = .ok (.irem, 1) := by decide +kernel
theorem dX5_enter_19 : decode cX5_enter 19 = .ok (.sipush 1000, 3) := by decide +kernel
theorem dX5_enter_22 : decode cX5_enter 22 = .ok (.aload_n 0, 1) := by decide +kernel
theorem dX5_enter_23 : decode cX5_enter 23 = .ok (.getfield 87, 3) := by decide +kernel
theorem dX5_enter_26 : decode cX5_enter 26 = .ok (.imul, 1) := by decide +kernel
theorem dX5_enter_27 : decode cX5_enter 27 = .ok (.bipush 10, 2) := by decide +kernel
theorem dX5_enter_29 : decode cX5_enter 29 = .ok (.iload_n 1, 1) := by decide +kernel
theorem dX5_enter_30 : decode cX5_enter 30 = .ok (.imul, 1) := by decide +kernel
theorem dX5_enter_31 : decode cX5_enter 31 = .ok (.iadd, 1) := by decide +kernel
theorem dX5_enter_32 : decode cX5_enter 32 = .ok (.iload_n 2, 1) := by decide +kernel
theorem dX5_enter_33 : decode cX5_enter 33 = .ok (.iadd, 1) := by decide +kernel
theorem dX5_enter_34 : decode cX5_enter 34 = .ok (.iastore, 1) := by decide +kernel
theorem dX5_enter_35 : decode cX5_enter 35 = .ok (.aload_n 0, 1) := by decide +kernel
theorem dX5_enter_36 : decode cX5_enter 36 = .ok (.dup, 1) := by decide +kernel
theorem dX5_enter_37 : decode cX5_enter 37 = .ok (.getfield 90, 3) := by decide +kernel
theorem dX5_enter_40 : decode cX5_enter 40 = .ok (.iconst 1, 1) := by decide +kernel
theorem dX5_enter_41 : decode cX5_enter 41 = .ok (.iadd, 1) := by decide +kernel
theorem dX5_enter_42 : decode cX5_enter 42 = .ok (.putfield 90, 3) := by decide +kernel
theorem dX5_enter_45 : decode cX5_enter 45 = .ok (.return_, 1) := by decide +kernel
theorem dX5_bill_0 : decode cX5_bill 0 = .ok (.aload_n 0, 1) := by decide +kernel
theorem dX5_bill_1 : decode cX5_bill 1 = .ok (.iload_n 1, 1) := by decide +kernel
theorem dX5_bill_2 : decode cX5_bill 2 = .ok (.iconst 0, 1) := by decide +kernel
theorem dX5_bill_3 : decode cX5_bill 3 = .ok (.bipush 7, 2) := by decide +kernel
theorem dX5_bill_5 : decode cX5_bill 5 = .ok (.invokestatic 83, 3) := by decide +kernel
theorem dX5_bill_8 : decode cX5_bill 8 = .ok (.ifCond .ne 7, 3) := by decide +kernel
theorem dX5_bill_11 : decode cX5_bill 11 = .ok (.iconst 1, 1) := by decide +kernel
theorem dX5_bill_12 : decode cX5_bill 12 = .ok (.goto 32, 3) := by decide +kernel
theorem dX5_bill_15 : decode cX5_bill 15 = .ok (.iload_n 2, 1) := by decide +kernel
theorem dX5_bill_16 : decode cX5_bill 16 = .ok (.iconst 1, 1) := by decide +kernel
theorem dX5_bill_17 : decode cX5_bill 17 = .ok (.sipush 9999, 3) := by decide +kernel
theorem dX5_bill_20 : decode cX5_bill 20 = .ok (.invokestatic 83, 3) := by decide +kernel
theorem dX5_bill_23 : decode cX5_bill 23 = .ok (.ifCond .ne 7, 3) := by decide +kernel
theorem dX5_bill_26 : decode cX5_bill 26 = .ok (.iconst 2, 1) := by decide +kernel
theorem dX5_bill_27 : decode cX5_bill 27 = .ok (.goto 17, 3) := by decide +kernel
theorem dX5_bill_30 : decode cX5_bill 30 = .ok (.aload_n 0, 1) := by decide +kernel
theorem dX5_bill_31 : decode cX5_bill 31 = .ok (.getfield 93, 3) := by decide +kernel
theorem dX5_bill_34 : decode cX5_bill 34 = .ok (.bipush 30, 2) := by decide +kernel
theorem dX5_bill_36 : decode cX5_bill 36 = .ok (.if_icmp .ne 7, 3) := by decide +kernel
theorem dX5_bill_39 : decode cX5_bill 39 = .ok (.iconst 3, 1) := by decide +kernel
theorem dX5_bill_40 : decode cX5_bill 40 = .ok (.goto 4, 3) := by decide +kernel
theorem dX5_bill_43 : decode cX5_bill 43 = .ok (.iconst 0, 1) := by decide +kernel
theorem dX5_bill_44 : decode cX5_bill 44 = .ok (.putfield 70, 3) := by decide +kernel
theorem dX5_bill_47 : decode cX5_bill 47 = .ok (.aload_n 0, 1) := by decide +kernel
theorem dX5_bill_48 : decode cX5_bill 48 = .ok (.getfield 70, 3) := by decide +kernel
theorem dX5_bill_51 : decode cX5_bill 51 = .ok (.ifCond .le 5, 3) := by decide +kernel
theorem dX5_bill_54 : decode cX5_bill 54 = .ok (.iconst 0, 1) := by decide +kernel
theorem dX5_bill_55 : decode cX5_bill 55 = .ok (.ireturn, 1) := by decide +kernel
theorem dX5_bill_56 : decode cX5_bill 56 = .ok (.aload_n 0, 1) := by decide +kernel
theorem dX5_bill_57 : decode cX5_bill 57 = .ok (.getfield 93, 3) := by decide +kernel
theorem dX5_bill_60 : decode cX5_bill 60 = .ok (.istore_n 3, 1) := by decide +kernel
theorem dX5_bill_61 : decode cX5_bill 61 = .ok (.aload_n 0, 1) := by decide +kernel
theorem dX5_bill_62 : decode cX5_bill 62 = .ok (.dup, 1) := by decide +kernel
theorem dX5_bill_63 : decode cX5_bill 63 = .ok (.getfield 93, 3) := by decide +kernel
theorem dX5_bill_66 : decode cX5_bill 66 = .ok (.iconst 1, 1) := by decide +kernel
theorem dX5_bill_67 : decode cX5_bill 67 = .ok (.iadd, 1) := by decide +kernel
theorem dX5_bill_68 : decode cX5_bill 68 = .ok (.putfield 93, 3) := by decide +kernel
theorem dX5_bill_71 : decode cX5_bill 71 = .ok (.aload_n 0, 1) := by decide +kernel
theorem dX5_bill_72 : decode cX5_bill 72 = .ok (.getfield 23, 3) := by decide +kernel
theorem dX5_bill_75 : decode cX5_bill 75 = .ok (.iload_n 3, 1) := by decide +kernel
theorem dX5_bill_76 : decode cX5_bill 76 = .ok (.iload_n 1, 1) := by decide +kernel
theorem dX5_bill_77 : decode cX5_bill 77 = .ok (.iastore, 1) := by decide +kernel
theorem dX5_bill_78 : decode cX5_bill 78 = .ok (.aload_n 0, 1) := by decide +kernel
theorem dX5_bill_79 : decode cX5_bill 79 = .ok (.getfield 26, 3) := by decide +kernel
theorem dX5_bill_82 : decode cX5_bill 82 = .ok (.iload_n 3, 1) := by decide +kernel
theorem dX5_bill_83 : decode cX5_bill 83 = .ok (.iload_n 2, 1) := by decide +kernel
theorem dX5_bill_84 : decode cX5_bill 84 = .ok (.iastore, 1) := by decide +kernel
theorem dX5_bill_85 : decode cX5_bill 85 = .ok (.aload_n 0, 1) := by decide +kernel
theorem dX5_bill_86 : decode cX5_bill 86 = .ok (.getfield 29, 3) := by decide +kernel
theorem dX5_bill_89 : decode cX5_bill 89 = .ok (.iload_n 3, 1) := by decide +kernel
theorem dX5_bill_90 : decode cX5_bill 90 = .ok (.iload_n 2, 1) := by decide +kernel
theorem dX5_bill_91 : decode cX5_bill 91 = .ok (.iastore, 1) := by decide +kernel
theorem dX5_bill_92 : decode cX5_bill 92 = .ok (.aload_n 0, 1) := by decide +kernel
theorem dX5_bill_93 : decode cX5_bill 93 = .ok (.getfield 35, 3) := by decide +kernel
theorem dX5_bill_96 : decode cX5_bill 96 = .ok (.iload_n 3, 1) := by decide +kernel
theorem dX5_bill_97 : decode cX5_bill 97 = .ok (.aload_n 0, 1) := by decide +kernel
theorem dX5_bill_98 : decode cX5_bill 98 = .ok (.aload_n 0, 1) := by decide +kernel
theorem dX5_bill_99 : decode cX5_bill 99 = .ok (.getfield 87, 3) := by decide +kernel
theorem dX5_bill_102 : decode cX5_bill 102 = .ok (.iconst 1, 1) := by decide +kernel
theorem dX5_bill_103 : decode cX5_bill 103 = .ok (.iadd, 1) := by decide +kernel
theorem dX5_bill_104 : decode cX5_bill 104 = .ok (.invokevirtual 96, 3) := by decide +kernel
theorem dX5_bill_107 : decode cX5_bill 107 = .ok (.iastore, 1) := by decide +kernel
theorem dX5_bill_108 : decode cX5_bill 108 = .ok (.aload_n 0, 1) := by decide +kernel
theorem dX5_bill_109 : decode cX5_bill 109 = .ok (.iload_n 3, 1) := by decide +kernel
theorem dX5_bill_110 : decode cX5_bill 110 = .ok (.iconst 0, 1) := by decide +kernel
theorem dX5_bill_111 : decode cX5_bill 111 = .ok (.invokevirtual 100, 3) := by decide +kernel
theorem dX5_bill_114 : decode cX5_bill 114 = .ok (.iload_n 3, 1) := by decide +kernel
theorem dX5_bill_115 : decode cX5_bill 115 = .ok (.ireturn, 1) := by decide +kernel
theorem dX5_fail_0 : decode cX5_fail 0 = .ok (.aload_n 0, 1) := by decide +kernel
theorem dX5_fail_1 : decode cX5_fail 1 = .ok (.getfield 41, 3) := by decide +kernel
theorem dX5_fail_4 : decode cX5_fail 4 = .ok (.iconst 5, 1) := by decide +kernel
theorem dX5_fail_5 : decode cX5_fail 5 = .ok (.iload_n 1, 1) := by decide +kernel
theorem dX5_fail_6 : decode cX5_fail 6 = .ok (.imul, 1) := by decide +kernel
theorem dX5_fail_7 : decode cX5_fail 7 = .ok (.iload_n 2, 1) := by decide +kernel
theorem dX5_fail_8 : decode cX5_fail 8 = .ok (.iadd, 1) := by decide +kernel
theorem dX5_fail_9 : decode cX5_fail 9 = .ok (.dup2, 1) := by decide +kernel
theorem dX5_fail_10 : decode cX5_fail 10 = .ok (.iaload, 1) := by decide +kernel
theorem dX5_fail_11 : decode cX5_fail 11 = .ok (.iconst 1, 1) := by decide +kernel
theorem dX5_fail_12 : decode cX5_fail 12 = .ok (.iadd, 1) := by decide +kernel
theorem dX5_fail_13 : decode cX5_fail 13 = .ok (.iastore, 1) := by decide +kernel
theorem dX5_fail_14 : decode cX5_fail 14 = .ok (.aload_n 0, 1) := by decide +kernel
theorem dX5_fail_15 : decode cX5_fail 15 = .ok (.getfield 41, 3) := by decide +kernel
theorem dX5_fail_18 : decode cX5_fail 18 = .ok (.iconst 5, 1) := by decide +kernel
theorem dX5_fail_19 : decode cX5_fail 19 = .ok (.iload_n 1, 1) := by decide +kernel
theorem dX5_fail_20 : decode cX5_fail 20 = .ok (.imul, 1) := by decide +kernel
theorem dX5_fail_21 : decode cX5_fail 21 = .ok (.iload_n 2, 1) := by decide +kernel
theorem dX5_fail_22 : decode cX5_fail 22 = .ok (.iadd, 1) := by decide +kernel
theorem dX5_fail_23 : decode cX5_fail 23 = .ok (.iaload, 1) := by decide +kernel
theorem dX5_fail_24 : decode cX5_fail 24 = .ok (.istore_n 3, 1) := by decide +kernel
theorem dX5_fail_25 : decode cX5_fail 25 = .ok (.aload_n 0, 1) := by decide +kernel
theorem dX5_fail_26 : decode cX5_fail 26 = .ok (.getfield 20, 3) := by decide +kernel
theorem dX5_fail_29 : decode cX5_fail 29 = .ok (.iload_n 2, 1) := by decide +kernel
theorem dX5_fail_30 : decode cX5_fail 30 = .ok (.iaload, 1) := by decide +kernel
theorem dX5_fail_31 : decode cX5_fail 31 = .ok (.iload_n 3, 1) := by decide +kernel
theorem dX5_fail_32 : decode cX5_fail 32 = .ok (.if_icmp .lt 40, 3) := by decide +kernel
theorem dX5_fail_35 : decode cX5_fail 35 = .ok (.aload_n 0, 1) := by decide +kernel
theorem dX5_fail_36 : decode cX5_fail 36 = .ok (.getfield 35, 3) := by decide +kernel
theorem dX5_fail_39 : decode cX5_fail 39 = .ok (.iload_n 1, 1) := by decide +kernel
theorem dX5_fail_40 : decode cX5_fail 40 = .ok (.aload_n 0, 1) := by decide +kernel
theorem dX5_fail_41 : decode cX5_fail 41 = .ok (.aload_n 0, 1) := by decide +kernel
theorem dX5_fail_42 : decode cX5_fail 42 = .ok (.getfield 87, 3) := by decide +kernel
theorem dX5_fail_45 : decode cX5_fail 45 = .ok (.aload_n 0, 1) := by decide +kernel
theorem dX5_fail_46 : decode cX5_fail 46 = .ok (.getfield 17, 3) := by decide +kernel
theorem dX5_fail_49 : decode cX5_fail 49 = .ok (.bipush 6, 2) := by decide +kernel
theorem dX5_fail_51 : decode cX5_fail 51 = .ok (.iload_n 2, 1) := by decide +kernel
theorem dX5_fail_52 : decode cX5_fail 52 = .ok (.imul, 1) := by decide +kernel
theorem dX5_fail_53 : decode cX5_fail 53 = .ok (.iload_n 3, 1) := by decide +kernel
theorem dX5_fail_54 : decode cX5_fail 54 = .ok (.iadd, 1) := by decide +kernel
theorem dX5_fail_55 : decode cX5_fail 55 = .ok (.iconst 1, 1) := by decide +kernel
theorem dX5_fail_56 : decode cX5_fail 56 = .ok (.isub, 1) := by decide +kernel
theorem dX5_fail_57 : decode cX5_fail 57 = .ok (.iaload, 1) := by decide +kernel
theorem dX5_fail_58 : decode cX5_fail 58 = .ok (.iadd, 1) := by decide +kernel
theorem dX5_fail_59 : decode cX5_fail 59 = .ok (.invokevirtual 96, 3) := by decide +kernel
theorem dX5_fail_62 : decode cX5_fail 62 = .ok (.iastore, 1) := by decide +kernel
theorem dX5_fail_63 : decode cX5_fail 63 = .ok (.aload_n 0, 1) := by decide +kernel
theorem dX5_fail_64 : decode cX5_fail 64 = .ok (.iload_n 1, 1) := by decide +kernel
theorem dX5_fail_65 : decode cX5_fail 65 = .ok (.iconst 0, 1) := by decide +kernel
theorem dX5_fail_66 : decode cX5_fail 66 = .ok (.invokevirtual 100, 3) := by decide +kernel
theorem dX5_fail_69 : decode cX5_fail 69 = .ok (.goto 24, 3) := by decide +kernel
theorem dX5_fail_72 : decode cX5_fail 72 = .ok (.aload_n 0, 1) := by decide +kernel
theorem dX5_fail_73 : decode cX5_fail 73 = .ok (.getfield 35, 3) := by decide +kernel
theorem dX5_fail_76 : decode cX5_fail 76 = .ok (.iload_n 1, 1) := by decide +kernel
theorem dX5_fail_77 : decode cX5_fail 77 = .ok (.aload_n 0, 1) := by decide +kernel
theorem dX5_fail_78 : decode cX5_fail 78 = .ok (.getfield 87, 3) := by decide +kernel
theorem dX5_fail_81 : decode cX5_fail 81 = .ok (.aload_n 0, 1) := by decide +kernel
theorem dX5_fail_82 : decode cX5_fail 82 = .ok (.getfield 63, 3) := by decide +kernel
theorem dX5_fail_85 : decode cX5_fail 85 = .ok (.iadd, 1) := by decide +kernel
theorem dX5_fail_86 : decode cX5_fail 86 = .ok (.iastore, 1) := by decide +kernel
theorem dX5_fail_87 : decode cX5_fail 87 = .ok (.aload_n 0, 1) := by decide +kernel
theorem dX5_fail_88 : decode cX5_fail 88 = .ok (.iload_n 1, 1) := by decide +kernel
theorem dX5_fail_89 : decode cX5_fail 89 = .ok (.iconst 2, 1) := by decide +kernel
theorem dX5_fail_90 : decode cX5_fail 90 = .ok (.invokevirtual 100, 3) := by decide +kernel
theorem dX5_fail_93 : decode cX5_fail 93 = .ok (.return_, 1) := by decide +kernel
theorem dX5_receive_0 : decode cX5_receive 0 = .ok (.aload_n 0, 1) := by decide +kernel
theorem dX5_receive_1 : decode cX5_receive 1 = .ok (.getfield 29, 3) := by decide +kernel
theorem dX5_receive_4 : decode cX5_receive 4 = .ok (.iload_n 1, 1) := by decide +kernel
theorem dX5_receive_5 : decode cX5_receive 5 = .ok (.dup2, 1) := by decide +kernel
theorem dX5_receive_6 : decode cX5_receive 6 = .ok (.iaload, 1) := by decide +kernel
theorem dX5_receive_7 : decode cX5_receive 7 = .ok (.iload_n 2, 1) := by decide +kernel
theorem dX5_receive_8 : decode cX5_receive 8 = .ok (.isub, 1) := by decide +kernel
theorem dX5_receive_9 : decode cX5_receive 9 = .ok (.iastore, 1) := by decide +kernel
theorem dX5_receive_10 : decode cX5_receive 10 = .ok (.aload_n 0, 1) := by decide +kernel
theorem dX5_receive_11 : decode cX5_receive 11 = .ok (.dup, 1) := by decide +kernel
theorem dX5_receive_12 : decode cX5_receive 12 = .ok (.getfield 104, 3) := by decide +kernel
theorem dX5_receive_15 : decode cX5_receive 15 = .ok (.iload_n 2, 1) := by decide +kernel
theorem dX5_receive_16 : decode cX5_receive 16 = .ok (.iadd, 1) := by decide +kernel
theorem dX5_receive_17 : decode cX5_receive 17 = .ok (.putfield 104, 3) := by decide +kernel
theorem dX5_receive_20 : decode cX5_receive 20 = .ok (.aload_n 0, 1) := by decide +kernel
theorem dX5_receive_21 : decode cX5_receive 21 = .ok (.getfield 29, 3) := by decide +kernel
theorem dX5_receive_24 : decode cX5_receive 24 = .ok (.iload_n 1, 1) := by decide +kernel
theorem dX5_receive_25 : decode cX5_receive 25 = .ok (.iaload, 1) := by decide +kernel
theorem dX5_receive_26 : decode cX5_receive 26 = .ok (.ifCond .ne 10, 3) := by decide +kernel
theorem dX5_receive_29 : decode cX5_receive 29 = .ok (.aload_n 0, 1) := by decide +kernel
theorem dX5_receive_30 : decode cX5_receive 30 = .ok (.iload_n 1, 1) := by decide +kernel
theorem dX5_receive_31 : decode cX5_receive 31 = .ok (.bipush 6, 2) := by decide +kernel
theorem dX5_receive_33 : decode cX5_receive 33 = .ok (.invokevirtual 100, 3) := by decide +kernel
theorem dX5_receive_36 : decode cX5_receive 36 = .ok (.return_, 1) := by decide +kernel
theorem dX5_isBill_0 : decode cX5_isBill 0 = .ok (.aload_n 0, 1) := by decide +kernel
theorem dX5_isBill_1 : decode cX5_isBill 1 = .ok (.iload_n 1, 1) := by decide +kernel
theorem dX5_isBill_2 : decode cX5_isBill 2 = .ok (.iconst 0, 1) := by decide +kernel
theorem dX5_isBill_3 : decode cX5_isBill 3 = .ok (.aload_n 0, 1) := by decide +kernel
theorem dX5_isBill_4 : decode cX5_isBill 4 = .ok (.getfield 93, 3) := by decide +kernel
theorem dX5_isBill_7 : decode cX5_isBill 7 = .ok (.iconst 1, 1) := by decide +kernel
theorem dX5_isBill_8 : decode cX5_isBill 8 = .ok (.isub, 1) := by decide +kernel
theorem dX5_isBill_9 : decode cX5_isBill 9 = .ok (.invokestatic 83, 3) := by decide +kernel
theorem dX5_isBill_12 : decode cX5_isBill 12 = .ok (.ifCond .eq 7, 3) := by decide +kernel
theorem dX5_isBill_15 : decode cX5_isBill 15 = .ok (.iconst 0, 1) := by decide +kernel
theorem dX5_isBill_16 : decode cX5_isBill 16 = .ok (.goto 4, 3) := by decide +kernel
theorem dX5_isBill_19 : decode cX5_isBill 19 = .ok (.iconst 1, 1) := by decide +kernel
theorem dX5_isBill_20 : decode cX5_isBill 20 = .ok (.putfield 70, 3) := by decide +kernel
theorem dX5_isBill_23 : decode cX5_isBill 23 = .ok (.aload_n 0, 1) := by decide +kernel
theorem dX5_isBill_24 : decode cX5_isBill 24 = .ok (.getfield 70, 3) := by decide +kernel
theorem dX5_isBill_27 : decode cX5_isBill 27 = .ok (.ifCond .ne 7, 3) := by decide +kernel
theorem dX5_isBill_30 : decode cX5_isBill 30 = .ok (.iconst 1, 1) := by decide +kernel
theorem dX5_isBill_31 : decode cX5_isBill 31 = .ok (.goto 4, 3) := by decide +kernel
theorem dX5_isBill_34 : decode cX5_isBill 34 = .ok (.iconst 0, 1) := by decide +kernel
theorem dX5_isBill_35 : decode cX5_isBill 35 = .ok (.ireturn, 1) := by decide +kernel
theorem dX5_outcome_0 : decode cX5_outcome 0 = .ok (.aload_n 0, 1) := by decide +kernel
theorem dX5_outcome_1 : decode cX5_outcome 1 = .ok (.iload_n 1, 1) := by decide +kernel
theorem dX5_outcome_2 : decode cX5_outcome 2 = .ok (.invokevirtual 107, 3) := by decide +kernel
theorem dX5_outcome_5 : decode cX5_outcome 5 = .ok (.ifCond .ne 5, 3) := by decide +kernel
theorem dX5_outcome_8 : decode cX5_outcome 8 = .ok (.iconst 0, 1) := by decide +kernel
theorem dX5_outcome_9 : decode cX5_outcome 9 = .ok (.ireturn, 1) := by decide +kernel
theorem dX5_outcome_10 : decode cX5_outcome 10 = .ok (.aload_n 0, 1) := by decide +kernel
theorem dX5_outcome_11 : decode cX5_outcome 11 = .ok (.iload_n 2, 1) := by decide +kernel
theorem dX5_outcome_12 : decode cX5_outcome 12 = .ok (.iconst 0, 1) := by decide +kernel
theorem dX5_outcome_13 : decode cX5_outcome 13 = .ok (.iconst 4, 1) := by decide +kernel
theorem dX5_outcome_14 : decode cX5_outcome 14 = .ok (.invokestatic 83, 3) := by decide +kernel
theorem dX5_outcome_17 : decode cX5_outcome 17 = .ok (.ifCond .ne 7, 3) := by decide +kernel
theorem dX5_outcome_20 : decode cX5_outcome 20 = .ok (.iconst 2, 1) := by decide +kernel
theorem dX5_outcome_21 : decode cX5_outcome 21 = .ok (.goto 18, 3) := by decide +kernel
theorem dX5_outcome_24 : decode cX5_outcome 24 = .ok (.aload_n 0, 1) := by decide +kernel
theorem dX5_outcome_25 : decode cX5_outcome 25 = .ok (.getfield 32, 3) := by decide +kernel
theorem dX5_outcome_28 : decode cX5_outcome 28 = .ok (.iload_n 1, 1) := by decide +kernel
theorem dX5_outcome_29 : decode cX5_outcome 29 = .ok (.iaload, 1) := by decide +kernel
theorem dX5_outcome_30 : decode cX5_outcome 30 = .ok (.iconst 1, 1) := by decide +kernel
theorem dX5_outcome_31 : decode cX5_outcome 31 = .ok (.if_icmp .eq 7, 3) := by decide +kernel
theorem dX5_outcome_34 : decode cX5_outcome 34 = .ok (.iconst 3, 1) := by decide +kernel
theorem dX5_outcome_35 : decode cX5_outcome 35 = .ok (.goto 4, 3) := by decide +kernel
theorem dX5_outcome_38 : decode cX5_outcome 38 = .ok (.iconst 0, 1) := by decide +kernel
theorem dX5_outcome_39 : decode cX5_outcome 39 = .ok (.putfield 70, 3) := by decide +kernel
theorem dX5_outcome_42 : decode cX5_outcome 42 = .ok (.aload_n 0, 1) := by decide +kernel
theorem dX5_outcome_43 : decode cX5_outcome 43 = .ok (.getfield 70, 3) := by decide +kernel
theorem dX5_outcome_46 : decode cX5_outcome 46 = .ok (.ifCond .le 5, 3) := by decide +kernel
theorem dX5_outcome_49 : decode cX5_outcome 49 = .ok (.iconst 0, 1) := by decide +kernel
theorem dX5_outcome_50 : decode cX5_outcome 50 = .ok (.ireturn, 1) := by decide +kernel
theorem dX5_outcome_51 : decode cX5_outcome 51 = .ok (.iload_n 2, 1) := by decide +kernel
theorem dX5_outcome_52 : decode cX5_outcome 52 = .ok (.ifCond .ne 17, 3) := by decide +kernel
theorem dX5_outcome_55 : decode cX5_outcome 55 = .ok (.aload_n 0, 1) := by decide +kernel
theorem dX5_outcome_56 : decode cX5_outcome 56 = .ok (.iload_n 1, 1) := by decide +kernel
theorem dX5_outcome_57 : decode cX5_outcome 57 = .ok (.aload_n 0, 1) := by decide +kernel
theorem dX5_outcome_58 : decode cX5_outcome 58 = .ok (.getfield 29, 3) := by decide +kernel
theorem dX5_outcome_61 : decode cX5_outcome 61 = .ok (.iload_n 1, 1) := by decide +kernel
theorem dX5_outcome_62 : decode cX5_outcome 62 = .ok (.iaload, 1) := by decide +kernel
theorem dX5_outcome_63 : decode cX5_outcome 63 = .ok (.invokevirtual 110, 3) := by decide +kernel
theorem dX5_outcome_66 : decode cX5_outcome 66 = .ok (.goto 9, 3) := by decide +kernel
theorem dX5_outcome_69 : decode cX5_outcome 69 = .ok (.aload_n 0, 1) := by decide +kernel
theorem dX5_outcome_70 : decode cX5_outcome 70 = .ok (.iload_n 1, 1) := by decide +kernel
theorem dX5_outcome_71 : decode cX5_outcome 71 = .ok (.iload_n 2, 1) := by decide +kernel
theorem dX5_outcome_72 : decode cX5_outcome 72 = .ok (.invokevirtual 113, 3) := by decide +kernel
theorem dX5_outcome_75 : decode cX5_outcome 75 = .ok (.aload_n 0, 1) := by decide +kernel
theorem dX5_outcome_76 : decode cX5_outcome 76 = .ok (.getfield 32, 3) := by decide +kernel
theorem dX5_outcome_79 : decode cX5_outcome 79 = .ok (.iload_n 1, 1) := by decide +kernel
theorem dX5_outcome_80 : decode cX5_outcome 80 = .ok (.iaload, 1) := by decide +kernel
theorem dX5_outcome_81 : decode cX5_outcome 81 = .ok (.ireturn, 1) := by decide +kernel
theorem dX5_pay_0 : decode cX5_pay 0 = .ok (.aload_n 0, 1) := by decide +kernel
theorem dX5_pay_1 : decode cX5_pay 1 = .ok (.iload_n 1, 1) := by decide +kernel
theorem dX5_pay_2 : decode cX5_pay 2 = .ok (.invokevirtual 107, 3) := by decide +kernel
theorem dX5_pay_5 : decode cX5_pay 5 = .ok (.ifCond .ne 5, 3) := by decide +kernel
theorem dX5_pay_8 : decode cX5_pay 8 = .ok (.iconst 0, 1) := by decide +kernel
theorem dX5_pay_9 : decode cX5_pay 9 = .ok (.ireturn, 1) := by decide +kernel
theorem dX5_pay_10 : decode cX5_pay 10 = .ok (.aload_n 0, 1) := by decide +kernel
theorem dX5_pay_11 : decode cX5_pay 11 = .ok (.iload_n 2, 1) := by decide +kernel
theorem dX5_pay_12 : decode cX5_pay 12 = .ok (.iconst 1, 1) := by decide +kernel
theorem dX5_pay_13 : decode cX5_pay 13 = .ok (.sipush 9999, 3) := by decide +kernel
theorem dX5_pay_16 : decode cX5_pay 16 = .ok (.invokestatic 83, 3) := by decide +kernel
theorem dX5_pay_19 : decode cX5_pay 19 = .ok (.ifCond .ne 7, 3) := by decide +kernel
theorem dX5_pay_22 : decode cX5_pay 22 = .ok (.iconst 2, 1) := by decide +kernel
theorem dX5_pay_23 : decode cX5_pay 23 = .ok (.goto 39, 3) := by decide +kernel
theorem dX5_pay_26 : decode cX5_pay 26 = .ok (.aload_n 0, 1) := by decide +kernel
theorem dX5_pay_27 : decode cX5_pay 27 = .ok (.getfield 32, 3) := by decide +kernel
theorem dX5_pay_30 : decode cX5_pay 30 = .ok (.iload_n 1, 1) := by decide +kernel
theorem dX5_pay_31 : decode cX5_pay 31 = .ok (.iaload, 1) := by decide +kernel
theorem dX5_pay_32 : decode cX5_pay 32 = .ok (.iconst 1, 1) := by decide +kernel
theorem dX5_pay_33 : decode cX5_pay 33 = .ok (.if_icmp .eq 24, 3) := by decide +kernel
theorem dX5_pay_36 : decode cX5_pay 36 = .ok (.aload_n 0, 1) := by decide +kernel
theorem dX5_pay_37 : decode cX5_pay 37 = .ok (.getfield 32, 3) := by decide +kernel
theorem dX5_pay_40 : decode cX5_pay 40 = .ok (.iload_n 1, 1) := by decide +kernel
theorem dX5_pay_41 : decode cX5_pay 41 = .ok (.iaload, 1) := by decide +kernel
theorem dX5_pay_42 : decode cX5_pay 42 = .ok (.bipush 6, 2) := by decide +kernel
theorem dX5_pay_44 : decode cX5_pay 44 = .ok (.if_icmp .eq 13, 3) := by decide +kernel
theorem dX5_pay_47 : decode cX5_pay 47 = .ok (.iload_n 2, 1) := by decide +kernel
theorem dX5_pay_48 : decode cX5_pay 48 = .ok (.aload_n 0, 1) := by decide +kernel
theorem dX5_pay_49 : decode cX5_pay 49 = .ok (.getfield 29, 3) := by decide +kernel
theorem dX5_pay_52 : decode cX5_pay 52 = .ok (.iload_n 1, 1) := by decide +kernel
theorem dX5_pay_53 : decode cX5_pay 53 = .ok (.iaload, 1) := by decide +kernel
theorem dX5_pay_54 : decode cX5_pay 54 = .ok (.if_icmp .le 7, 3) := by decide +kernel
theorem dX5_pay_57 : decode cX5_pay 57 = .ok (.iconst 3, 1) := by decide +kernel
theorem dX5_pay_58 : decode cX5_pay 58 = .ok (.goto 4, 3) := by decide +kernel
theorem dX5_pay_61 : decode cX5_pay 61 = .ok (.iconst 0, 1) := by decide +kernel
theorem dX5_pay_62 : decode cX5_pay 62 = .ok (.putfield 70, 3) := by decide +kernel
theorem dX5_pay_65 : decode cX5_pay 65 = .ok (.aload_n 0, 1) := by decide +kernel
theorem dX5_pay_66 : decode cX5_pay 66 = .ok (.getfield 70, 3) := by decide +kernel
theorem dX5_pay_69 : decode cX5_pay 69 = .ok (.ifCond .le 5, 3) := by decide +kernel
theorem dX5_pay_72 : decode cX5_pay 72 = .ok (.iconst 0, 1) := by decide +kernel
theorem dX5_pay_73 : decode cX5_pay 73 = .ok (.ireturn, 1) := by decide +kernel
theorem dX5_pay_74 : decode cX5_pay 74 = .ok (.aload_n 0, 1) := by decide +kernel
theorem dX5_pay_75 : decode cX5_pay 75 = .ok (.dup, 1) := by decide +kernel
theorem dX5_pay_76 : decode cX5_pay 76 = .ok (.getfield 116, 3) := by decide +kernel
theorem dX5_pay_79 : decode cX5_pay 79 = .ok (.aload_n 0, 1) := by decide +kernel
theorem dX5_pay_80 : decode cX5_pay 80 = .ok (.getfield 32, 3) := by decide +kernel
theorem dX5_pay_83 : decode cX5_pay 83 = .ok (.iload_n 1, 1) := by decide +kernel
theorem dX5_pay_84 : decode cX5_pay 84 = .ok (.iaload, 1) := by decide +kernel
theorem dX5_pay_85 : decode cX5_pay 85 = .ok (.iconst 5, 1) := by decide +kernel
theorem dX5_pay_86 : decode cX5_pay 86 = .ok (.if_icmp .ne 7, 3) := by decide +kernel
theorem dX5_pay_89 : decode cX5_pay 89 = .ok (.iload_n 2, 1) := by decide +kernel
theorem dX5_pay_90 : decode cX5_pay 90 = .ok (.goto 4, 3) := by decide +kernel
theorem dX5_pay_93 : decode cX5_pay 93 = .ok (.iconst 0, 1) := by decide +kernel
theorem dX5_pay_94 : decode cX5_pay 94 = .ok (.iadd, 1) := by decide +kernel
theorem dX5_pay_95 : decode cX5_pay 95 = .ok (.putfield 116, 3) := by decide +kernel
theorem dX5_pay_98 : decode cX5_pay 98 = .ok (.aload_n 0, 1) := by decide +kernel
theorem dX5_pay_99 : decode cX5_pay 99 = .ok (.iload_n 1, 1) := by decide +kernel
theorem dX5_pay_100 : decode cX5_pay 100 = .ok (.iload_n 2, 1) := by decide +kernel
theorem dX5_pay_101 : decode cX5_pay 101 = .ok (.invokevirtual 110, 3) := by decide +kernel
theorem dX5_pay_104 : decode cX5_pay 104 = .ok (.aload_n 0, 1) := by decide +kernel
theorem dX5_pay_105 : decode cX5_pay 105 = .ok (.getfield 29, 3) := by decide +kernel
theorem dX5_pay_108 : decode cX5_pay 108 = .ok (.iload_n 1, 1) := by decide +kernel
theorem dX5_pay_109 : decode cX5_pay 109 = .ok (.iaload, 1) := by decide +kernel
theorem dX5_pay_110 : decode cX5_pay 110 = .ok (.ireturn, 1) := by decide +kernel
theorem dX5_promise_0 : decode cX5_promise 0 = .ok (.aload_n 0, 1) := by decide +kernel
theorem dX5_promise_1 : decode cX5_promise 1 = .ok (.iload_n 1, 1) := by decide +kernel
theorem dX5_promise_2 : decode cX5_promise 2 = .ok (.invokevirtual 107, 3) := by decide +kernel
theorem dX5_promise_5 : decode cX5_promise 5 = .ok (.ifCond .ne 5, 3) := by decide +kernel
theorem dX5_promise_8 : decode cX5_promise 8 = .ok (.iconst 0, 1) := by decide +kernel
theorem dX5_promise_9 : decode cX5_promise 9 = .ok (.ireturn, 1) := by decide +kernel
theorem dX5_promise_10 : decode cX5_promise 10 = .ok (.aload_n 0, 1) := by decide +kernel
theorem dX5_promise_11 : decode cX5_promise 11 = .ok (.getfield 32, 3) := by decide +kernel
theorem dX5_promise_14 : decode cX5_promise 14 = .ok (.iload_n 1, 1) := by decide +kernel
theorem dX5_promise_15 : decode cX5_promise 15 = .ok (.iaload, 1) := by decide +kernel
theorem dX5_promise_16 : decode cX5_promise 16 = .ok (.ifCond .eq 23, 3) := by decide +kernel
theorem dX5_promise_19 : decode cX5_promise 19 = .ok (.aload_n 0, 1) := by decide +kernel
theorem dX5_promise_20 : decode cX5_promise 20 = .ok (.getfield 32, 3) := by decide +kernel
theorem dX5_promise_23 : decode cX5_promise 23 = .ok (.iload_n 1, 1) := by decide +kernel
theorem dX5_promise_24 : decode cX5_promise 24 = .ok (.iaload, 1) := by decide +kernel
theorem dX5_promise_25 : decode cX5_promise 25 = .ok (.iconst 2, 1) := by decide +kernel
theorem dX5_promise_26 : decode cX5_promise 26 = .ok (.if_icmp .eq 13, 3) := by decide +kernel
theorem dX5_promise_29 : decode cX5_promise 29 = .ok (.aload_n 0, 1) := by decide +kernel
theorem dX5_promise_30 : decode cX5_promise 30 = .ok (.getfield 32, 3) := by decide +kernel
theorem dX5_promise_33 : decode cX5_promise 33 = .ok (.iload_n 1, 1) := by decide +kernel
theorem dX5_promise_34 : decode cX5_promise 34 = .ok (.iaload, 1) := by decide +kernel
theorem dX5_promise_35 : decode cX5_promise 35 = .ok (.iconst 3, 1) := by decide +kernel
theorem dX5_promise_36 : decode cX5_promise 36 = .ok (.if_icmp .ne 7, 3) := by decide +kernel
theorem dX5_promise_39 : decode cX5_promise 39 = .ok (.iconst 1, 1) := by decide +kernel
theorem dX5_promise_40 : decode cX5_promise 40 = .ok (.goto 4, 3) := by decide +kernel
theorem dX5_promise_43 : decode cX5_promise 43 = .ok (.iconst 0, 1) := by decide +kernel
theorem dX5_promise_44 : decode cX5_promise 44 = .ok (.istore_n 3, 1) := by decide +kernel
theorem dX5_promise_45 : decode cX5_promise 45 = .ok (.aload_n 0, 1) := by decide +kernel
theorem dX5_promise_46 : decode cX5_promise 46 = .ok (.iload_n 2, 1) := by decide +kernel
theorem dX5_promise_47 : decode cX5_promise 47 = .ok (.iconst 1, 1) := by decide +kernel
theorem dX5_promise_48 : decode cX5_promise 48 = .ok (.bipush 30, 2) := by decide +kernel
theorem dX5_promise_50 : decode cX5_promise 50 = .ok (.invokestatic 83, 3) := by decide +kernel
theorem dX5_promise_53 : decode cX5_promise 53 = .ok (.ifCond .ne 7, 3) := by decide +kernel
theorem dX5_promise_56 : decode cX5_promise 56 = .ok (.iconst 2, 1) := by decide +kernel
theorem dX5_promise_57 : decode cX5_promise 57 = .ok (.goto 22, 3) := by decide +kernel
theorem dX5_promise_60 : decode cX5_promise 60 = .ok (.iload_n 3, 1) := by decide +kernel
theorem dX5_promise_61 : decode cX5_promise 61 = .ok (.ifCond .eq 13, 3) := by decide +kernel
theorem dX5_promise_64 : decode cX5_promise 64 = .ok (.aload_n 0, 1) := by decide +kernel
theorem dX5_promise_65 : decode cX5_promise 65 = .ok (.getfield 44, 3) := by decide +kernel
theorem dX5_promise_68 : decode cX5_promise 68 = .ok (.iload_n 1, 1) := by decide +kernel
theorem dX5_promise_69 : decode cX5_promise 69 = .ok (.iaload, 1) := by decide +kernel
theorem dX5_promise_70 : decode cX5_promise 70 = .ok (.iconst 2, 1) := by decide +kernel
theorem dX5_promise_71 : decode cX5_promise 71 = .ok (.if_icmp .ne 7, 3) := by decide +kernel
theorem dX5_promise_74 : decode cX5_promise 74 = .ok (.iconst 3, 1) := by decide +kernel
theorem dX5_promise_75 : decode cX5_promise 75 = .ok (.goto 4, 3) := by decide +kernel
theorem dX5_promise_78 : decode cX5_promise 78 = .ok (.iconst 0, 1) := by decide +kernel
theorem dX5_promise_79 : decode cX5_promise 79 = .ok (.putfield 70, 3) := by decide +kernel
theorem dX5_promise_82 : decode cX5_promise 82 = .ok (.aload_n 0, 1) := by decide +kernel
theorem dX5_promise_83 : decode cX5_promise 83 = .ok (.getfield 70, 3) := by decide +kernel
theorem dX5_promise_86 : decode cX5_promise 86 = .ok (.ifCond .le 5, 3) := by decide +kernel
theorem dX5_promise_89 : decode cX5_promise 89 = .ok (.iconst 0, 1) := by decide +kernel
theorem dX5_promise_90 : decode cX5_promise 90 = .ok (.ireturn, 1) := by decide +kernel
theorem dX5_promise_91 : decode cX5_promise 91 = .ok (.aload_n 0, 1) := by decide +kernel
theorem dX5_promise_92 : decode cX5_promise 92 = .ok (.getfield 44, 3) := by decide +kernel
theorem dX5_promise_95 : decode cX5_promise 95 = .ok (.iload_n 1, 1) := by decide +kernel
theorem dX5_promise_96 : decode cX5_promise 96 = .ok (.dup2, 1) := by decide +kernel
theorem dX5_promise_97 : decode cX5_promise 97 = .ok (.iaload, 1) := by decide +kernel
theorem dX5_promise_98 : decode cX5_promise 98 = .ok (.iconst 1, 1) := by decide +kernel
theorem dX5_promise_99 : decode cX5_promise 99 = .ok (.iadd, 1) := by decide +kernel
theorem dX5_promise_100 : decode cX5_promise 100 = .ok (.iastore, 1) := by decide +kernel
theorem dX5_promise_101 : decode cX5_promise 101 = .ok (.aload_n 0, 1) := by decide +kernel
theorem dX5_promise_102 : decode cX5_promise 102 = .ok (.getfield 50, 3) := by decide +kernel
theorem dX5_promise_105 : decode cX5_promise 105 = .ok (.iload_n 1, 1) := by decide +kernel
theorem dX5_promise_106 : decode cX5_promise 106 = .ok (.aload_n 0, 1) := by decide +kernel
theorem dX5_promise_107 : decode cX5_promise 107 = .ok (.getfield 32, 3) := by decide +kernel
theorem dX5_promise_110 : decode cX5_promise 110 = .ok (.iload_n 1, 1) := by decide +kernel
theorem dX5_promise_111 : decode cX5_promise 111 = .ok (.iaload, 1) := by decide +kernel
theorem dX5_promise_112 : decode cX5_promise 112 = .ok (.iastore, 1) := by decide +kernel
theorem dX5_promise_113 : decode cX5_promise 113 = .ok (.aload_n 0, 1) := by decide +kernel
theorem dX5_promise_114 : decode cX5_promise 114 = .ok (.getfield 53, 3) := by decide +kernel
theorem dX5_promise_117 : decode cX5_promise 117 = .ok (.iload_n 1, 1) := by decide +kernel
theorem dX5_promise_118 : decode cX5_promise 118 = .ok (.aload_n 0, 1) := by decide +kernel
theorem dX5_promise_119 : decode cX5_promise 119 = .ok (.getfield 35, 3) := by decide +kernel
theorem dX5_promise_122 : decode cX5_promise 122 = .ok (.iload_n 1, 1) := by decide +kernel
theorem dX5_promise_123 : decode cX5_promise 123 = .ok (.iaload, 1) := by decide +kernel
theorem dX5_promise_124 : decode cX5_promise 124 = .ok (.aload_n 0, 1) := by decide +kernel
theorem dX5_promise_125 : decode cX5_promise 125 = .ok (.getfield 87, 3) := by decide +kernel
theorem dX5_promise_128 : decode cX5_promise 128 = .ok (.isub, 1) := by decide +kernel
theorem dX5_promise_129 : decode cX5_promise 129 = .ok (.iastore, 1) := by decide +kernel
theorem dX5_promise_130 : decode cX5_promise 130 = .ok (.aload_n 0, 1) := by decide +kernel
theorem dX5_promise_131 : decode cX5_promise 131 = .ok (.getfield 35, 3) := by decide +kernel
theorem dX5_promise_134 : decode cX5_promise 134 = .ok (.iload_n 1, 1) := by decide +kernel
theorem dX5_promise_135 : decode cX5_promise 135 = .ok (.aload_n 0, 1) := by decide +kernel
theorem dX5_promise_136 : decode cX5_promise 136 = .ok (.getfield 87, 3) := by decide +kernel
theorem dX5_promise_139 : decode cX5_promise 139 = .ok (.iload_n 2, 1) := by decide +kernel
theorem dX5_promise_140 : decode cX5_promise 140 = .ok (.iadd, 1) := by decide +kernel
theorem dX5_promise_141 : decode cX5_promise 141 = .ok (.iastore, 1) := by decide +kernel
theorem dX5_promise_142 : decode cX5_promise 142 = .ok (.aload_n 0, 1) := by decide +kernel
theorem dX5_promise_143 : decode cX5_promise 143 = .ok (.iload_n 1, 1) := by decide +kernel
theorem dX5_promise_144 : decode cX5_promise 144 = .ok (.iconst 4, 1) := by decide +kernel
theorem dX5_promise_145 : decode cX5_promise 145 = .ok (.invokevirtual 100, 3) := by decide +kernel
theorem dX5_promise_148 : decode cX5_promise 148 = .ok (.aload_n 0, 1) := by decide +kernel
theorem dX5_promise_149 : decode cX5_promise 149 = .ok (.getfield 35, 3) := by decide +kernel
theorem dX5_promise_152 : decode cX5_promise 152 = .ok (.iload_n 1, 1) := by decide +kernel
theorem dX5_promise_153 : decode cX5_promise 153 = .ok (.iaload, 1) := by decide +kernel
theorem dX5_promise_154 : decode cX5_promise 154 = .ok (.ireturn, 1) := by decide +kernel
theorem dX5_breakPromise_0 : decode cX5_breakPromise 0 = .ok (.aload_n 0, 1) := by decide +kernel
theorem dX5_breakPromise_1 : decode cX5_breakPromise 1 = .ok (.getfield 47, 3) := by decide +kernel
theorem dX5_breakPromise_4 : decode cX5_breakPromise 4 = .ok (.iload_n 1, 1) := by decide +kernel
theorem dX5_breakPromise_5 : decode cX5_breakPromise 5 = .ok (.dup2, 1) := by decide +kernel
theorem dX5_breakPromise_6 : decode cX5_breakPromise 6 = .ok (.iaload, 1) := by decide +kernel
theorem dX5_breakPromise_7 : decode cX5_breakPromise 7 = .ok (.iconst 1, 1) := by decide +kernel
theorem dX5_breakPromise_8 : decode cX5_breakPromise 8 = .ok (.iadd, 1) := by decide +kernel
theorem dX5_breakPromise_9 : decode cX5_breakPromise 9 = .ok (.iastore, 1) := by decide +kernel
theorem dX5_breakPromise_10 : decode cX5_breakPromise 10 = .ok (.aload_n 0, 1) := by decide +kernel
theorem dX5_breakPromise_11 : decode cX5_breakPromise 11 = .ok (.getfield 35, 3) := by decide +kernel
theorem dX5_breakPromise_14 : decode cX5_breakPromise 14 = .ok (.iload_n 1, 1) := by decide +kernel
theorem dX5_breakPromise_15 : decode cX5_breakPromise 15 = .ok (.aload_n 0, 1) := by decide +kernel
theorem dX5_breakPromise_16 : decode cX5_breakPromise 16 = .ok (.getfield 50, 3) := by decide +kernel
theorem dX5_breakPromise_19 : decode cX5_breakPromise 19 = .ok (.iload_n 1, 1) := by decide +kernel
theorem dX5_breakPromise_20 : decode cX5_breakPromise 20 = .ok (.iaload, 1) := by decide +kernel
theorem dX5_breakPromise_21 : decode cX5_breakPromise 21 = .ok (.ifCond .ne 16, 3) := by decide +kernel
theorem dX5_breakPromise_24 : decode cX5_breakPromise 24 = .ok (.aload_n 0, 1) := by decide +kernel
theorem dX5_breakPromise_25 : decode cX5_breakPromise 25 = .ok (.aload_n 0, 1) := by decide +kernel
theorem dX5_breakPromise_26 : decode cX5_breakPromise 26 = .ok (.getfield 87, 3) := by decide +kernel
theorem dX5_breakPromise_29 : decode cX5_breakPromise 29 = .ok (.iconst 1, 1) := by decide +kernel
theorem dX5_breakPromise_30 : decode cX5_breakPromise 30 = .ok (.iadd, 1) := by decide +kernel
theorem dX5_breakPromise_31 : decode cX5_breakPromise 31 = .ok (.invokevirtual 96, 3) := by decide +kernel
theorem dX5_breakPromise_34 : decode cX5_breakPromise 34 = .ok (.goto 14, 3) := by decide +kernel
theorem dX5_breakPromise_37 : decode cX5_breakPromise 37 = .ok (.aload_n 0, 1) := by decide +kernel
theorem dX5_breakPromise_38 : decode cX5_breakPromise 38 = .ok (.getfield 87, 3) := by decide +kernel
theorem dX5_breakPromise_41 : decode cX5_breakPromise 41 = .ok (.aload_n 0, 1) := by decide +kernel
theorem dX5_breakPromise_42 : decode cX5_breakPromise 42 = .ok (.getfield 53, 3) := by decide +kernel
theorem dX5_breakPromise_45 : decode cX5_breakPromise 45 = .ok (.iload_n 1, 1) := by decide +kernel
theorem dX5_breakPromise_46 : decode cX5_breakPromise 46 = .ok (.iaload, 1) := by decide +kernel
theorem dX5_breakPromise_47 : decode cX5_breakPromise 47 = .ok (.iadd, 1) := by decide +kernel
theorem dX5_breakPromise_48 : decode cX5_breakPromise 48 = .ok (.iastore, 1) := by decide +kernel
theorem dX5_breakPromise_49 : decode cX5_breakPromise 49 = .ok (.aload_n 0, 1) := by decide +kernel
theorem dX5_breakPromise_50 : decode cX5_breakPromise 50 = .ok (.iload_n 1, 1) := by decide +kernel
theorem dX5_breakPromise_51 : decode cX5_breakPromise 51 = .ok (.aload_n 0, 1) := by decide +kernel
theorem dX5_breakPromise_52 : decode cX5_breakPromise 52 = .ok (.getfield 50, 3) := by decide +kernel
theorem dX5_breakPromise_55 : decode cX5_breakPromise 55 = .ok (.iload_n 1, 1) := by decide +kernel
theorem dX5_breakPromise_56 : decode cX5_breakPromise 56 = .ok (.iaload, 1) := by decide +kernel
theorem dX5_breakPromise_57 : decode cX5_breakPromise 57 = .ok (.invokevirtual 100, 3) := by decide +kernel
theorem dX5_breakPromise_60 : decode cX5_breakPromise 60 = .ok (.return_, 1) := by decide +kernel
theorem dX5_look_0 : decode cX5_look 0 = .ok (.aload_n 0, 1) := by decide +kernel
theorem dX5_look_1 : decode cX5_look 1 = .ok (.getfield 32, 3) := by decide +kernel
theorem dX5_look_4 : decode cX5_look 4 = .ok (.iload_n 1, 1) := by decide +kernel
theorem dX5_look_5 : decode cX5_look 5 = .ok (.iaload, 1) := by decide +kernel
theorem dX5_look_6 : decode cX5_look 6 = .ok (.istore_n 2, 1) := by decide +kernel
theorem dX5_look_7 : decode cX5_look 7 = .ok (.iload_n 2, 1) := by decide +kernel
theorem dX5_look_8 : decode cX5_look 8 = .ok (.ifCond .ne 64, 3) := by decide +kernel
theorem dX5_look_11 : decode cX5_look 11 = .ok (.aload_n 0, 1) := by decide +kernel
theorem dX5_look_12 : decode cX5_look 12 = .ok (.getfield 35, 3) := by decide +kernel
theorem dX5_look_15 : decode cX5_look 15 = .ok (.iload_n 1, 1) := by decide +kernel
theorem dX5_look_16 : decode cX5_look 16 = .ok (.iaload, 1) := by decide +kernel
theorem dX5_look_17 : decode cX5_look 17 = .ok (.aload_n 0, 1) := by decide +kernel
theorem dX5_look_18 : decode cX5_look 18 = .ok (.getfield 87, 3) := by decide +kernel
theorem dX5_look_21 : decode cX5_look 21 = .ok (.if_icmp .gt 51, 3) := by decide +kernel
theorem dX5_look_24 : decode cX5_look 24 = .ok (.aload_n 0, 1) := by decide +kernel
theorem dX5_look_25 : decode cX5_look 25 = .ok (.aload_n 0, 1) := by decide +kernel
theorem dX5_look_26 : decode cX5_look 26 = .ok (.getfield 87, 3) := by decide +kernel
theorem dX5_look_29 : decode cX5_look 29 = .ok (.invokevirtual 80, 3) := by decide +kernel
theorem dX5_look_32 : decode cX5_look 32 = .ok (.ifCond .eq 21, 3) := by decide +kernel
theorem dX5_look_35 : decode cX5_look 35 = .ok (.aload_n 0, 1) := by decide +kernel
theorem dX5_look_36 : decode cX5_look 36 = .ok (.getfield 38, 3) := by decide +kernel
theorem dX5_look_39 : decode cX5_look 39 = .ok (.iload_n 1, 1) := by decide +kernel
theorem dX5_look_40 : decode cX5_look 40 = .ok (.dup2, 1) := by decide +kernel
theorem dX5_look_41 : decode cX5_look 41 = .ok (.iaload, 1) := by decide +kernel
theorem dX5_look_42 : decode cX5_look 42 = .ok (.iconst 1, 1) := by decide +kernel
theorem dX5_look_43 : decode cX5_look 43 = .ok (.iadd, 1) := by decide +kernel
theorem dX5_look_44 : decode cX5_look 44 = .ok (.iastore, 1) := by decide +kernel
theorem dX5_look_45 : decode cX5_look 45 = .ok (.aload_n 0, 1) := by decide +kernel
theorem dX5_look_46 : decode cX5_look 46 = .ok (.iload_n 1, 1) := by decide +kernel
theorem dX5_look_47 : decode cX5_look 47 = .ok (.iconst 1, 1) := by decide +kernel
theorem dX5_look_48 : decode cX5_look 48 = .ok (.invokevirtual 100, 3) := by decide +kernel
theorem dX5_look_51 : decode cX5_look 51 = .ok (.iconst 1, 1) := by decide +kernel
theorem dX5_look_52 : decode cX5_look 52 = .ok (.ireturn, 1) := by decide +kernel
theorem dX5_look_53 : decode cX5_look 53 = .ok (.aload_n 0, 1) := by decide +kernel
theorem dX5_look_54 : decode cX5_look 54 = .ok (.getfield 35, 3) := by decide +kernel
theorem dX5_look_57 : decode cX5_look 57 = .ok (.iload_n 1, 1) := by decide +kernel
theorem dX5_look_58 : decode cX5_look 58 = .ok (.aload_n 0, 1) := by decide +kernel
theorem dX5_look_59 : decode cX5_look 59 = .ok (.aload_n 0, 1) := by decide +kernel
theorem dX5_look_60 : decode cX5_look 60 = .ok (.getfield 87, 3) := by decide +kernel
theorem dX5_look_63 : decode cX5_look 63 = .ok (.iconst 1, 1) := by decide +kernel
theorem dX5_look_64 : decode cX5_look 64 = .ok (.iadd, 1) := by decide +kernel
theorem dX5_look_65 : decode cX5_look 65 = .ok (.invokevirtual 96, 3) := by decide +kernel
theorem dX5_look_68 : decode cX5_look 68 = .ok (.iastore, 1) := by decide +kernel
theorem dX5_look_69 : decode cX5_look 69 = .ok (.goto 110, 3) := by decide +kernel
theorem dX5_look_72 : decode cX5_look 72 = .ok (.iload_n 2, 1) := by decide +kernel
theorem dX5_look_73 : decode cX5_look 73 = .ok (.iconst 2, 1) := by decide +kernel
theorem dX5_look_74 : decode cX5_look 74 = .ok (.if_icmp .ne 40, 3) := by decide +kernel
theorem dX5_look_77 : decode cX5_look 77 = .ok (.aload_n 0, 1) := by decide +kernel
theorem dX5_look_78 : decode cX5_look 78 = .ok (.getfield 35, 3) := by decide +kernel
theorem dX5_look_81 : decode cX5_look 81 = .ok (.iload_n 1, 1) := by decide +kernel
theorem dX5_look_82 : decode cX5_look 82 = .ok (.iaload, 1) := by decide +kernel
theorem dX5_look_83 : decode cX5_look 83 = .ok (.aload_n 0, 1) := by decide +kernel
theorem dX5_look_84 : decode cX5_look 84 = .ok (.getfield 87, 3) := by decide +kernel
theorem dX5_look_87 : decode cX5_look 87 = .ok (.if_icmp .ne 27, 3) := by decide +kernel
theorem dX5_look_90 : decode cX5_look 90 = .ok (.aload_n 0, 1) := by decide +kernel
theorem dX5_look_91 : decode cX5_look 91 = .ok (.getfield 35, 3) := by decide +kernel
theorem dX5_look_94 : decode cX5_look 94 = .ok (.iload_n 1, 1) := by decide +kernel
theorem dX5_look_95 : decode cX5_look 95 = .ok (.aload_n 0, 1) := by decide +kernel
theorem dX5_look_96 : decode cX5_look 96 = .ok (.getfield 87, 3) := by decide +kernel
theorem dX5_look_99 : decode cX5_look 99 = .ok (.aload_n 0, 1) := by decide +kernel
theorem dX5_look_100 : decode cX5_look 100 = .ok (.getfield 67, 3) := by decide +kernel
theorem dX5_look_103 : decode cX5_look 103 = .ok (.iadd, 1) := by decide +kernel
theorem dX5_look_104 : decode cX5_look 104 = .ok (.iastore, 1) := by decide +kernel
theorem dX5_look_105 : decode cX5_look 105 = .ok (.aload_n 0, 1) := by decide +kernel
theorem dX5_look_106 : decode cX5_look 106 = .ok (.iload_n 1, 1) := by decide +kernel
theorem dX5_look_107 : decode cX5_look 107 = .ok (.iconst 3, 1) := by decide +kernel
theorem dX5_look_108 : decode cX5_look 108 = .ok (.invokevirtual 100, 3) := by decide +kernel
theorem dX5_look_111 : decode cX5_look 111 = .ok (.goto 68, 3) := by decide +kernel
theorem dX5_look_114 : decode cX5_look 114 = .ok (.iload_n 2, 1) := by decide +kernel
theorem dX5_look_115 : decode cX5_look 115 = .ok (.iconst 3, 1) := by decide +kernel
theorem dX5_look_116 : decode cX5_look 116 = .ok (.if_icmp .ne 40, 3) := by decide +kernel
theorem dX5_look_119 : decode cX5_look 119 = .ok (.aload_n 0, 1) := by decide +kernel
theorem dX5_look_120 : decode cX5_look 120 = .ok (.getfield 35, 3) := by decide +kernel
theorem dX5_look_123 : decode cX5_look 123 = .ok (.iload_n 1, 1) := by decide +kernel
theorem dX5_look_124 : decode cX5_look 124 = .ok (.iaload, 1) := by decide +kernel
theorem dX5_look_125 : decode cX5_look 125 = .ok (.aload_n 0, 1) := by decide +kernel
theorem dX5_look_126 : decode cX5_look 126 = .ok (.getfield 87, 3) := by decide +kernel
theorem dX5_look_129 : decode cX5_look 129 = .ok (.if_icmp .ne 27, 3) := by decide +kernel
theorem dX5_look_132 : decode cX5_look 132 = .ok (.aload_n 0, 1) := by decide +kernel
theorem dX5_look_133 : decode cX5_look 133 = .ok (.dup, 1) := by decide +kernel
theorem dX5_look_134 : decode cX5_look 134 = .ok (.getfield 119, 3) := by decide +kernel
theorem dX5_look_137 : decode cX5_look 137 = .ok (.aload_n 0, 1) := by decide +kernel
theorem dX5_look_138 : decode cX5_look 138 = .ok (.getfield 29, 3) := by decide +kernel
theorem dX5_look_141 : decode cX5_look 141 = .ok (.iload_n 1, 1) := by decide +kernel
theorem dX5_look_142 : decode cX5_look 142 = .ok (.iaload, 1) := by decide +kernel
theorem dX5_look_143 : decode cX5_look 143 = .ok (.iadd, 1) := by decide +kernel
theorem dX5_look_144 : decode cX5_look 144 = .ok (.putfield 119, 3) := by decide +kernel
theorem dX5_look_147 : decode cX5_look 147 = .ok (.aload_n 0, 1) := by decide +kernel
theorem dX5_look_148 : decode cX5_look 148 = .ok (.iload_n 1, 1) := by decide +kernel
theorem dX5_look_149 : decode cX5_look 149 = .ok (.iconst 5, 1) := by decide +kernel
theorem dX5_look_150 : decode cX5_look 150 = .ok (.invokevirtual 100, 3) := by decide +kernel
theorem dX5_look_153 : decode cX5_look 153 = .ok (.goto 26, 3) := by decide +kernel
theorem dX5_look_156 : decode cX5_look 156 = .ok (.iload_n 2, 1) := by decide +kernel
theorem dX5_look_157 : decode cX5_look 157 = .ok (.iconst 4, 1) := by decide +kernel
theorem dX5_look_158 : decode cX5_look 158 = .ok (.if_icmp .ne 21, 3) := by decide +kernel
theorem dX5_look_161 : decode cX5_look 161 = .ok (.aload_n 0, 1) := by decide +kernel
theorem dX5_look_162 : decode cX5_look 162 = .ok (.getfield 35, 3) := by decide +kernel
theorem dX5_look_165 : decode cX5_look 165 = .ok (.iload_n 1, 1) := by decide +kernel
theorem dX5_look_166 : decode cX5_look 166 = .ok (.iaload, 1) := by decide +kernel
theorem dX5_look_167 : decode cX5_look 167 = .ok (.aload_n 0, 1) := by decide +kernel
theorem dX5_look_168 : decode cX5_look 168 = .ok (.getfield 87, 3) := by decide +kernel
theorem dX5_look_171 : decode cX5_look 171 = .ok (.if_icmp .ne 8, 3) := by decide +kernel
theorem dX5_look_174 : decode cX5_look 174 = .ok (.aload_n 0, 1) := by decide +kernel
theorem dX5_look_175 : decode cX5_look 175 = .ok (.iload_n 1, 1) := by decide +kernel
theorem dX5_look_176 : decode cX5_look 176 = .ok (.invokevirtual 122, 3) := by decide +kernel
theorem dX5_look_179 : decode cX5_look 179 = .ok (.iconst 0, 1) := by decide +kernel
theorem dX5_look_180 : decode cX5_look 180 = .ok (.ireturn, 1) := by decide +kernel
theorem dX5_passDay_0 : decode cX5_passDay 0 = .ok (.iconst 0, 1) := by decide +kernel
theorem dX5_passDay_1 : decode cX5_passDay 1 = .ok (.istore_n 1, 1) := by decide +kernel
theorem dX5_passDay_2 : decode cX5_passDay 2 = .ok (.iload_n 1, 1) := by decide +kernel
theorem dX5_passDay_3 : decode cX5_passDay 3 = .ok (.aload_n 0, 1) := by decide +kernel
theorem dX5_passDay_4 : decode cX5_passDay 4 = .ok (.getfield 93, 3) := by decide +kernel
theorem dX5_passDay_7 : decode cX5_passDay 7 = .ok (.if_icmp .ge 25, 3) := by decide +kernel
theorem dX5_passDay_10 : decode cX5_passDay 10 = .ok (.aload_n 0, 1) := by decide +kernel
theorem dX5_passDay_11 : decode cX5_passDay 11 = .ok (.getfield 32, 3) := by decide +kernel
theorem dX5_passDay_14 : decode cX5_passDay 14 = .ok (.iload_n 1, 1) := by decide +kernel
theorem dX5_passDay_15 : decode cX5_passDay 15 = .ok (.iaload, 1) := by decide +kernel
theorem dX5_passDay_16 : decode cX5_passDay 16 = .ok (.iconst 1, 1) := by decide +kernel
theorem dX5_passDay_17 : decode cX5_passDay 17 = .ok (.if_icmp .ne 9, 3) := by decide +kernel
theorem dX5_passDay_20 : decode cX5_passDay 20 = .ok (.aload_n 0, 1) := by decide +kernel
theorem dX5_passDay_21 : decode cX5_passDay 21 = .ok (.iload_n 1, 1) := by decide +kernel
theorem dX5_passDay_22 : decode cX5_passDay 22 = .ok (.iconst 4, 1) := by decide +kernel
theorem dX5_passDay_23 : decode cX5_passDay 23 = .ok (.invokevirtual 113, 3) := by decide +kernel
theorem dX5_passDay_26 : decode cX5_passDay 26 = .ok (.iinc 1 1, 3) := by decide +kernel
theorem dX5_passDay_29 : decode cX5_passDay 29 = .ok (.goto (-27), 3) := by decide +kernel
theorem dX5_passDay_32 : decode cX5_passDay 32 = .ok (.aload_n 0, 1) := by decide +kernel
theorem dX5_passDay_33 : decode cX5_passDay 33 = .ok (.dup, 1) := by decide +kernel
theorem dX5_passDay_34 : decode cX5_passDay 34 = .ok (.getfield 87, 3) := by decide +kernel
theorem dX5_passDay_37 : decode cX5_passDay 37 = .ok (.iconst 1, 1) := by decide +kernel
theorem dX5_passDay_38 : decode cX5_passDay 38 = .ok (.iadd, 1) := by decide +kernel
theorem dX5_passDay_39 : decode cX5_passDay 39 = .ok (.putfield 87, 3) := by decide +kernel
theorem dX5_passDay_42 : decode cX5_passDay 42 = .ok (.iconst 0, 1) := by decide +kernel
theorem dX5_passDay_43 : decode cX5_passDay 43 = .ok (.istore_n 1, 1) := by decide +kernel
theorem dX5_passDay_44 : decode cX5_passDay 44 = .ok (.iconst 0, 1) := by decide +kernel
theorem dX5_passDay_45 : decode cX5_passDay 45 = .ok (.istore_n 2, 1) := by decide +kernel
theorem dX5_passDay_46 : decode cX5_passDay 46 = .ok (.iload_n 2, 1) := by decide +kernel
theorem dX5_passDay_47 : decode cX5_passDay 47 = .ok (.aload_n 0, 1) := by decide +kernel
theorem dX5_passDay_48 : decode cX5_passDay 48 = .ok (.getfield 93, 3) := by decide +kernel
theorem dX5_passDay_51 : decode cX5_passDay 51 = .ok (.if_icmp .ge 25, 3) := by decide +kernel
theorem dX5_passDay_54 : decode cX5_passDay 54 = .ok (.iload_n 1, 1) := by decide +kernel
theorem dX5_passDay_55 : decode cX5_passDay 55 = .ok (.aload_n 0, 1) := by decide +kernel
theorem dX5_passDay_56 : decode cX5_passDay 56 = .ok (.iload_n 2, 1) := by decide +kernel
theorem dX5_passDay_57 : decode cX5_passDay 57 = .ok (.invokevirtual 126, 3) := by decide +kernel
theorem dX5_passDay_60 : decode cX5_passDay 60 = .ok (.ifCond .eq 7, 3) := by decide +kernel
theorem dX5_passDay_63 : decode cX5_passDay 63 = .ok (.iconst 1, 1) := by decide +kernel
theorem dX5_passDay_64 : decode cX5_passDay 64 = .ok (.goto 4, 3) := by decide +kernel
theorem dX5_passDay_67 : decode cX5_passDay 67 = .ok (.iconst 0, 1) := by decide +kernel
theorem dX5_passDay_68 : decode cX5_passDay 68 = .ok (.iadd, 1) := by decide +kernel
theorem dX5_passDay_69 : decode cX5_passDay 69 = .ok (.istore_n 1, 1) := by decide +kernel
theorem dX5_passDay_70 : decode cX5_passDay 70 = .ok (.iinc 2 1, 3) := by decide +kernel
theorem dX5_passDay_73 : decode cX5_passDay 73 = .ok (.goto (-27), 3) := by decide +kernel
theorem dX5_passDay_76 : decode cX5_passDay 76 = .ok (.iload_n 1, 1) := by decide +kernel
theorem dX5_passDay_77 : decode cX5_passDay 77 = .ok (.ireturn, 1) := by decide +kernel
theorem dX5_pass_0 : decode cX5_pass 0 = .ok (.aload_n 0, 1) := by decide +kernel
theorem dX5_pass_1 : decode cX5_pass 1 = .ok (.iload_n 1, 1) := by decide +kernel
theorem dX5_pass_2 : decode cX5_pass 2 = .ok (.iconst 1, 1) := by decide +kernel
theorem dX5_pass_3 : decode cX5_pass 3 = .ok (.bipush 60, 2) := by decide +kernel
theorem dX5_pass_5 : decode cX5_pass 5 = .ok (.invokestatic 83, 3) := by decide +kernel
theorem dX5_pass_8 : decode cX5_pass 8 = .ok (.ifCond .eq 7, 3) := by decide +kernel
theorem dX5_pass_11 : decode cX5_pass 11 = .ok (.iconst 0, 1) := by decide +kernel
theorem dX5_pass_12 : decode cX5_pass 12 = .ok (.goto 4, 3) := by decide +kernel
theorem dX5_pass_15 : decode cX5_pass 15 = .ok (.iconst 1, 1) := by decide +kernel
theorem dX5_pass_16 : decode cX5_pass 16 = .ok (.putfield 70, 3) := by decide +kernel
theorem dX5_pass_19 : decode cX5_pass 19 = .ok (.iconst 0, 1) := by decide +kernel
theorem dX5_pass_20 : decode cX5_pass 20 = .ok (.istore_n 2, 1) := by decide +kernel
theorem dX5_pass_21 : decode cX5_pass 21 = .ok (.iconst 0, 1) := by decide +kernel
theorem dX5_pass_22 : decode cX5_pass 22 = .ok (.istore_n 3, 1) := by decide +kernel
theorem dX5_pass_23 : decode cX5_pass 23 = .ok (.iload_n 3, 1) := by decide +kernel
theorem dX5_pass_24 : decode cX5_pass 24 = .ok (.iload_n 1, 1) := by decide +kernel
theorem dX5_pass_25 : decode cX5_pass 25 = .ok (.if_icmp .ge 23, 3) := by decide +kernel
theorem dX5_pass_28 : decode cX5_pass 28 = .ok (.aload_n 0, 1) := by decide +kernel
theorem dX5_pass_29 : decode cX5_pass 29 = .ok (.getfield 70, 3) := by decide +kernel
theorem dX5_pass_32 : decode cX5_pass 32 = .ok (.ifCond .ne 16, 3) := by decide +kernel
theorem dX5_pass_35 : decode cX5_pass 35 = .ok (.iload_n 2, 1) := by decide +kernel
theorem dX5_pass_36 : decode cX5_pass 36 = .ok (.aload_n 0, 1) := by decide +kernel
theorem dX5_pass_37 : decode cX5_pass 37 = .ok (.invokevirtual 129, 3) := by decide +kernel
theorem dX5_pass_40 : decode cX5_pass 40 = .ok (.iadd, 1) := by decide +kernel
theorem dX5_pass_41 : decode cX5_pass 41 = .ok (.istore_n 2, 1) := by decide +kernel
theorem dX5_pass_42 : decode cX5_pass 42 = .ok (.iinc 3 1, 3) := by decide +kernel
theorem dX5_pass_45 : decode cX5_pass 45 = .ok (.goto (-22), 3) := by decide +kernel
theorem dX5_pass_48 : decode cX5_pass 48 = .ok (.iload_n 2, 1) := by decide +kernel
theorem dX5_pass_49 : decode cX5_pass 49 = .ok (.ireturn, 1) := by decide +kernel
theorem dX5_today_0 : decode cX5_today 0 = .ok (.aload_n 0, 1) := by decide +kernel
theorem dX5_today_1 : decode cX5_today 1 = .ok (.iconst 0, 1) := by decide +kernel
theorem dX5_today_2 : decode cX5_today 2 = .ok (.putfield 70, 3) := by decide +kernel
theorem dX5_today_5 : decode cX5_today 5 = .ok (.aload_n 0, 1) := by decide +kernel
theorem dX5_today_6 : decode cX5_today 6 = .ok (.getfield 87, 3) := by decide +kernel
theorem dX5_today_9 : decode cX5_today 9 = .ok (.ireturn, 1) := by decide +kernel
theorem dX5_isCharging_0 : decode cX5_isCharging 0 = .ok (.aload_n 0, 1) := by decide +kernel
theorem dX5_isCharging_1 : decode cX5_isCharging 1 = .ok (.iload_n 1, 1) := by decide +kernel
theorem dX5_isCharging_2 : decode cX5_isCharging 2 = .ok (.iconst 0, 1) := by decide +kernel
theorem dX5_isCharging_3 : decode cX5_isCharging 3 = .ok (.ldc 133, 2) := by decide +kernel
theorem dX5_isCharging_5 : decode cX5_isCharging 5 = .ok (.invokestatic 83, 3) := by decide +kernel
theorem dX5_isCharging_8 : decode cX5_isCharging 8 = .ok (.ifCond .eq 7, 3) := by decide +kernel
theorem dX5_isCharging_11 : decode cX5_isCharging 11 = .ok (.iconst 0, 1) := by decide +kernel
theorem dX5_isCharging_12 : decode cX5_isCharging 12 = .ok (.goto 4, 3) := by decide +kernel
theorem dX5_isCharging_15 : decode cX5_isCharging 15 = .ok (.iconst 1, 1) := by decide +kernel
theorem dX5_isCharging_16 : decode cX5_isCharging 16 = .ok (.putfield 70, 3) := by decide +kernel
theorem dX5_isCharging_19 : decode cX5_isCharging 19 = .ok (.aload_n 0, 1) := by decide +kernel
theorem dX5_isCharging_20 : decode cX5_isCharging 20 = .ok (.getfield 70, 3) := by decide +kernel
theorem dX5_isCharging_23 : decode cX5_isCharging 23 = .ok (.ifCond .ne 15, 3) := by decide +kernel
theorem dX5_isCharging_26 : decode cX5_isCharging 26 = .ok (.aload_n 0, 1) := by decide +kernel
theorem dX5_isCharging_27 : decode cX5_isCharging 27 = .ok (.iload_n 1, 1) := by decide +kernel
theorem dX5_isCharging_28 : decode cX5_isCharging 28 = .ok (.invokevirtual 80, 3) := by decide +kernel
theorem dX5_isCharging_31 : decode cX5_isCharging 31 = .ok (.ifCond .eq 7, 3) := by decide +kernel
theorem dX5_isCharging_34 : decode cX5_isCharging 34 = .ok (.iconst 1, 1) := by decide +kernel
theorem dX5_isCharging_35 : decode cX5_isCharging 35 = .ok (.goto 4, 3) := by decide +kernel
theorem dX5_isCharging_38 : decode cX5_isCharging 38 = .ok (.iconst 0, 1) := by decide +kernel
theorem dX5_isCharging_39 : decode cX5_isCharging 39 = .ok (.ireturn, 1) := by decide +kernel
theorem dX5_bills_0 : decode cX5_bills 0 = .ok (.aload_n 0, 1) := by decide +kernel
theorem dX5_bills_1 : decode cX5_bills 1 = .ok (.iconst 0, 1) := by decide +kernel
theorem dX5_bills_2 : decode cX5_bills 2 = .ok (.putfield 70, 3) := by decide +kernel
theorem dX5_bills_5 : decode cX5_bills 5 = .ok (.aload_n 0, 1) := by decide +kernel
theorem dX5_bills_6 : decode cX5_bills 6 = .ok (.getfield 93, 3) := by decide +kernel
theorem dX5_bills_9 : decode cX5_bills 9 = .ok (.ireturn, 1) := by decide +kernel
theorem dX5_stateOf_0 : decode cX5_stateOf 0 = .ok (.aload_n 0, 1) := by decide +kernel
theorem dX5_stateOf_1 : decode cX5_stateOf 1 = .ok (.iload_n 1, 1) := by decide +kernel
theorem dX5_stateOf_2 : decode cX5_stateOf 2 = .ok (.invokevirtual 107, 3) := by decide +kernel
theorem dX5_stateOf_5 : decode cX5_stateOf 5 = .ok (.ifCond .eq 12, 3) := by decide +kernel
theorem dX5_stateOf_8 : decode cX5_stateOf 8 = .ok (.aload_n 0, 1) := by decide +kernel
theorem dX5_stateOf_9 : decode cX5_stateOf 9 = .ok (.getfield 32, 3) := by decide +kernel
theorem dX5_stateOf_12 : decode cX5_stateOf 12 = .ok (.iload_n 1, 1) := by decide +kernel
theorem dX5_stateOf_13 : decode cX5_stateOf 13 = .ok (.iaload, 1) := by decide +kernel
theorem dX5_stateOf_14 : decode cX5_stateOf 14 = .ok (.goto 4, 3) := by decide +kernel
theorem dX5_stateOf_17 : decode cX5_stateOf 17 = .ok (.iconst 0, 1) := by decide +kernel
theorem dX5_stateOf_18 : decode cX5_stateOf 18 = .ok (.ireturn, 1) := by decide +kernel
theorem dX5_left_0 : decode cX5_left 0 = .ok (.aload_n 0, 1) := by decide +kernel
theorem dX5_left_1 : decode cX5_left 1 = .ok (.iload_n 1, 1) := by decide +kernel
theorem dX5_left_2 : decode cX5_left 2 = .ok (.invokevirtual 107, 3) := by decide +kernel
theorem dX5_left_5 : decode cX5_left 5 = .ok (.ifCond .eq 12, 3) := by decide +kernel
theorem dX5_left_8 : decode cX5_left 8 = .ok (.aload_n 0, 1) := by decide +kernel
theorem dX5_left_9 : decode cX5_left 9 = .ok (.getfield 29, 3) := by decide +kernel
theorem dX5_left_12 : decode cX5_left 12 = .ok (.iload_n 1, 1) := by decide +kernel
theorem dX5_left_13 : decode cX5_left 13 = .ok (.iaload, 1) := by decide +kernel
theorem dX5_left_14 : decode cX5_left 14 = .ok (.goto 4, 3) := by decide +kernel
theorem dX5_left_17 : decode cX5_left 17 = .ok (.iconst 0, 1) := by decide +kernel
theorem dX5_left_18 : decode cX5_left 18 = .ok (.ireturn, 1) := by decide +kernel
theorem dX5_tries_0 : decode cX5_tries 0 = .ok (.aload_n 0, 1) := by decide +kernel
theorem dX5_tries_1 : decode cX5_tries 1 = .ok (.iload_n 1, 1) := by decide +kernel
theorem dX5_tries_2 : decode cX5_tries 2 = .ok (.invokevirtual 107, 3) := by decide +kernel
theorem dX5_tries_5 : decode cX5_tries 5 = .ok (.ifCond .eq 12, 3) := by decide +kernel
theorem dX5_tries_8 : decode cX5_tries 8 = .ok (.aload_n 0, 1) := by decide +kernel
theorem dX5_tries_9 : decode cX5_tries 9 = .ok (.getfield 38, 3) := by decide +kernel
theorem dX5_tries_12 : decode cX5_tries 12 = .ok (.iload_n 1, 1) := by decide +kernel
theorem dX5_tries_13 : decode cX5_tries 13 = .ok (.iaload, 1) := by decide +kernel
theorem dX5_tries_14 : decode cX5_tries 14 = .ok (.goto 4, 3) := by decide +kernel
theorem dX5_tries_17 : decode cX5_tries 17 = .ok (.iconst 0, 1) := by decide +kernel
theorem dX5_tries_18 : decode cX5_tries 18 = .ok (.ireturn, 1) := by decide +kernel
theorem dX5_failures_0 : decode cX5_failures 0 = .ok (.aload_n 0, 1) := by decide +kernel
theorem dX5_failures_1 : decode cX5_failures 1 = .ok (.iload_n 1, 1) := by decide +kernel
theorem dX5_failures_2 : decode cX5_failures 2 = .ok (.iconst 0, 1) := by decide +kernel
theorem dX5_failures_3 : decode cX5_failures 3 = .ok (.aload_n 0, 1) := by decide +kernel
theorem dX5_failures_4 : decode cX5_failures 4 = .ok (.getfield 93, 3) := by decide +kernel
theorem dX5_failures_7 : decode cX5_failures 7 = .ok (.iconst 1, 1) := by decide +kernel
theorem dX5_failures_8 : decode cX5_failures 8 = .ok (.isub, 1) := by decide +kernel
theorem dX5_failures_9 : decode cX5_failures 9 = .ok (.invokestatic 83, 3) := by decide +kernel
theorem dX5_failures_12 : decode cX5_failures 12 = .ok (.ifCond .eq 16, 3) := by decide +kernel
theorem dX5_failures_15 : decode cX5_failures 15 = .ok (.iload_n 2, 1) := by decide +kernel
theorem dX5_failures_16 : decode cX5_failures 16 = .ok (.iconst 1, 1) := by decide +kernel
theorem dX5_failures_17 : decode cX5_failures 17 = .ok (.iconst 4, 1) := by decide +kernel
theorem dX5_failures_18 : decode cX5_failures 18 = .ok (.invokestatic 83, 3) := by decide +kernel
theorem dX5_failures_21 : decode cX5_failures 21 = .ok (.ifCond .eq 7, 3) := by decide +kernel
theorem dX5_failures_24 : decode cX5_failures 24 = .ok (.iconst 0, 1) := by decide +kernel
theorem dX5_failures_25 : decode cX5_failures 25 = .ok (.goto 4, 3) := by decide +kernel
theorem dX5_failures_28 : decode cX5_failures 28 = .ok (.iconst 1, 1) := by decide +kernel
theorem dX5_failures_29 : decode cX5_failures 29 = .ok (.putfield 70, 3) := by decide +kernel
theorem dX5_failures_32 : decode cX5_failures 32 = .ok (.aload_n 0, 1) := by decide +kernel
theorem dX5_failures_33 : decode cX5_failures 33 = .ok (.getfield 70, 3) := by decide +kernel
theorem dX5_failures_36 : decode cX5_failures 36 = .ok (.ifCond .ne 16, 3) := by decide +kernel
theorem dX5_failures_39 : decode cX5_failures 39 = .ok (.aload_n 0, 1) := by decide +kernel
theorem dX5_failures_40 : decode cX5_failures 40 = .ok (.getfield 41, 3) := by decide +kernel
theorem dX5_failures_43 : decode cX5_failures 43 = .ok (.iconst 5, 1) := by decide +kernel
theorem dX5_failures_44 : decode cX5_failures 44 = .ok (.iload_n 1, 1) := by decide +kernel
theorem dX5_failures_45 : decode cX5_failures 45 = .ok (.imul, 1) := by decide +kernel
theorem dX5_failures_46 : decode cX5_failures 46 = .ok (.iload_n 2, 1) := by decide +kernel
theorem dX5_failures_47 : decode cX5_failures 47 = .ok (.iadd, 1) := by decide +kernel
theorem dX5_failures_48 : decode cX5_failures 48 = .ok (.iaload, 1) := by decide +kernel
theorem dX5_failures_49 : decode cX5_failures 49 = .ok (.goto 4, 3) := by decide +kernel
theorem dX5_failures_52 : decode cX5_failures 52 = .ok (.iconst 0, 1) := by decide +kernel
theorem dX5_failures_53 : decode cX5_failures 53 = .ok (.ireturn, 1) := by decide +kernel
theorem dX5_waitsFor_0 : decode cX5_waitsFor 0 = .ok (.aload_n 0, 1) := by decide +kernel
theorem dX5_waitsFor_1 : decode cX5_waitsFor 1 = .ok (.iload_n 1, 1) := by decide +kernel
theorem dX5_waitsFor_2 : decode cX5_waitsFor 2 = .ok (.invokevirtual 107, 3) := by decide +kernel
theorem dX5_waitsFor_5 : decode cX5_waitsFor 5 = .ok (.ifCond .ne 5, 3) := by decide +kernel
theorem dX5_waitsFor_8 : decode cX5_waitsFor 8 = .ok (.iconst 0, 1) := by decide +kernel
theorem dX5_waitsFor_9 : decode cX5_waitsFor 9 = .ok (.ireturn, 1) := by decide +kernel
theorem dX5_waitsFor_10 : decode cX5_waitsFor 10 = .ok (.aload_n 0, 1) := by decide +kernel
theorem dX5_waitsFor_11 : decode cX5_waitsFor 11 = .ok (.getfield 32, 3) := by decide +kernel
theorem dX5_waitsFor_14 : decode cX5_waitsFor 14 = .ok (.iload_n 1, 1) := by decide +kernel
theorem dX5_waitsFor_15 : decode cX5_waitsFor 15 = .ok (.iaload, 1) := by decide +kernel
theorem dX5_waitsFor_16 : decode cX5_waitsFor 16 = .ok (.iconst 1, 1) := by decide +kernel
theorem dX5_waitsFor_17 : decode cX5_waitsFor 17 = .ok (.if_icmp .eq 24, 3) := by decide +kernel
theorem dX5_waitsFor_20 : decode cX5_waitsFor 20 = .ok (.aload_n 0, 1) := by decide +kernel
theorem dX5_waitsFor_21 : decode cX5_waitsFor 21 = .ok (.getfield 32, 3) := by decide +kernel
theorem dX5_waitsFor_24 : decode cX5_waitsFor 24 = .ok (.iload_n 1, 1) := by decide +kernel
theorem dX5_waitsFor_25 : decode cX5_waitsFor 25 = .ok (.iaload, 1) := by decide +kernel
theorem dX5_waitsFor_26 : decode cX5_waitsFor 26 = .ok (.iconst 5, 1) := by decide +kernel
theorem dX5_waitsFor_27 : decode cX5_waitsFor 27 = .ok (.if_icmp .eq 14, 3) := by decide +kernel
theorem dX5_waitsFor_30 : decode cX5_waitsFor 30 = .ok (.aload_n 0, 1) := by decide +kernel
theorem dX5_waitsFor_31 : decode cX5_waitsFor 31 = .ok (.getfield 32, 3) := by decide +kernel
theorem dX5_waitsFor_34 : decode cX5_waitsFor 34 = .ok (.iload_n 1, 1) := by decide +kernel
theorem dX5_waitsFor_35 : decode cX5_waitsFor 35 = .ok (.iaload, 1) := by decide +kernel
theorem dX5_waitsFor_36 : decode cX5_waitsFor 36 = .ok (.bipush 6, 2) := by decide +kernel
theorem dX5_waitsFor_38 : decode cX5_waitsFor 38 = .ok (.if_icmp .ne 7, 3) := by decide +kernel
theorem dX5_waitsFor_41 : decode cX5_waitsFor 41 = .ok (.iconst (-1), 1) := by decide +kernel
theorem dX5_waitsFor_42 : decode cX5_waitsFor 42 = .ok (.goto 9, 3) := by decide +kernel
theorem dX5_waitsFor_45 : decode cX5_waitsFor 45 = .ok (.aload_n 0, 1) := by decide +kernel
theorem dX5_waitsFor_46 : decode cX5_waitsFor 46 = .ok (.getfield 35, 3) := by decide +kernel
theorem dX5_waitsFor_49 : decode cX5_waitsFor 49 = .ok (.iload_n 1, 1) := by decide +kernel
theorem dX5_waitsFor_50 : decode cX5_waitsFor 50 = .ok (.iaload, 1) := by decide +kernel
theorem dX5_waitsFor_51 : decode cX5_waitsFor 51 = .ok (.ireturn, 1) := by decide +kernel
theorem dX5_broken_0 : decode cX5_broken 0 = .ok (.aload_n 0, 1) := by decide +kernel
theorem dX5_broken_1 : decode cX5_broken 1 = .ok (.iload_n 1, 1) := by decide +kernel
theorem dX5_broken_2 : decode cX5_broken 2 = .ok (.invokevirtual 107, 3) := by decide +kernel
theorem dX5_broken_5 : decode cX5_broken 5 = .ok (.ifCond .eq 12, 3) := by decide +kernel
theorem dX5_broken_8 : decode cX5_broken 8 = .ok (.aload_n 0, 1) := by decide +kernel
theorem dX5_broken_9 : decode cX5_broken 9 = .ok (.getfield 47, 3) := by decide +kernel
theorem dX5_broken_12 : decode cX5_broken 12 = .ok (.iload_n 1, 1) := by decide +kernel
theorem dX5_broken_13 : decode cX5_broken 13 = .ok (.iaload, 1) := by decide +kernel
theorem dX5_broken_14 : decode cX5_broken 14 = .ok (.goto 4, 3) := by decide +kernel
theorem dX5_broken_17 : decode cX5_broken 17 = .ok (.iconst 0, 1) := by decide +kernel
theorem dX5_broken_18 : decode cX5_broken 18 = .ok (.ireturn, 1) := by decide +kernel
theorem dX5_service_0 : decode cX5_service 0 = .ok (.aload_n 0, 1) := by decide +kernel
theorem dX5_service_1 : decode cX5_service 1 = .ok (.iload_n 1, 1) := by decide +kernel
theorem dX5_service_2 : decode cX5_service 2 = .ok (.iconst 0, 1) := by decide +kernel
theorem dX5_service_3 : decode cX5_service 3 = .ok (.bipush 7, 2) := by decide +kernel
theorem dX5_service_5 : decode cX5_service 5 = .ok (.invokestatic 83, 3) := by decide +kernel
theorem dX5_service_8 : decode cX5_service 8 = .ok (.ifCond .eq 7, 3) := by decide +kernel
theorem dX5_service_11 : decode cX5_service 11 = .ok (.iconst 0, 1) := by decide +kernel
theorem dX5_service_12 : decode cX5_service 12 = .ok (.goto 4, 3) := by decide +kernel
theorem dX5_service_15 : decode cX5_service 15 = .ok (.iconst 1, 1) := by decide +kernel
theorem dX5_service_16 : decode cX5_service 16 = .ok (.putfield 70, 3) := by decide +kernel
theorem dX5_service_19 : decode cX5_service 19 = .ok (.iconst 2, 1) := by decide +kernel
theorem dX5_service_20 : decode cX5_service 20 = .ok (.istore_n 2, 1) := by decide +kernel
theorem dX5_service_21 : decode cX5_service 21 = .ok (.iconst 0, 1) := by decide +kernel
theorem dX5_service_22 : decode cX5_service 22 = .ok (.istore_n 3, 1) := by decide +kernel
theorem dX5_service_23 : decode cX5_service 23 = .ok (.iload_n 3, 1) := by decide +kernel
theorem dX5_service_24 : decode cX5_service 24 = .ok (.aload_n 0, 1) := by decide +kernel
theorem dX5_service_25 : decode cX5_service 25 = .ok (.getfield 93, 3) := by decide +kernel
theorem dX5_service_28 : decode cX5_service 28 = .ok (.if_icmp .ge 123, 3) := by decide +kernel
theorem dX5_service_31 : decode cX5_service 31 = .ok (.aload_n 0, 1) := by decide +kernel
theorem dX5_service_32 : decode cX5_service 32 = .ok (.getfield 70, 3) := by decide +kernel
theorem dX5_service_35 : decode cX5_service 35 = .ok (.ifCond .ne 116, 3) := by decide +kernel
theorem dX5_service_38 : decode cX5_service 38 = .ok (.aload_n 0, 1) := by decide +kernel
theorem dX5_service_39 : decode cX5_service 39 = .ok (.getfield 23, 3) := by decide +kernel
theorem dX5_service_42 : decode cX5_service 42 = .ok (.iload_n 3, 1) := by decide +kernel
theorem dX5_service_43 : decode cX5_service 43 = .ok (.iaload, 1) := by decide +kernel
theorem dX5_service_44 : decode cX5_service 44 = .ok (.iload_n 1, 1) := by decide +kernel
theorem dX5_service_45 : decode cX5_service 45 = .ok (.if_icmp .ne 100, 3) := by decide +kernel
theorem dX5_service_48 : decode cX5_service 48 = .ok (.aload_n 0, 1) := by decide +kernel
theorem dX5_service_49 : decode cX5_service 49 = .ok (.getfield 32, 3) := by decide +kernel
theorem dX5_service_52 : decode cX5_service 52 = .ok (.iload_n 3, 1) := by decide +kernel
theorem dX5_service_53 : decode cX5_service 53 = .ok (.iaload, 1) := by decide +kernel
theorem dX5_service_54 : decode cX5_service 54 = .ok (.iconst 3, 1) := by decide +kernel
theorem dX5_service_55 : decode cX5_service 55 = .ok (.if_icmp .eq 13, 3) := by decide +kernel
theorem dX5_service_58 : decode cX5_service 58 = .ok (.aload_n 0, 1) := by decide +kernel
theorem dX5_service_59 : decode cX5_service 59 = .ok (.getfield 32, 3) := by decide +kernel
theorem dX5_service_62 : decode cX5_service 62 = .ok (.iload_n 3, 1) := by decide +kernel
theorem dX5_service_63 : decode cX5_service 63 = .ok (.iaload, 1) := by decide +kernel
theorem dX5_service_64 : decode cX5_service 64 = .ok (.iconst 5, 1) := by decide +kernel
theorem dX5_service_65 : decode cX5_service 65 = .ok (.if_icmp .ne 7, 3) := by decide +kernel
theorem dX5_service_68 : decode cX5_service 68 = .ok (.iconst 1, 1) := by decide +kernel
theorem dX5_service_69 : decode cX5_service 69 = .ok (.goto 4, 3) := by decide +kernel
theorem dX5_service_72 : decode cX5_service 72 = .ok (.iconst 0, 1) := by decide +kernel
theorem dX5_service_73 : decode cX5_service 73 = .ok (.istore 4, 2) := by decide +kernel
theorem dX5_service_75 : decode cX5_service 75 = .ok (.aload_n 0, 1) := by decide +kernel
theorem dX5_service_76 : decode cX5_service 76 = .ok (.getfield 32, 3) := by decide +kernel
theorem dX5_service_79 : decode cX5_service 79 = .ok (.iload_n 3, 1) := by decide +kernel
theorem dX5_service_80 : decode cX5_service 80 = .ok (.iaload, 1) := by decide +kernel
theorem dX5_service_81 : decode cX5_service 81 = .ok (.iconst 2, 1) := by decide +kernel
theorem dX5_service_82 : decode cX5_service 82 = .ok (.if_icmp .eq 22, 3) := by decide +kernel
theorem dX5_service_85 : decode cX5_service 85 = .ok (.aload_n 0, 1) := by decide +kernel
theorem dX5_service_86 : decode cX5_service 86 = .ok (.getfield 32, 3) := by decide +kernel
theorem dX5_service_89 : decode cX5_service 89 = .ok (.iload_n 3, 1) := by decide +kernel
theorem dX5_service_90 : decode cX5_service 90 = .ok (.iaload, 1) := by decide +kernel
theorem dX5_service_91 : decode cX5_service 91 = .ok (.iconst 4, 1) := by decide +kernel
theorem dX5_service_92 : decode cX5_service 92 = .ok (.if_icmp .ne 16, 3) := by decide +kernel
theorem dX5_service_95 : decode cX5_service 95 = .ok (.aload_n 0, 1) := by decide +kernel
theorem dX5_service_96 : decode cX5_service 96 = .ok (.getfield 50, 3) := by decide +kernel
theorem dX5_service_99 : decode cX5_service 99 = .ok (.iload_n 3, 1) := by decide +kernel
theorem dX5_service_100 : decode cX5_service 100 = .ok (.iaload, 1) := by decide +kernel
theorem dX5_service_101 : decode cX5_service 101 = .ok (.ifCond .eq 7, 3) := by decide +kernel
theorem dX5_service_104 : decode cX5_service 104 = .ok (.iconst 1, 1) := by decide +kernel
theorem dX5_service_105 : decode cX5_service 105 = .ok (.goto 4, 3) := by decide +kernel
theorem dX5_service_108 : decode cX5_service 108 = .ok (.iconst 0, 1) := by decide +kernel
theorem dX5_service_109 : decode cX5_service 109 = .ok (.istore 5, 2) := by decide +kernel
theorem dX5_service_111 : decode cX5_service 111 = .ok (.iload 4, 2) := by decide +kernel
theorem dX5_service_113 : decode cX5_service 113 = .ok (.ifCond .eq 7, 3) := by decide +kernel
theorem dX5_service_116 : decode cX5_service 116 = .ok (.iconst 0, 1) := by decide +kernel
theorem dX5_service_117 : decode cX5_service 117 = .ok (.goto 13, 3) := by decide +kernel
theorem dX5_service_120 : decode cX5_service 120 = .ok (.iload 5, 2) := by decide +kernel
theorem dX5_service_122 : decode cX5_service 122 = .ok (.ifCond .eq 7, 3) := by decide +kernel
theorem dX5_service_125 : decode cX5_service 125 = .ok (.iconst 1, 1) := by decide +kernel
theorem dX5_service_126 : decode cX5_service 126 = .ok (.goto 4, 3) := by decide +kernel
theorem dX5_service_129 : decode cX5_service 129 = .ok (.iconst 2, 1) := by decide +kernel
theorem dX5_service_130 : decode cX5_service 130 = .ok (.istore 6, 2) := by decide +kernel
theorem dX5_service_132 : decode cX5_service 132 = .ok (.iload 6, 2) := by decide +kernel
theorem dX5_service_134 : decode cX5_service 134 = .ok (.iload_n 2, 1) := by decide +kernel
theorem dX5_service_135 : decode cX5_service 135 = .ok (.if_icmp .ge 8, 3) := by decide +kernel
theorem dX5_service_138 : decode cX5_service 138 = .ok (.iload 6, 2) := by decide +kernel
theorem dX5_service_140 : decode cX5_service 140 = .ok (.goto 4, 3) := by decide +kernel
theorem dX5_service_143 : decode cX5_service 143 = .ok (.iload_n 2, 1) := by decide +kernel
theorem dX5_service_144 : decode cX5_service 144 = .ok (.istore_n 2, 1) := by decide +kernel
theorem dX5_service_145 : decode cX5_service 145 = .ok (.iinc 3 1, 3) := by decide +kernel
theorem dX5_service_148 : decode cX5_service 148 = .ok (.goto (-125), 3) := by decide +kernel
theorem dX5_service_151 : decode cX5_service 151 = .ok (.aload_n 0, 1) := by decide +kernel
theorem dX5_service_152 : decode cX5_service 152 = .ok (.getfield 70, 3) := by decide +kernel
theorem dX5_service_155 : decode cX5_service 155 = .ok (.ifCond .ne 7, 3) := by decide +kernel
theorem dX5_service_158 : decode cX5_service 158 = .ok (.iload_n 2, 1) := by decide +kernel
theorem dX5_service_159 : decode cX5_service 159 = .ok (.goto 4, 3) := by decide +kernel
theorem dX5_service_162 : decode cX5_service 162 = .ok (.iconst 0, 1) := by decide +kernel
theorem dX5_service_163 : decode cX5_service 163 = .ok (.ireturn, 1) := by decide +kernel
theorem dX5_billed_0 : decode cX5_billed 0 = .ok (.aload_n 0, 1) := by decide +kernel
theorem dX5_billed_1 : decode cX5_billed 1 = .ok (.iconst 0, 1) := by decide +kernel
theorem dX5_billed_2 : decode cX5_billed 2 = .ok (.putfield 70, 3) := by decide +kernel
theorem dX5_billed_5 : decode cX5_billed 5 = .ok (.iconst 0, 1) := by decide +kernel
theorem dX5_billed_6 : decode cX5_billed 6 = .ok (.istore_n 1, 1) := by decide +kernel
theorem dX5_billed_7 : decode cX5_billed 7 = .ok (.iconst 0, 1) := by decide +kernel
theorem dX5_billed_8 : decode cX5_billed 8 = .ok (.istore_n 2, 1) := by decide +kernel
theorem dX5_billed_9 : decode cX5_billed 9 = .ok (.iload_n 2, 1) := by decide +kernel
theorem dX5_billed_10 : decode cX5_billed 10 = .ok (.aload_n 0, 1) := by decide +kernel
theorem dX5_billed_11 : decode cX5_billed 11 = .ok (.getfield 93, 3) := by decide +kernel
theorem dX5_billed_14 : decode cX5_billed 14 = .ok (.if_icmp .ge 18, 3) := by decide +kernel
theorem dX5_billed_17 : decode cX5_billed 17 = .ok (.iload_n 1, 1) := by decide +kernel
theorem dX5_billed_18 : decode cX5_billed 18 = .ok (.aload_n 0, 1) := by decide +kernel
theorem dX5_billed_19 : decode cX5_billed 19 = .ok (.getfield 26, 3) := by decide +kernel
theorem dX5_billed_22 : decode cX5_billed 22 = .ok (.iload_n 2, 1) := by decide +kernel
theorem dX5_billed_23 : decode cX5_billed 23 = .ok (.iaload, 1) := by decide +kernel
theorem dX5_billed_24 : decode cX5_billed 24 = .ok (.iadd, 1) := by decide +kernel
theorem dX5_billed_25 : decode cX5_billed 25 = .ok (.istore_n 1, 1) := by decide +kernel
theorem dX5_billed_26 : decode cX5_billed 26 = .ok (.iinc 2 1, 3) := by decide +kernel
theorem dX5_billed_29 : decode cX5_billed 29 = .ok (.goto (-20), 3) := by decide +kernel
theorem dX5_billed_32 : decode cX5_billed 32 = .ok (.iload_n 1, 1) := by decide +kernel
theorem dX5_billed_33 : decode cX5_billed 33 = .ok (.ireturn, 1) := by decide +kernel
theorem dX5_paid_0 : decode cX5_paid 0 = .ok (.aload_n 0, 1) := by decide +kernel
theorem dX5_paid_1 : decode cX5_paid 1 = .ok (.iconst 0, 1) := by decide +kernel
theorem dX5_paid_2 : decode cX5_paid 2 = .ok (.putfield 70, 3) := by decide +kernel
theorem dX5_paid_5 : decode cX5_paid 5 = .ok (.aload_n 0, 1) := by decide +kernel
theorem dX5_paid_6 : decode cX5_paid 6 = .ok (.getfield 104, 3) := by decide +kernel
theorem dX5_paid_9 : decode cX5_paid 9 = .ok (.ireturn, 1) := by decide +kernel
theorem dX5_writtenOff_0 : decode cX5_writtenOff 0 = .ok (.aload_n 0, 1) := by decide +kernel
theorem dX5_writtenOff_1 : decode cX5_writtenOff 1 = .ok (.iconst 0, 1) := by decide +kernel
theorem dX5_writtenOff_2 : decode cX5_writtenOff 2 = .ok (.putfield 70, 3) := by decide +kernel
theorem dX5_writtenOff_5 : decode cX5_writtenOff 5 = .ok (.aload_n 0, 1) := by decide +kernel
theorem dX5_writtenOff_6 : decode cX5_writtenOff 6 = .ok (.getfield 119, 3) := by decide +kernel
theorem dX5_writtenOff_9 : decode cX5_writtenOff 9 = .ok (.ireturn, 1) := by decide +kernel
theorem dX5_broughtBack_0 : decode cX5_broughtBack 0 = .ok (.aload_n 0, 1) := by decide +kernel
theorem dX5_broughtBack_1 : decode cX5_broughtBack 1 = .ok (.iconst 0, 1) := by decide +kernel
theorem dX5_broughtBack_2 : decode cX5_broughtBack 2 = .ok (.putfield 70, 3) := by decide +kernel
theorem dX5_broughtBack_5 : decode cX5_broughtBack 5 = .ok (.aload_n 0, 1) := by decide +kernel
theorem dX5_broughtBack_6 : decode cX5_broughtBack 6 = .ok (.getfield 116, 3) := by decide +kernel
theorem dX5_broughtBack_9 : decode cX5_broughtBack 9 = .ok (.ireturn, 1) := by decide +kernel
theorem dX5_leftIn_0 : decode cX5_leftIn 0 = .ok (.aload_n 0, 1) := by decide +kernel
theorem dX5_leftIn_1 : decode cX5_leftIn 1 = .ok (.iload_n 1, 1) := by decide +kernel
theorem dX5_leftIn_2 : decode cX5_leftIn 2 = .ok (.iconst 0, 1) := by decide +kernel
theorem dX5_leftIn_3 : decode cX5_leftIn 3 = .ok (.bipush 7, 2) := by decide +kernel
theorem dX5_leftIn_5 : decode cX5_leftIn 5 = .ok (.invokestatic 83, 3) := by decide +kernel
theorem dX5_leftIn_8 : decode cX5_leftIn 8 = .ok (.ifCond .ne 7, 3) := by decide +kernel
theorem dX5_leftIn_11 : decode cX5_leftIn 11 = .ok (.iconst 1, 1) := by decide +kernel
theorem dX5_leftIn_12 : decode cX5_leftIn 12 = .ok (.goto 18, 3) := by decide +kernel
theorem dX5_leftIn_15 : decode cX5_leftIn 15 = .ok (.iload_n 2, 1) := by decide +kernel
theorem dX5_leftIn_16 : decode cX5_leftIn 16 = .ok (.iconst 0, 1) := by decide +kernel
theorem dX5_leftIn_17 : decode cX5_leftIn 17 = .ok (.bipush 6, 2) := by decide +kernel
theorem dX5_leftIn_19 : decode cX5_leftIn 19 = .ok (.invokestatic 83, 3) := by decide +kernel
theorem dX5_leftIn_22 : decode cX5_leftIn 22 = .ok (.ifCond .ne 7, 3) := by decide +kernel
theorem dX5_leftIn_25 : decode cX5_leftIn 25 = .ok (.iconst 2, 1) := by decide +kernel
theorem dX5_leftIn_26 : decode cX5_leftIn 26 = .ok (.goto 4, 3) := by decide +kernel
theorem dX5_leftIn_29 : decode cX5_leftIn 29 = .ok (.iconst 0, 1) := by decide +kernel
theorem dX5_leftIn_30 : decode cX5_leftIn 30 = .ok (.putfield 70, 3) := by decide +kernel
theorem dX5_leftIn_33 : decode cX5_leftIn 33 = .ok (.iconst 0, 1) := by decide +kernel
theorem dX5_leftIn_34 : decode cX5_leftIn 34 = .ok (.istore_n 3, 1) := by decide +kernel
theorem dX5_leftIn_35 : decode cX5_leftIn 35 = .ok (.iconst 0, 1) := by decide +kernel
theorem dX5_leftIn_36 : decode cX5_leftIn 36 = .ok (.istore 4, 2) := by decide +kernel
theorem dX5_leftIn_38 : decode cX5_leftIn 38 = .ok (.iload 4, 2) := by decide +kernel
theorem dX5_leftIn_40 : decode cX5_leftIn 40 = .ok (.aload_n 0, 1) := by decide +kernel
theorem dX5_leftIn_41 : decode cX5_leftIn 41 = .ok (.getfield 93, 3) := by decide +kernel
theorem dX5_leftIn_44 : decode cX5_leftIn 44 = .ok (.if_icmp .ge 52, 3) := by decide +kernel
theorem dX5_leftIn_47 : decode cX5_leftIn 47 = .ok (.aload_n 0, 1) := by decide +kernel
theorem dX5_leftIn_48 : decode cX5_leftIn 48 = .ok (.getfield 70, 3) := by decide +kernel
theorem dX5_leftIn_51 : decode cX5_leftIn 51 = .ok (.ifCond .ne 45, 3) := by decide +kernel
theorem dX5_leftIn_54 : decode cX5_leftIn 54 = .ok (.iload_n 3, 1) := by decide +kernel
theorem dX5_leftIn_55 : decode cX5_leftIn 55 = .ok (.aload_n 0, 1) := by decide +kernel
theorem dX5_leftIn_56 : decode cX5_leftIn 56 = .ok (.getfield 23, 3) := by decide +kernel
theorem dX5_leftIn_59 : decode cX5_leftIn 59 = .ok (.iload 4, 2) := by decide +kernel
theorem dX5_leftIn_61 : decode cX5_leftIn 61 = .ok (.iaload, 1) := by decide +kernel
theorem dX5_leftIn_62 : decode cX5_leftIn 62 = .ok (.iload_n 1, 1) := by decide +kernel
theorem dX5_leftIn_63 : decode cX5_leftIn 63 = .ok (.if_icmp .ne 24, 3) := by decide +kernel
theorem dX5_leftIn_66 : decode cX5_leftIn 66 = .ok (.aload_n 0, 1) := by decide +kernel
theorem dX5_leftIn_67 : decode cX5_leftIn 67 = .ok (.getfield 32, 3) := by decide +kernel
theorem dX5_leftIn_70 : decode cX5_leftIn 70 = .ok (.iload 4, 2) := by decide +kernel
theorem dX5_leftIn_72 : decode cX5_leftIn 72 = .ok (.iaload, 1) := by decide +kernel
theorem dX5_leftIn_73 : decode cX5_leftIn 73 = .ok (.iload_n 2, 1) := by decide +kernel
theorem dX5_leftIn_74 : decode cX5_leftIn 74 = .ok (.if_icmp .ne 13, 3) := by decide +kernel
theorem dX5_leftIn_77 : decode cX5_leftIn 77 = .ok (.aload_n 0, 1) := by decide +kernel
theorem dX5_leftIn_78 : decode cX5_leftIn 78 = .ok (.getfield 29, 3) := by decide +kernel
theorem dX5_leftIn_81 : decode cX5_leftIn 81 = .ok (.iload 4, 2) := by decide +kernel
theorem dX5_leftIn_83 : decode cX5_leftIn 83 = .ok (.iaload, 1) := by decide +kernel
theorem dX5_leftIn_84 : decode cX5_leftIn 84 = .ok (.goto 4, 3) := by decide +kernel
theorem dX5_leftIn_87 : decode cX5_leftIn 87 = .ok (.iconst 0, 1) := by decide +kernel
theorem dX5_leftIn_88 : decode cX5_leftIn 88 = .ok (.iadd, 1) := by decide +kernel
theorem dX5_leftIn_89 : decode cX5_leftIn 89 = .ok (.istore_n 3, 1) := by decide +kernel
theorem dX5_leftIn_90 : decode cX5_leftIn 90 = .ok (.iinc 4 1, 3) := by decide +kernel
theorem dX5_leftIn_93 : decode cX5_leftIn 93 = .ok (.goto (-55), 3) := by decide +kernel
theorem dX5_leftIn_96 : decode cX5_leftIn 96 = .ok (.iload_n 3, 1) := by decide +kernel
theorem dX5_leftIn_97 : decode cX5_leftIn 97 = .ok (.ireturn, 1) := by decide +kernel
theorem dX5_events_0 : decode cX5_events 0 = .ok (.aload_n 0, 1) := by decide +kernel
theorem dX5_events_1 : decode cX5_events 1 = .ok (.iconst 0, 1) := by decide +kernel
theorem dX5_events_2 : decode cX5_events 2 = .ok (.putfield 70, 3) := by decide +kernel
theorem dX5_events_5 : decode cX5_events 5 = .ok (.aload_n 0, 1) := by decide +kernel
theorem dX5_events_6 : decode cX5_events 6 = .ok (.getfield 90, 3) := by decide +kernel
theorem dX5_events_9 : decode cX5_events 9 = .ok (.ireturn, 1) := by decide +kernel
theorem dX5_event_0 : decode cX5_event 0 = .ok (.aload_n 0, 1) := by decide +kernel
theorem dX5_event_1 : decode cX5_event 1 = .ok (.iload_n 1, 1) := by decide +kernel
theorem dX5_event_2 : decode cX5_event 2 = .ok (.iconst 0, 1) := by decide +kernel
theorem dX5_event_3 : decode cX5_event 3 = .ok (.sipush 399, 3) := by decide +kernel
theorem dX5_event_6 : decode cX5_event 6 = .ok (.invokestatic 83, 3) := by decide +kernel
theorem dX5_event_9 : decode cX5_event 9 = .ok (.ifCond .eq 15, 3) := by decide +kernel
theorem dX5_event_12 : decode cX5_event 12 = .ok (.iload_n 1, 1) := by decide +kernel
theorem dX5_event_13 : decode cX5_event 13 = .ok (.aload_n 0, 1) := by decide +kernel
theorem dX5_event_14 : decode cX5_event 14 = .ok (.getfield 90, 3) := by decide +kernel
theorem dX5_event_17 : decode cX5_event 17 = .ok (.if_icmp .ge 7, 3) := by decide +kernel
theorem dX5_event_20 : decode cX5_event 20 = .ok (.iconst 0, 1) := by decide +kernel
theorem dX5_event_21 : decode cX5_event 21 = .ok (.goto 4, 3) := by decide +kernel
theorem dX5_event_24 : decode cX5_event 24 = .ok (.iconst 1, 1) := by decide +kernel
theorem dX5_event_25 : decode cX5_event 25 = .ok (.putfield 70, 3) := by decide +kernel
theorem dX5_event_28 : decode cX5_event 28 = .ok (.aload_n 0, 1) := by decide +kernel
theorem dX5_event_29 : decode cX5_event 29 = .ok (.getfield 70, 3) := by decide +kernel
theorem dX5_event_32 : decode cX5_event 32 = .ok (.ifCond .ne 23, 3) := by decide +kernel
theorem dX5_event_35 : decode cX5_event 35 = .ok (.aload_n 0, 1) := by decide +kernel
theorem dX5_event_36 : decode cX5_event 36 = .ok (.getfield 56, 3) := by decide +kernel
theorem dX5_event_39 : decode cX5_event 39 = .ok (.aload_n 0, 1) := by decide +kernel
theorem dX5_event_40 : decode cX5_event 40 = .ok (.getfield 90, 3) := by decide +kernel
theorem dX5_event_43 : decode cX5_event 43 = .ok (.iconst 1, 1) := by decide +kernel
theorem dX5_event_44 : decode cX5_event 44 = .ok (.isub, 1) := by decide +kernel
theorem dX5_event_45 : decode cX5_event 45 = .ok (.iload_n 1, 1) := by decide +kernel
theorem dX5_event_46 : decode cX5_event 46 = .ok (.isub, 1) := by decide +kernel
theorem dX5_event_47 : decode cX5_event 47 = .ok (.sipush 400, 3) := by decide +kernel
theorem dX5_event_50 : decode cX5_event 50 = .ok (.irem, 1) := by decide +kernel
theorem dX5_event_51 : decode cX5_event 51 = .ok (.iaload, 1) := by decide +kernel
theorem dX5_event_52 : decode cX5_event 52 = .ok (.goto 4, 3) := by decide +kernel
theorem dX5_event_55 : decode cX5_event 55 = .ok (.iconst 0, 1) := by decide +kernel
theorem dX5_event_56 : decode cX5_event 56 = .ok (.ireturn, 1) := by decide +kernel
theorem dX5_stateAt_0 : decode cX5_stateAt 0 = .ok (.aload_n 0, 1) := by decide +kernel
theorem dX5_stateAt_1 : decode cX5_stateAt 1 = .ok (.iload_n 1, 1) := by decide +kernel
theorem dX5_stateAt_2 : decode cX5_stateAt 2 = .ok (.invokevirtual 107, 3) := by decide +kernel
theorem dX5_stateAt_5 : decode cX5_stateAt 5 = .ok (.ifCond .ne 5, 3) := by decide +kernel
theorem dX5_stateAt_8 : decode cX5_stateAt 8 = .ok (.iconst 0, 1) := by decide +kernel
theorem dX5_stateAt_9 : decode cX5_stateAt 9 = .ok (.ireturn, 1) := by decide +kernel
theorem dX5_stateAt_10 : decode cX5_stateAt 10 = .ok (.aload_n 0, 1) := by decide +kernel
theorem dX5_stateAt_11 : decode cX5_stateAt 11 = .ok (.iload_n 2, 1) := by decide +kernel
theorem dX5_stateAt_12 : decode cX5_stateAt 12 = .ok (.iconst 0, 1) := by decide +kernel
theorem dX5_stateAt_13 : decode cX5_stateAt 13 = .ok (.aload_n 0, 1) := by decide +kernel
theorem dX5_stateAt_14 : decode cX5_stateAt 14 = .ok (.getfield 87, 3) := by decide +kernel
theorem dX5_stateAt_17 : decode cX5_stateAt 17 = .ok (.invokestatic 83, 3) := by decide +kernel
theorem dX5_stateAt_20 : decode cX5_stateAt 20 = .ok (.ifCond .eq 7, 3) := by decide +kernel
theorem dX5_stateAt_23 : decode cX5_stateAt 23 = .ok (.iconst 0, 1) := by decide +kernel
theorem dX5_stateAt_24 : decode cX5_stateAt 24 = .ok (.goto 4, 3) := by decide +kernel
theorem dX5_stateAt_27 : decode cX5_stateAt 27 = .ok (.iconst 2, 1) := by decide +kernel
theorem dX5_stateAt_28 : decode cX5_stateAt 28 = .ok (.putfield 70, 3) := by decide +kernel
theorem dX5_stateAt_31 : decode cX5_stateAt 31 = .ok (.iconst 0, 1) := by decide +kernel
theorem dX5_stateAt_32 : decode cX5_stateAt 32 = .ok (.istore_n 3, 1) := by decide +kernel
theorem dX5_stateAt_33 : decode cX5_stateAt 33 = .ok (.iload_n 3, 1) := by decide +kernel
theorem dX5_stateAt_34 : decode cX5_stateAt 34 = .ok (.sipush 400, 3) := by decide +kernel
theorem dX5_stateAt_37 : decode cX5_stateAt 37 = .ok (.if_icmp .ge 72, 3) := by decide +kernel
theorem dX5_stateAt_40 : decode cX5_stateAt 40 = .ok (.iload_n 3, 1) := by decide +kernel
theorem dX5_stateAt_41 : decode cX5_stateAt 41 = .ok (.aload_n 0, 1) := by decide +kernel
theorem dX5_stateAt_42 : decode cX5_stateAt 42 = .ok (.getfield 90, 3) := by decide +kernel
theorem dX5_stateAt_45 : decode cX5_stateAt 45 = .ok (.if_icmp .ge 64, 3) := by decide +kernel
theorem dX5_stateAt_48 : decode cX5_stateAt 48 = .ok (.aload_n 0, 1) := by decide +kernel
theorem dX5_stateAt_49 : decode cX5_stateAt 49 = .ok (.getfield 70, 3) := by decide +kernel
theorem dX5_stateAt_52 : decode cX5_stateAt 52 = .ok (.ifCond .ne 57, 3) := by decide +kernel
theorem dX5_stateAt_55 : decode cX5_stateAt 55 = .ok (.aload_n 0, 1) := by decide +kernel
theorem dX5_stateAt_56 : decode cX5_stateAt 56 = .ok (.getfield 56, 3) := by decide +kernel
theorem dX5_stateAt_59 : decode cX5_stateAt 59 = .ok (.aload_n 0, 1) := by decide +kernel
theorem dX5_stateAt_60 : decode cX5_stateAt 60 = .ok (.getfield 90, 3) := by decide +kernel
theorem dX5_stateAt_63 : decode cX5_stateAt 63 = .ok (.iconst 1, 1) := by decide +kernel
theorem dX5_stateAt_64 : decode cX5_stateAt 64 = .ok (.isub, 1) := by decide +kernel
theorem dX5_stateAt_65 : decode cX5_stateAt 65 = .ok (.iload_n 3, 1) := by decide +kernel
theorem dX5_stateAt_66 : decode cX5_stateAt 66 = .ok (.isub, 1) := by decide +kernel
theorem dX5_stateAt_67 : decode cX5_stateAt 67 = .ok (.sipush 400, 3) := by decide +kernel
theorem dX5_stateAt_70 : decode cX5_stateAt 70 = .ok (.irem, 1) := by decide +kernel
theorem dX5_stateAt_71 : decode cX5_stateAt 71 = .ok (.iaload, 1) := by decide +kernel
theorem dX5_stateAt_72 : decode cX5_stateAt 72 = .ok (.istore 4, 2) := by decide +kernel
theorem dX5_stateAt_74 : decode cX5_stateAt 74 = .ok (.iload 4, 2) := by decide +kernel
theorem dX5_stateAt_76 : decode cX5_stateAt 76 = .ok (.sipush 1000, 3) := by decide +kernel
theorem dX5_stateAt_79 : decode cX5_stateAt 79 = .ok (.idiv, 1) := by decide +kernel
theorem dX5_stateAt_80 : decode cX5_stateAt 80 = .ok (.iload_n 2, 1) := by decide +kernel
theorem dX5_stateAt_81 : decode cX5_stateAt 81 = .ok (.if_icmp .gt 22, 3) := by decide +kernel
theorem dX5_stateAt_84 : decode cX5_stateAt 84 = .ok (.iload 4, 2) := by decide +kernel
theorem dX5_stateAt_86 : decode cX5_stateAt 86 = .ok (.sipush 1000, 3) := by decide +kernel
theorem dX5_stateAt_89 : decode cX5_stateAt 89 = .ok (.irem, 1) := by decide +kernel
theorem dX5_stateAt_90 : decode cX5_stateAt 90 = .ok (.bipush 10, 2) := by decide +kernel
theorem dX5_stateAt_92 : decode cX5_stateAt 92 = .ok (.idiv, 1) := by decide +kernel
theorem dX5_stateAt_93 : decode cX5_stateAt 93 = .ok (.iload_n 1, 1) := by decide +kernel
theorem dX5_stateAt_94 : decode cX5_stateAt 94 = .ok (.if_icmp .ne 9, 3) := by decide +kernel
theorem dX5_stateAt_97 : decode cX5_stateAt 97 = .ok (.iload 4, 2) := by decide +kernel
theorem dX5_stateAt_99 : decode cX5_stateAt 99 = .ok (.bipush 10, 2) := by decide +kernel
theorem dX5_stateAt_101 : decode cX5_stateAt 101 = .ok (.irem, 1) := by decide +kernel
theorem dX5_stateAt_102 : decode cX5_stateAt 102 = .ok (.ireturn, 1) := by decide +kernel
theorem dX5_stateAt_103 : decode cX5_stateAt 103 = .ok (.iinc 3 1, 3) := by decide +kernel
theorem dX5_stateAt_106 : decode cX5_stateAt 106 = .ok (.goto (-73), 3) := by decide +kernel
theorem dX5_stateAt_109 : decode cX5_stateAt 109 = .ok (.aload_n 0, 1) := by decide +kernel
theorem dX5_stateAt_110 : decode cX5_stateAt 110 = .ok (.getfield 70, 3) := by decide +kernel
theorem dX5_stateAt_113 : decode cX5_stateAt 113 = .ok (.ifCond .ne 7, 3) := by decide +kernel
theorem dX5_stateAt_116 : decode cX5_stateAt 116 = .ok (.iconst (-1), 1) := by decide +kernel
theorem dX5_stateAt_117 : decode cX5_stateAt 117 = .ok (.goto 4, 3) := by decide +kernel
theorem dX5_stateAt_120 : decode cX5_stateAt 120 = .ok (.iconst 0, 1) := by decide +kernel
theorem dX5_stateAt_121 : decode cX5_stateAt 121 = .ok (.ireturn, 1) := by decide +kernel
theorem dJ6_bitCount_0f7a4_0 : decode cJ6_bitCount_0f7a4 0 = .ok (.iload_n 0, 1) := by decide +kernel
theorem dJ6_bitCount_0f7a4_1 : decode cJ6_bitCount_0f7a4 1 = .ok (.iload_n 0, 1) := by decide +kernel
theorem dJ6_bitCount_0f7a4_2 : decode cJ6_bitCount_0f7a4 2 = .ok (.iconst 1, 1) := by decide +kernel
theorem dJ6_bitCount_0f7a4_3 : decode cJ6_bitCount_0f7a4 3 = .ok (.iushr, 1) := by decide +kernel
theorem dJ6_bitCount_0f7a4_4 : decode cJ6_bitCount_0f7a4 4 = .ok (.ldc_w 265, 3) := by decide +kernel
theorem dJ6_bitCount_0f7a4_7 : decode cJ6_bitCount_0f7a4 7 = .ok (.iand, 1) := by decide +kernel
theorem dJ6_bitCount_0f7a4_8 : decode cJ6_bitCount_0f7a4 8 = .ok (.isub, 1) := by decide +kernel
theorem dJ6_bitCount_0f7a4_9 : decode cJ6_bitCount_0f7a4 9 = .ok (.istore_n 0, 1) := by decide +kernel
theorem dJ6_bitCount_0f7a4_10 : decode cJ6_bitCount_0f7a4 10 = .ok (.iload_n 0, 1) := by decide +kernel
theorem dJ6_bitCount_0f7a4_11 : decode cJ6_bitCount_0f7a4 11 = .ok (.ldc_w 266, 3) := by decide +kernel
theorem dJ6_bitCount_0f7a4_14 : decode cJ6_bitCount_0f7a4 14 = .ok (.iand, 1) := by decide +kernel
theorem dJ6_bitCount_0f7a4_15 : decode cJ6_bitCount_0f7a4 15 = .ok (.iload_n 0, 1) := by decide +kernel
theorem dJ6_bitCount_0f7a4_16 : decode cJ6_bitCount_0f7a4 16 = .ok (.iconst 2, 1) := by decide +kernel
theorem dJ6_bitCount_0f7a4_17 : decode cJ6_bitCount_0f7a4 17 = .ok (.iushr, 1) := by decide +kernel
theorem dJ6_bitCount_0f7a4_18 : decode cJ6_bitCount_0f7a4 18 = .ok (.ldc_w 266, 3) := by decide +kernel
theorem dJ6_bitCount_0f7a4_21 : decode cJ6_bitCount_0f7a4 21 = .ok (.iand, 1) := by decide +kernel
theorem dJ6_bitCount_0f7a4_22 : decode cJ6_bitCount_0f7a4 22 = .ok (.iadd, 1) := by decide +kernel
theorem dJ6_bitCount_0f7a4_23 : decode cJ6_bitCount_0f7a4 23 = .ok (.istore_n 0, 1) := by decide +kernel
theorem dJ6_bitCount_0f7a4_24 : decode cJ6_bitCount_0f7a4 24 = .ok (.iload_n 0, 1) := by decide +kernel
theorem dJ6_bitCount_0f7a4_25 : decode cJ6_bitCount_0f7a4 25 = .ok (.iload_n 0, 1) := by decide +kernel
theorem dJ6_bitCount_0f7a4_26 : decode cJ6_bitCount_0f7a4 26 = .ok (.iconst 4, 1) := by decide +kernel
theorem dJ6_bitCount_0f7a4_27 : decode cJ6_bitCount_0f7a4 27 = .ok (.iushr, 1) := by decide +kernel
theorem dJ6_bitCount_0f7a4_28 : decode cJ6_bitCount_0f7a4 28 = .ok (.iadd, 1) := by decide +kernel
theorem dJ6_bitCount_0f7a4_29 : decode cJ6_bitCount_0f7a4 29 = .ok (.ldc_w 267, 3) := by decide +kernel
theorem dJ6_bitCount_0f7a4_32 : decode cJ6_bitCount_0f7a4 32 = .ok (.iand, 1) := by decide +kernel
theorem dJ6_bitCount_0f7a4_33 : decode cJ6_bitCount_0f7a4 33 = .ok (.istore_n 0, 1) := by decide +kernel
theorem dJ6_bitCount_0f7a4_34 : decode cJ6_bitCount_0f7a4 34 = .ok (.iload_n 0, 1) := by decide +kernel
theorem dJ6_bitCount_0f7a4_35 : decode cJ6_bitCount_0f7a4 35 = .ok (.iload_n 0, 1) := by decide +kernel
theorem dJ6_bitCount_0f7a4_36 : decode cJ6_bitCount_0f7a4 36 = .ok (.bipush 8, 2) := by decide +kernel
theorem dJ6_bitCount_0f7a4_38 : decode cJ6_bitCount_0f7a4 38 = .ok (.iushr, 1) := by decide +kernel
theorem dJ6_bitCount_0f7a4_39 : decode cJ6_bitCount_0f7a4 39 = .ok (.iadd, 1) := by decide +kernel
theorem dJ6_bitCount_0f7a4_40 : decode cJ6_bitCount_0f7a4 40 = .ok (.istore_n 0, 1) := by decide +kernel
theorem dJ6_bitCount_0f7a4_41 : decode cJ6_bitCount_0f7a4 41 = .ok (.iload_n 0, 1) := by decide +kernel
theorem dJ6_bitCount_0f7a4_42 : decode cJ6_bitCount_0f7a4 42 = .ok (.iload_n 0, 1) := by decide +kernel
theorem dJ6_bitCount_0f7a4_43 : decode cJ6_bitCount_0f7a4 43 = .ok (.bipush 16, 2) := by decide +kernel
theorem dJ6_bitCount_0f7a4_45 : decode cJ6_bitCount_0f7a4 45 = .ok (.iushr, 1) := by decide +kernel
theorem dJ6_bitCount_0f7a4_46 : decode cJ6_bitCount_0f7a4 46 = .ok (.iadd, 1) := by decide +kernel
theorem dJ6_bitCount_0f7a4_47 : decode cJ6_bitCount_0f7a4 47 = .ok (.istore_n 0, 1) := by decide +kernel
theorem dJ6_bitCount_0f7a4_48 : decode cJ6_bitCount_0f7a4 48 = .ok (.iload_n 0, 1) := by decide +kernel
theorem dJ6_bitCount_0f7a4_49 : decode cJ6_bitCount_0f7a4 49 = .ok (.bipush 63, 2) := by decide +kernel
theorem dJ6_bitCount_0f7a4_51 : decode cJ6_bitCount_0f7a4 51 = .ok (.iand, 1) := by decide +kernel
theorem dJ6_bitCount_0f7a4_52 : decode cJ6_bitCount_0f7a4 52 = .ok (.ireturn, 1) := by decide +kernel
theorem dJ9_floorMod_7cf53_0 : decode cJ9_floorMod_7cf53 0 = .ok (.iload_n 0, 1) := by decide +kernel
theorem dJ9_floorMod_7cf53_1 : decode cJ9_floorMod_7cf53 1 = .ok (.iload_n 1, 1) := by decide +kernel
theorem dJ9_floorMod_7cf53_2 : decode cJ9_floorMod_7cf53 2 = .ok (.irem, 1) := by decide +kernel
theorem dJ9_floorMod_7cf53_3 : decode cJ9_floorMod_7cf53 3 = .ok (.istore_n 2, 1) := by decide +kernel
theorem dJ9_floorMod_7cf53_4 : decode cJ9_floorMod_7cf53 4 = .ok (.iload_n 0, 1) := by decide +kernel
theorem dJ9_floorMod_7cf53_5 : decode cJ9_floorMod_7cf53 5 = .ok (.iload_n 1, 1) := by decide +kernel
theorem dJ9_floorMod_7cf53_6 : decode cJ9_floorMod_7cf53 6 = .ok (.ixor, 1) := by decide +kernel
theorem dJ9_floorMod_7cf53_7 : decode cJ9_floorMod_7cf53 7 = .ok (.ifCond .ge 11, 3) := by decide +kernel
theorem dJ9_floorMod_7cf53_10 : decode cJ9_floorMod_7cf53 10 = .ok (.iload_n 2, 1) := by decide +kernel
theorem dJ9_floorMod_7cf53_11 : decode cJ9_floorMod_7cf53 11 = .ok (.ifCond .eq 7, 3) := by decide +kernel
theorem dJ9_floorMod_7cf53_14 : decode cJ9_floorMod_7cf53 14 = .ok (.iload_n 2, 1) := by decide +kernel
theorem dJ9_floorMod_7cf53_15 : decode cJ9_floorMod_7cf53 15 = .ok (.iload_n 1, 1) := by decide +kernel
theorem dJ9_floorMod_7cf53_16 : decode cJ9_floorMod_7cf53 16 = .ok (.iadd, 1) := by decide +kernel
theorem dJ9_floorMod_7cf53_17 : decode cJ9_floorMod_7cf53 17 = .ok (.ireturn, 1) := by decide +kernel
theorem dJ9_floorMod_7cf53_18 : decode cJ9_floorMod_7cf53 18 = .ok (.iload_n 2, 1) := by decide +kernel
theorem dJ9_floorMod_7cf53_19 : decode cJ9_floorMod_7cf53 19 = .ok (.ireturn, 1) := by decide +kernel
theorem dJ9_min_7cf53_0 : decode cJ9_min_7cf53 0 = .ok (.iload_n 0, 1) := by decide +kernel
theorem dJ9_min_7cf53_1 : decode cJ9_min_7cf53 1 = .ok (.iload_n 1, 1) := by decide +kernel
theorem dJ9_min_7cf53_2 : decode cJ9_min_7cf53 2 = .ok (.if_icmp .gt 7, 3) := by decide +kernel
theorem dJ9_min_7cf53_5 : decode cJ9_min_7cf53 5 = .ok (.iload_n 0, 1) := by decide +kernel
theorem dJ9_min_7cf53_6 : decode cJ9_min_7cf53 6 = .ok (.goto 4, 3) := by decide +kernel
theorem dJ9_min_7cf53_9 : decode cJ9_min_7cf53 9 = .ok (.iload_n 1, 1) := by decide +kernel
theorem dJ9_min_7cf53_10 : decode cJ9_min_7cf53 10 = .ok (.ireturn, 1) := by decide +kernel
theorem dL_setWeekday_0 : decode cL_setWeekday 0 = .ok (.aload_n 3, 1) := by decide +kernel
theorem dL_setWeekday_1 : decode cL_setWeekday 1 = .ok (.iconst 0, 1) := by decide +kernel
theorem dL_setWeekday_2 : decode cL_setWeekday 2 = .ok (.aload_n 0, 1) := by decide +kernel
theorem dL_setWeekday_3 : decode cL_setWeekday 3 = .ok (.iload_n 1, 1) := by decide +kernel
theorem dL_setWeekday_4 : decode cL_setWeekday 4 = .ok (.iload_n 2, 1) := by decide +kernel
theorem dL_setWeekday_5 : decode cL_setWeekday 5 = .ok (.invokevirtual 7, 3) := by decide +kernel
theorem dL_setWeekday_8 : decode cL_setWeekday 8 = .ok (.i2l, 1) := by decide +kernel
theorem dL_setWeekday_9 : decode cL_setWeekday 9 = .ok (.lastore, 1) := by decide +kernel
theorem dL_setWeekday_10 : decode cL_setWeekday 10 = .ok (.goto 11, 3) := by decide +kernel
theorem dL_setWeekday_13 : decode cL_setWeekday 13 = .ok (.astore 4, 2) := by decide +kernel
theorem dL_setWeekday_15 : decode cL_setWeekday 15 = .ok (.iconst 1, 1) := by decide +kernel
theorem dL_setWeekday_16 : decode cL_setWeekday 16 = .ok (.ireturn, 1) := by decide +kernel
theorem dL_setWeekday_17 : decode cL_setWeekday 17 = .ok (.astore 4, 2) := by decide +kernel
theorem dL_setWeekday_19 : decode cL_setWeekday 19 = .ok (.iconst 2, 1) := by decide +kernel
theorem dL_setWeekday_20 : decode cL_setWeekday 20 = .ok (.ireturn, 1) := by decide +kernel
theorem dL_setWeekday_21 : decode cL_setWeekday 21 = .ok (.iconst 0, 1) := by decide +kernel
theorem dL_setWeekday_22 : decode cL_setWeekday 22 = .ok (.ireturn, 1) := by decide +kernel
theorem dL_addHoliday_0 : decode cL_addHoliday 0 = .ok (.aload_n 2, 1) := by decide +kernel
theorem dL_addHoliday_1 : decode cL_addHoliday 1 = .ok (.iconst 0, 1) := by decide +kernel
theorem dL_addHoliday_2 : decode cL_addHoliday 2 = .ok (.aload_n 0, 1) := by decide +kernel
theorem dL_addHoliday_3 : decode cL_addHoliday 3 = .ok (.iload_n 1, 1) := by decide +kernel
theorem dL_addHoliday_4 : decode cL_addHoliday 4 = .ok (.invokevirtual 17, 3) := by decide +kernel
theorem dL_addHoliday_7 : decode cL_addHoliday 7 = .ok (.ifCond .eq 7, 3) := by decide +kernel
theorem dL_addHoliday_10 : decode cL_addHoliday 10 = .ok (.lconst 1, 1) := by decide +kernel
theorem dL_addHoliday_11 : decode cL_addHoliday 11 = .ok (.goto 4, 3) := by decide +kernel
theorem dL_addHoliday_14 : decode cL_addHoliday 14 = .ok (.lconst 0, 1) := by decide +kernel
theorem dL_addHoliday_15 : decode cL_addHoliday 15 = .ok (.lastore, 1) := by decide +kernel
theorem dL_addHoliday_16 : decode cL_addHoliday 16 = .ok (.goto 6, 3) := by decide +kernel
theorem dL_addHoliday_19 : decode cL_addHoliday 19 = .ok (.astore_n 3, 1) := by decide +kernel
theorem dL_addHoliday_20 : decode cL_addHoliday 20 = .ok (.iconst 1, 1) := by decide +kernel
theorem dL_addHoliday_21 : decode cL_addHoliday 21 = .ok (.ireturn, 1) := by decide +kernel
theorem dL_addHoliday_22 : decode cL_addHoliday 22 = .ok (.iconst 0, 1) := by decide +kernel
theorem dL_addHoliday_23 : decode cL_addHoliday 23 = .ok (.ireturn, 1) := by decide +kernel
theorem dL_addGap_0 : decode cL_addGap 0 = .ok (.aload_n 3, 1) := by decide +kernel
theorem dL_addGap_1 : decode cL_addGap 1 = .ok (.iconst 0, 1) := by decide +kernel
theorem dL_addGap_2 : decode cL_addGap 2 = .ok (.aload_n 0, 1) := by decide +kernel
theorem dL_addGap_3 : decode cL_addGap 3 = .ok (.iload_n 1, 1) := by decide +kernel
theorem dL_addGap_4 : decode cL_addGap 4 = .ok (.iload_n 2, 1) := by decide +kernel
theorem dL_addGap_5 : decode cL_addGap 5 = .ok (.invokevirtual 23, 3) := by decide +kernel
theorem dL_addGap_8 : decode cL_addGap 8 = .ok (.i2l, 1) := by decide +kernel
theorem dL_addGap_9 : decode cL_addGap 9 = .ok (.lastore, 1) := by decide +kernel
theorem dL_addGap_10 : decode cL_addGap 10 = .ok (.goto 15, 3) := by decide +kernel
theorem dL_addGap_13 : decode cL_addGap 13 = .ok (.astore 4, 2) := by decide +kernel
theorem dL_addGap_15 : decode cL_addGap 15 = .ok (.iconst 1, 1) := by decide +kernel
theorem dL_addGap_16 : decode cL_addGap 16 = .ok (.ireturn, 1) := by decide +kernel
theorem dL_addGap_17 : decode cL_addGap 17 = .ok (.astore 4, 2) := by decide +kernel
theorem dL_addGap_19 : decode cL_addGap 19 = .ok (.iconst 2, 1) := by decide +kernel
theorem dL_addGap_20 : decode cL_addGap 20 = .ok (.ireturn, 1) := by decide +kernel
theorem dL_addGap_21 : decode cL_addGap 21 = .ok (.astore 4, 2) := by decide +kernel
theorem dL_addGap_23 : decode cL_addGap 23 = .ok (.iconst 3, 1) := by decide +kernel
theorem dL_addGap_24 : decode cL_addGap 24 = .ok (.ireturn, 1) := by decide +kernel
theorem dL_addGap_25 : decode cL_addGap 25 = .ok (.iconst 0, 1) := by decide +kernel
theorem dL_addGap_26 : decode cL_addGap 26 = .ok (.ireturn, 1) := by decide +kernel
theorem dL_clearGaps_0 : decode cL_clearGaps 0 = .ok (.aload_n 2, 1) := by decide +kernel
theorem dL_clearGaps_1 : decode cL_clearGaps 1 = .ok (.iconst 0, 1) := by decide +kernel
theorem dL_clearGaps_2 : decode cL_clearGaps 2 = .ok (.aload_n 0, 1) := by decide +kernel
theorem dL_clearGaps_3 : decode cL_clearGaps 3 = .ok (.iload_n 1, 1) := by decide +kernel
theorem dL_clearGaps_4 : decode cL_clearGaps 4 = .ok (.invokevirtual 27, 3) := by decide +kernel
theorem dL_clearGaps_7 : decode cL_clearGaps 7 = .ok (.i2l, 1) := by decide +kernel
theorem dL_clearGaps_8 : decode cL_clearGaps 8 = .ok (.lastore, 1) := by decide +kernel
theorem dL_clearGaps_9 : decode cL_clearGaps 9 = .ok (.goto 6, 3) := by decide +kernel
theorem dL_clearGaps_12 : decode cL_clearGaps 12 = .ok (.astore_n 3, 1) := by decide +kernel
theorem dL_clearGaps_13 : decode cL_clearGaps 13 = .ok (.iconst 1, 1) := by decide +kernel
theorem dL_clearGaps_14 : decode cL_clearGaps 14 = .ok (.ireturn, 1) := by decide +kernel
theorem dL_clearGaps_15 : decode cL_clearGaps 15 = .ok (.iconst 0, 1) := by decide +kernel
theorem dL_clearGaps_16 : decode cL_clearGaps 16 = .ok (.ireturn, 1) := by decide +kernel
theorem dL_setTimes_0 : decode cL_setTimes 0 = .ok (.aload_n 3, 1) := by decide +kernel
theorem dL_setTimes_1 : decode cL_setTimes 1 = .ok (.iconst 0, 1) := by decide +kernel
theorem dL_setTimes_2 : decode cL_setTimes 2 = .ok (.aload_n 0, 1) := by decide +kernel
theorem dL_setTimes_3 : decode cL_setTimes 3 = .ok (.iload_n 1, 1) := by decide +kernel
theorem dL_setTimes_4 : decode cL_setTimes 4 = .ok (.iload_n 2, 1) := by decide +kernel
theorem dL_setTimes_5 : decode cL_setTimes 5 = .ok (.invokevirtual 31, 3) := by decide +kernel
theorem dL_setTimes_8 : decode cL_setTimes 8 = .ok (.i2l, 1) := by decide +kernel
theorem dL_setTimes_9 : decode cL_setTimes 9 = .ok (.lastore, 1) := by decide +kernel
theorem dL_setTimes_10 : decode cL_setTimes 10 = .ok (.goto 7, 3) := by decide +kernel
theorem dL_setTimes_13 : decode cL_setTimes 13 = .ok (.astore 4, 2) := by decide +kernel
theorem dL_setTimes_15 : decode cL_setTimes 15 = .ok (.iconst 1, 1) := by decide +kernel
theorem dL_setTimes_16 : decode cL_setTimes 16 = .ok (.ireturn, 1) := by decide +kernel
theorem dL_setTimes_17 : decode cL_setTimes 17 = .ok (.iconst 0, 1) := by decide +kernel
theorem dL_setTimes_18 : decode cL_setTimes 18 = .ok (.ireturn, 1) := by decide +kernel
theorem dL_bill_0 : decode cL_bill 0 = .ok (.aload_n 3, 1) := by decide +kernel
theorem dL_bill_1 : decode cL_bill 1 = .ok (.iconst 0, 1) := by decide +kernel
theorem dL_bill_2 : decode cL_bill 2 = .ok (.aload_n 0, 1) := by decide +kernel
theorem dL_bill_3 : decode cL_bill 3 = .ok (.iload_n 1, 1) := by decide +kernel
theorem dL_bill_4 : decode cL_bill 4 = .ok (.iload_n 2, 1) := by decide +kernel
theorem dL_bill_5 : decode cL_bill 5 = .ok (.invokevirtual 34, 3) := by decide +kernel
theorem dL_bill_8 : decode cL_bill 8 = .ok (.i2l, 1) := by decide +kernel
theorem dL_bill_9 : decode cL_bill 9 = .ok (.lastore, 1) := by decide +kernel
theorem dL_bill_10 : decode cL_bill 10 = .ok (.goto 15, 3) := by decide +kernel
theorem dL_bill_13 : decode cL_bill 13 = .ok (.astore 4, 2) := by decide +kernel
theorem dL_bill_15 : decode cL_bill 15 = .ok (.iconst 1, 1) := by decide +kernel
theorem dL_bill_16 : decode cL_bill 16 = .ok (.ireturn, 1) := by decide +kernel
theorem dL_bill_17 : decode cL_bill 17 = .ok (.astore 4, 2) := by decide +kernel
theorem dL_bill_19 : decode cL_bill 19 = .ok (.iconst 2, 1) := by decide +kernel
theorem dL_bill_20 : decode cL_bill 20 = .ok (.ireturn, 1) := by decide +kernel
theorem dL_bill_21 : decode cL_bill 21 = .ok (.astore 4, 2) := by decide +kernel
theorem dL_bill_23 : decode cL_bill 23 = .ok (.iconst 3, 1) := by decide +kernel
theorem dL_bill_24 : decode cL_bill 24 = .ok (.ireturn, 1) := by decide +kernel
theorem dL_bill_25 : decode cL_bill 25 = .ok (.iconst 0, 1) := by decide +kernel
theorem dL_bill_26 : decode cL_bill 26 = .ok (.ireturn, 1) := by decide +kernel
theorem dL_outcome_0 : decode cL_outcome 0 = .ok (.aload_n 3, 1) := by decide +kernel
theorem dL_outcome_1 : decode cL_outcome 1 = .ok (.iconst 0, 1) := by decide +kernel
theorem dL_outcome_2 : decode cL_outcome 2 = .ok (.aload_n 0, 1) := by decide +kernel
theorem dL_outcome_3 : decode cL_outcome 3 = .ok (.iload_n 1, 1) := by decide +kernel
theorem dL_outcome_4 : decode cL_outcome 4 = .ok (.iload_n 2, 1) := by decide +kernel
theorem dL_outcome_5 : decode cL_outcome 5 = .ok (.invokevirtual 37, 3) := by decide +kernel
theorem dL_outcome_8 : decode cL_outcome 8 = .ok (.i2l, 1) := by decide +kernel
theorem dL_outcome_9 : decode cL_outcome 9 = .ok (.lastore, 1) := by decide +kernel
theorem dL_outcome_10 : decode cL_outcome 10 = .ok (.goto 15, 3) := by decide +kernel
theorem dL_outcome_13 : decode cL_outcome 13 = .ok (.astore 4, 2) := by decide +kernel
theorem dL_outcome_15 : decode cL_outcome 15 = .ok (.iconst 1, 1) := by decide +kernel
theorem dL_outcome_16 : decode cL_outcome 16 = .ok (.ireturn, 1) := by decide +kernel
theorem dL_outcome_17 : decode cL_outcome 17 = .ok (.astore 4, 2) := by decide +kernel
theorem dL_outcome_19 : decode cL_outcome 19 = .ok (.iconst 2, 1) := by decide +kernel
theorem dL_outcome_20 : decode cL_outcome 20 = .ok (.ireturn, 1) := by decide +kernel
theorem dL_outcome_21 : decode cL_outcome 21 = .ok (.astore 4, 2) := by decide +kernel
theorem dL_outcome_23 : decode cL_outcome 23 = .ok (.iconst 3, 1) := by decide +kernel
theorem dL_outcome_24 : decode cL_outcome 24 = .ok (.ireturn, 1) := by decide +kernel
theorem dL_outcome_25 : decode cL_outcome 25 = .ok (.iconst 0, 1) := by decide +kernel
theorem dL_outcome_26 : decode cL_outcome 26 = .ok (.ireturn, 1) := by decide +kernel
theorem dL_pay_0 : decode cL_pay 0 = .ok (.aload_n 3, 1) := by decide +kernel
theorem dL_pay_1 : decode cL_pay 1 = .ok (.iconst 0, 1) := by decide +kernel
theorem dL_pay_2 : decode cL_pay 2 = .ok (.aload_n 0, 1) := by decide +kernel
theorem dL_pay_3 : decode cL_pay 3 = .ok (.iload_n 1, 1) := by decide +kernel
theorem dL_pay_4 : decode cL_pay 4 = .ok (.iload_n 2, 1) := by decide +kernel
theorem dL_pay_5 : decode cL_pay 5 = .ok (.invokevirtual 40, 3) := by decide +kernel
theorem dL_pay_8 : decode cL_pay 8 = .ok (.i2l, 1) := by decide +kernel
theorem dL_pay_9 : decode cL_pay 9 = .ok (.lastore, 1) := by decide +kernel
theorem dL_pay_10 : decode cL_pay 10 = .ok (.goto 15, 3) := by decide +kernel
theorem dL_pay_13 : decode cL_pay 13 = .ok (.astore 4, 2) := by decide +kernel
theorem dL_pay_15 : decode cL_pay 15 = .ok (.iconst 1, 1) := by decide +kernel
theorem dL_pay_16 : decode cL_pay 16 = .ok (.ireturn, 1) := by decide +kernel
theorem dL_pay_17 : decode cL_pay 17 = .ok (.astore 4, 2) := by decide +kernel
theorem dL_pay_19 : decode cL_pay 19 = .ok (.iconst 2, 1) := by decide +kernel
theorem dL_pay_20 : decode cL_pay 20 = .ok (.ireturn, 1) := by decide +kernel
theorem dL_pay_21 : decode cL_pay 21 = .ok (.astore 4, 2) := by decide +kernel
theorem dL_pay_23 : decode cL_pay 23 = .ok (.iconst 3, 1) := by decide +kernel
theorem dL_pay_24 : decode cL_pay 24 = .ok (.ireturn, 1) := by decide +kernel
theorem dL_pay_25 : decode cL_pay 25 = .ok (.iconst 0, 1) := by decide +kernel
theorem dL_pay_26 : decode cL_pay 26 = .ok (.ireturn, 1) := by decide +kernel
theorem dL_promise_0 : decode cL_promise 0 = .ok (.aload_n 3, 1) := by decide +kernel
theorem dL_promise_1 : decode cL_promise 1 = .ok (.iconst 0, 1) := by decide +kernel
theorem dL_promise_2 : decode cL_promise 2 = .ok (.aload_n 0, 1) := by decide +kernel
theorem dL_promise_3 : decode cL_promise 3 = .ok (.iload_n 1, 1) := by decide +kernel
theorem dL_promise_4 : decode cL_promise 4 = .ok (.iload_n 2, 1) := by decide +kernel
theorem dL_promise_5 : decode cL_promise 5 = .ok (.invokevirtual 43, 3) := by decide +kernel
theorem dL_promise_8 : decode cL_promise 8 = .ok (.i2l, 1) := by decide +kernel
theorem dL_promise_9 : decode cL_promise 9 = .ok (.lastore, 1) := by decide +kernel
theorem dL_promise_10 : decode cL_promise 10 = .ok (.goto 15, 3) := by decide +kernel
theorem dL_promise_13 : decode cL_promise 13 = .ok (.astore 4, 2) := by decide +kernel
theorem dL_promise_15 : decode cL_promise 15 = .ok (.iconst 1, 1) := by decide +kernel
theorem dL_promise_16 : decode cL_promise 16 = .ok (.ireturn, 1) := by decide +kernel
theorem dL_promise_17 : decode cL_promise 17 = .ok (.astore 4, 2) := by decide +kernel
theorem dL_promise_19 : decode cL_promise 19 = .ok (.iconst 2, 1) := by decide +kernel
theorem dL_promise_20 : decode cL_promise 20 = .ok (.ireturn, 1) := by decide +kernel
theorem dL_promise_21 : decode cL_promise 21 = .ok (.astore 4, 2) := by decide +kernel
theorem dL_promise_23 : decode cL_promise 23 = .ok (.iconst 3, 1) := by decide +kernel
theorem dL_promise_24 : decode cL_promise 24 = .ok (.ireturn, 1) := by decide +kernel
theorem dL_promise_25 : decode cL_promise 25 = .ok (.iconst 0, 1) := by decide +kernel
theorem dL_promise_26 : decode cL_promise 26 = .ok (.ireturn, 1) := by decide +kernel
theorem dL_pass_0 : decode cL_pass 0 = .ok (.aload_n 2, 1) := by decide +kernel
theorem dL_pass_1 : decode cL_pass 1 = .ok (.iconst 0, 1) := by decide +kernel
theorem dL_pass_2 : decode cL_pass 2 = .ok (.aload_n 0, 1) := by decide +kernel
theorem dL_pass_3 : decode cL_pass 3 = .ok (.iload_n 1, 1) := by decide +kernel
theorem dL_pass_4 : decode cL_pass 4 = .ok (.invokevirtual 46, 3) := by decide +kernel
theorem dL_pass_7 : decode cL_pass 7 = .ok (.i2l, 1) := by decide +kernel
theorem dL_pass_8 : decode cL_pass 8 = .ok (.lastore, 1) := by decide +kernel
theorem dL_pass_9 : decode cL_pass 9 = .ok (.goto 6, 3) := by decide +kernel
theorem dL_pass_12 : decode cL_pass 12 = .ok (.astore_n 3, 1) := by decide +kernel
theorem dL_pass_13 : decode cL_pass 13 = .ok (.iconst 1, 1) := by decide +kernel
theorem dL_pass_14 : decode cL_pass 14 = .ok (.ireturn, 1) := by decide +kernel
theorem dL_pass_15 : decode cL_pass 15 = .ok (.iconst 0, 1) := by decide +kernel
theorem dL_pass_16 : decode cL_pass 16 = .ok (.ireturn, 1) := by decide +kernel
theorem dL_isCharging_0 : decode cL_isCharging 0 = .ok (.aload_n 2, 1) := by decide +kernel
theorem dL_isCharging_1 : decode cL_isCharging 1 = .ok (.iconst 0, 1) := by decide +kernel
theorem dL_isCharging_2 : decode cL_isCharging 2 = .ok (.aload_n 0, 1) := by decide +kernel
theorem dL_isCharging_3 : decode cL_isCharging 3 = .ok (.iload_n 1, 1) := by decide +kernel
theorem dL_isCharging_4 : decode cL_isCharging 4 = .ok (.invokevirtual 49, 3) := by decide +kernel
theorem dL_isCharging_7 : decode cL_isCharging 7 = .ok (.ifCond .eq 7, 3) := by decide +kernel
theorem dL_isCharging_10 : decode cL_isCharging 10 = .ok (.lconst 1, 1) := by decide +kernel
theorem dL_isCharging_11 : decode cL_isCharging 11 = .ok (.goto 4, 3) := by decide +kernel
theorem dL_isCharging_14 : decode cL_isCharging 14 = .ok (.lconst 0, 1) := by decide +kernel
theorem dL_isCharging_15 : decode cL_isCharging 15 = .ok (.lastore, 1) := by decide +kernel
theorem dL_isCharging_16 : decode cL_isCharging 16 = .ok (.goto 6, 3) := by decide +kernel
theorem dL_isCharging_19 : decode cL_isCharging 19 = .ok (.astore_n 3, 1) := by decide +kernel
theorem dL_isCharging_20 : decode cL_isCharging 20 = .ok (.iconst 1, 1) := by decide +kernel
theorem dL_isCharging_21 : decode cL_isCharging 21 = .ok (.ireturn, 1) := by decide +kernel
theorem dL_isCharging_22 : decode cL_isCharging 22 = .ok (.iconst 0, 1) := by decide +kernel
theorem dL_isCharging_23 : decode cL_isCharging 23 = .ok (.ireturn, 1) := by decide +kernel
theorem dL_stateOf_0 : decode cL_stateOf 0 = .ok (.aload_n 2, 1) := by decide +kernel
theorem dL_stateOf_1 : decode cL_stateOf 1 = .ok (.iconst 0, 1) := by decide +kernel
theorem dL_stateOf_2 : decode cL_stateOf 2 = .ok (.aload_n 0, 1) := by decide +kernel
theorem dL_stateOf_3 : decode cL_stateOf 3 = .ok (.iload_n 1, 1) := by decide +kernel
theorem dL_stateOf_4 : decode cL_stateOf 4 = .ok (.invokevirtual 52, 3) := by decide +kernel
theorem dL_stateOf_7 : decode cL_stateOf 7 = .ok (.i2l, 1) := by decide +kernel
theorem dL_stateOf_8 : decode cL_stateOf 8 = .ok (.lastore, 1) := by decide +kernel
theorem dL_stateOf_9 : decode cL_stateOf 9 = .ok (.goto 6, 3) := by decide +kernel
theorem dL_stateOf_12 : decode cL_stateOf 12 = .ok (.astore_n 3, 1) := by decide +kernel
theorem dL_stateOf_13 : decode cL_stateOf 13 = .ok (.iconst 1, 1) := by decide +kernel
theorem dL_stateOf_14 : decode cL_stateOf 14 = .ok (.ireturn, 1) := by decide +kernel
theorem dL_stateOf_15 : decode cL_stateOf 15 = .ok (.iconst 0, 1) := by decide +kernel
theorem dL_stateOf_16 : decode cL_stateOf 16 = .ok (.ireturn, 1) := by decide +kernel
theorem dL_left_0 : decode cL_left 0 = .ok (.aload_n 2, 1) := by decide +kernel
theorem dL_left_1 : decode cL_left 1 = .ok (.iconst 0, 1) := by decide +kernel
theorem dL_left_2 : decode cL_left 2 = .ok (.aload_n 0, 1) := by decide +kernel
theorem dL_left_3 : decode cL_left 3 = .ok (.iload_n 1, 1) := by decide +kernel
theorem dL_left_4 : decode cL_left 4 = .ok (.invokevirtual 55, 3) := by decide +kernel
theorem dL_left_7 : decode cL_left 7 = .ok (.i2l, 1) := by decide +kernel
theorem dL_left_8 : decode cL_left 8 = .ok (.lastore, 1) := by decide +kernel
theorem dL_left_9 : decode cL_left 9 = .ok (.goto 6, 3) := by decide +kernel
theorem dL_left_12 : decode cL_left 12 = .ok (.astore_n 3, 1) := by decide +kernel
theorem dL_left_13 : decode cL_left 13 = .ok (.iconst 1, 1) := by decide +kernel
theorem dL_left_14 : decode cL_left 14 = .ok (.ireturn, 1) := by decide +kernel
theorem dL_left_15 : decode cL_left 15 = .ok (.iconst 0, 1) := by decide +kernel
theorem dL_left_16 : decode cL_left 16 = .ok (.ireturn, 1) := by decide +kernel
theorem dL_tries_0 : decode cL_tries 0 = .ok (.aload_n 2, 1) := by decide +kernel
theorem dL_tries_1 : decode cL_tries 1 = .ok (.iconst 0, 1) := by decide +kernel
theorem dL_tries_2 : decode cL_tries 2 = .ok (.aload_n 0, 1) := by decide +kernel
theorem dL_tries_3 : decode cL_tries 3 = .ok (.iload_n 1, 1) := by decide +kernel
theorem dL_tries_4 : decode cL_tries 4 = .ok (.invokevirtual 58, 3) := by decide +kernel
theorem dL_tries_7 : decode cL_tries 7 = .ok (.i2l, 1) := by decide +kernel
theorem dL_tries_8 : decode cL_tries 8 = .ok (.lastore, 1) := by decide +kernel
theorem dL_tries_9 : decode cL_tries 9 = .ok (.goto 6, 3) := by decide +kernel
theorem dL_tries_12 : decode cL_tries 12 = .ok (.astore_n 3, 1) := by decide +kernel
theorem dL_tries_13 : decode cL_tries 13 = .ok (.iconst 1, 1) := by decide +kernel
theorem dL_tries_14 : decode cL_tries 14 = .ok (.ireturn, 1) := by decide +kernel
theorem dL_tries_15 : decode cL_tries 15 = .ok (.iconst 0, 1) := by decide +kernel
theorem dL_tries_16 : decode cL_tries 16 = .ok (.ireturn, 1) := by decide +kernel
theorem dL_failures_0 : decode cL_failures 0 = .ok (.aload_n 3, 1) := by decide +kernel
theorem dL_failures_1 : decode cL_failures 1 = .ok (.iconst 0, 1) := by decide +kernel
theorem dL_failures_2 : decode cL_failures 2 = .ok (.aload_n 0, 1) := by decide +kernel
theorem dL_failures_3 : decode cL_failures 3 = .ok (.iload_n 1, 1) := by decide +kernel
theorem dL_failures_4 : decode cL_failures 4 = .ok (.iload_n 2, 1) := by decide +kernel
theorem dL_failures_5 : decode cL_failures 5 = .ok (.invokevirtual 61, 3) := by decide +kernel
theorem dL_failures_8 : decode cL_failures 8 = .ok (.i2l, 1) := by decide +kernel
theorem dL_failures_9 : decode cL_failures 9 = .ok (.lastore, 1) := by decide +kernel
theorem dL_failures_10 : decode cL_failures 10 = .ok (.goto 7, 3) := by decide +kernel
theorem dL_failures_13 : decode cL_failures 13 = .ok (.astore 4, 2) := by decide +kernel
theorem dL_failures_15 : decode cL_failures 15 = .ok (.iconst 1, 1) := by decide +kernel
theorem dL_failures_16 : decode cL_failures 16 = .ok (.ireturn, 1) := by decide +kernel
theorem dL_failures_17 : decode cL_failures 17 = .ok (.iconst 0, 1) := by decide +kernel
theorem dL_failures_18 : decode cL_failures 18 = .ok (.ireturn, 1) := by decide +kernel
theorem dL_waitsFor_0 : decode cL_waitsFor 0 = .ok (.aload_n 2, 1) := by decide +kernel
theorem dL_waitsFor_1 : decode cL_waitsFor 1 = .ok (.iconst 0, 1) := by decide +kernel
theorem dL_waitsFor_2 : decode cL_waitsFor 2 = .ok (.aload_n 0, 1) := by decide +kernel
theorem dL_waitsFor_3 : decode cL_waitsFor 3 = .ok (.iload_n 1, 1) := by decide +kernel
theorem dL_waitsFor_4 : decode cL_waitsFor 4 = .ok (.invokevirtual 64, 3) := by decide +kernel
theorem dL_waitsFor_7 : decode cL_waitsFor 7 = .ok (.i2l, 1) := by decide +kernel
theorem dL_waitsFor_8 : decode cL_waitsFor 8 = .ok (.lastore, 1) := by decide +kernel
theorem dL_waitsFor_9 : decode cL_waitsFor 9 = .ok (.goto 6, 3) := by decide +kernel
theorem dL_waitsFor_12 : decode cL_waitsFor 12 = .ok (.astore_n 3, 1) := by decide +kernel
theorem dL_waitsFor_13 : decode cL_waitsFor 13 = .ok (.iconst 1, 1) := by decide +kernel
theorem dL_waitsFor_14 : decode cL_waitsFor 14 = .ok (.ireturn, 1) := by decide +kernel
theorem dL_waitsFor_15 : decode cL_waitsFor 15 = .ok (.iconst 0, 1) := by decide +kernel
theorem dL_waitsFor_16 : decode cL_waitsFor 16 = .ok (.ireturn, 1) := by decide +kernel
theorem dL_broken_0 : decode cL_broken 0 = .ok (.aload_n 2, 1) := by decide +kernel
theorem dL_broken_1 : decode cL_broken 1 = .ok (.iconst 0, 1) := by decide +kernel
theorem dL_broken_2 : decode cL_broken 2 = .ok (.aload_n 0, 1) := by decide +kernel
theorem dL_broken_3 : decode cL_broken 3 = .ok (.iload_n 1, 1) := by decide +kernel
theorem dL_broken_4 : decode cL_broken 4 = .ok (.invokevirtual 67, 3) := by decide +kernel
theorem dL_broken_7 : decode cL_broken 7 = .ok (.i2l, 1) := by decide +kernel
theorem dL_broken_8 : decode cL_broken 8 = .ok (.lastore, 1) := by decide +kernel
theorem dL_broken_9 : decode cL_broken 9 = .ok (.goto 6, 3) := by decide +kernel
theorem dL_broken_12 : decode cL_broken 12 = .ok (.astore_n 3, 1) := by decide +kernel
theorem dL_broken_13 : decode cL_broken 13 = .ok (.iconst 1, 1) := by decide +kernel
theorem dL_broken_14 : decode cL_broken 14 = .ok (.ireturn, 1) := by decide +kernel
theorem dL_broken_15 : decode cL_broken 15 = .ok (.iconst 0, 1) := by decide +kernel
theorem dL_broken_16 : decode cL_broken 16 = .ok (.ireturn, 1) := by decide +kernel
theorem dL_service_0 : decode cL_service 0 = .ok (.aload_n 2, 1) := by decide +kernel
theorem dL_service_1 : decode cL_service 1 = .ok (.iconst 0, 1) := by decide +kernel
theorem dL_service_2 : decode cL_service 2 = .ok (.aload_n 0, 1) := by decide +kernel
theorem dL_service_3 : decode cL_service 3 = .ok (.iload_n 1, 1) := by decide +kernel
theorem dL_service_4 : decode cL_service 4 = .ok (.invokevirtual 70, 3) := by decide +kernel
theorem dL_service_7 : decode cL_service 7 = .ok (.i2l, 1) := by decide +kernel
theorem dL_service_8 : decode cL_service 8 = .ok (.lastore, 1) := by decide +kernel
theorem dL_service_9 : decode cL_service 9 = .ok (.goto 6, 3) := by decide +kernel
theorem dL_service_12 : decode cL_service 12 = .ok (.astore_n 3, 1) := by decide +kernel
theorem dL_service_13 : decode cL_service 13 = .ok (.iconst 1, 1) := by decide +kernel
theorem dL_service_14 : decode cL_service 14 = .ok (.ireturn, 1) := by decide +kernel
theorem dL_service_15 : decode cL_service 15 = .ok (.iconst 0, 1) := by decide +kernel
theorem dL_service_16 : decode cL_service 16 = .ok (.ireturn, 1) := by decide +kernel
theorem dL_leftIn_0 : decode cL_leftIn 0 = .ok (.aload_n 3, 1) := by decide +kernel
theorem dL_leftIn_1 : decode cL_leftIn 1 = .ok (.iconst 0, 1) := by decide +kernel
theorem dL_leftIn_2 : decode cL_leftIn 2 = .ok (.aload_n 0, 1) := by decide +kernel
theorem dL_leftIn_3 : decode cL_leftIn 3 = .ok (.iload_n 1, 1) := by decide +kernel
theorem dL_leftIn_4 : decode cL_leftIn 4 = .ok (.iload_n 2, 1) := by decide +kernel
theorem dL_leftIn_5 : decode cL_leftIn 5 = .ok (.invokevirtual 73, 3) := by decide +kernel
theorem dL_leftIn_8 : decode cL_leftIn 8 = .ok (.i2l, 1) := by decide +kernel
theorem dL_leftIn_9 : decode cL_leftIn 9 = .ok (.lastore, 1) := by decide +kernel
theorem dL_leftIn_10 : decode cL_leftIn 10 = .ok (.goto 11, 3) := by decide +kernel
theorem dL_leftIn_13 : decode cL_leftIn 13 = .ok (.astore 4, 2) := by decide +kernel
theorem dL_leftIn_15 : decode cL_leftIn 15 = .ok (.iconst 1, 1) := by decide +kernel
theorem dL_leftIn_16 : decode cL_leftIn 16 = .ok (.ireturn, 1) := by decide +kernel
theorem dL_leftIn_17 : decode cL_leftIn 17 = .ok (.astore 4, 2) := by decide +kernel
theorem dL_leftIn_19 : decode cL_leftIn 19 = .ok (.iconst 2, 1) := by decide +kernel
theorem dL_leftIn_20 : decode cL_leftIn 20 = .ok (.ireturn, 1) := by decide +kernel
theorem dL_leftIn_21 : decode cL_leftIn 21 = .ok (.iconst 0, 1) := by decide +kernel
theorem dL_leftIn_22 : decode cL_leftIn 22 = .ok (.ireturn, 1) := by decide +kernel
theorem dL_event_0 : decode cL_event 0 = .ok (.aload_n 2, 1) := by decide +kernel
theorem dL_event_1 : decode cL_event 1 = .ok (.iconst 0, 1) := by decide +kernel
theorem dL_event_2 : decode cL_event 2 = .ok (.aload_n 0, 1) := by decide +kernel
theorem dL_event_3 : decode cL_event 3 = .ok (.iload_n 1, 1) := by decide +kernel
theorem dL_event_4 : decode cL_event 4 = .ok (.invokevirtual 76, 3) := by decide +kernel
theorem dL_event_7 : decode cL_event 7 = .ok (.i2l, 1) := by decide +kernel
theorem dL_event_8 : decode cL_event 8 = .ok (.lastore, 1) := by decide +kernel
theorem dL_event_9 : decode cL_event 9 = .ok (.goto 6, 3) := by decide +kernel
theorem dL_event_12 : decode cL_event 12 = .ok (.astore_n 3, 1) := by decide +kernel
theorem dL_event_13 : decode cL_event 13 = .ok (.iconst 1, 1) := by decide +kernel
theorem dL_event_14 : decode cL_event 14 = .ok (.ireturn, 1) := by decide +kernel
theorem dL_event_15 : decode cL_event 15 = .ok (.iconst 0, 1) := by decide +kernel
theorem dL_event_16 : decode cL_event 16 = .ok (.ireturn, 1) := by decide +kernel
theorem dL_stateAt_0 : decode cL_stateAt 0 = .ok (.aload_n 3, 1) := by decide +kernel
theorem dL_stateAt_1 : decode cL_stateAt 1 = .ok (.iconst 0, 1) := by decide +kernel
theorem dL_stateAt_2 : decode cL_stateAt 2 = .ok (.aload_n 0, 1) := by decide +kernel
theorem dL_stateAt_3 : decode cL_stateAt 3 = .ok (.iload_n 1, 1) := by decide +kernel
theorem dL_stateAt_4 : decode cL_stateAt 4 = .ok (.iload_n 2, 1) := by decide +kernel
theorem dL_stateAt_5 : decode cL_stateAt 5 = .ok (.invokevirtual 79, 3) := by decide +kernel
theorem dL_stateAt_8 : decode cL_stateAt 8 = .ok (.i2l, 1) := by decide +kernel
theorem dL_stateAt_9 : decode cL_stateAt 9 = .ok (.lastore, 1) := by decide +kernel
theorem dL_stateAt_10 : decode cL_stateAt 10 = .ok (.goto 11, 3) := by decide +kernel
theorem dL_stateAt_13 : decode cL_stateAt 13 = .ok (.astore 4, 2) := by decide +kernel
theorem dL_stateAt_15 : decode cL_stateAt 15 = .ok (.iconst 1, 1) := by decide +kernel
theorem dL_stateAt_16 : decode cL_stateAt 16 = .ok (.ireturn, 1) := by decide +kernel
theorem dL_stateAt_17 : decode cL_stateAt 17 = .ok (.astore 4, 2) := by decide +kernel
theorem dL_stateAt_19 : decode cL_stateAt 19 = .ok (.iconst 2, 1) := by decide +kernel
theorem dL_stateAt_20 : decode cL_stateAt 20 = .ok (.ireturn, 1) := by decide +kernel
theorem dL_stateAt_21 : decode cL_stateAt 21 = .ok (.iconst 0, 1) := by decide +kernel
theorem dL_stateAt_22 : decode cL_stateAt 22 = .ok (.ireturn, 1) := by decide +kernel
theorem dL_law_0 : decode cL_law 0 = .ok (.new 8, 3) := by decide +kernel
theorem dL_law_3 : decode cL_law 3 = .ok (.dup, 1) := by decide +kernel
theorem dL_law_4 : decode cL_law 4 = .ok (.invokespecial 82, 3) := by decide +kernel
theorem dL_law_7 : decode cL_law 7 = .ok (.astore_n 1, 1) := by decide +kernel
theorem dL_law_8 : decode cL_law 8 = .ok (.new 83, 3) := by decide +kernel
theorem dL_law_11 : decode cL_law 11 = .ok (.dup, 1) := by decide +kernel
theorem dL_law_12 : decode cL_law 12 = .ok (.invokespecial 85, 3) := by decide +kernel
theorem dL_law_15 : decode cL_law 15 = .ok (.astore_n 2, 1) := by decide +kernel
theorem dL_law_16 : decode cL_law 16 = .ok (.iconst 1, 1) := by decide +kernel
theorem dL_law_17 : decode cL_law 17 = .ok (.newarray .long, 2) := by decide +kernel
theorem dL_law_19 : decode cL_law 19 = .ok (.astore_n 3, 1) := by decide +kernel
theorem dL_law_20 : decode cL_law 20 = .ok (.iconst 0, 1) := by decide +kernel
theorem dL_law_21 : decode cL_law 21 = .ok (.istore 4, 2) := by decide +kernel
theorem dL_law_23 : decode cL_law 23 = .ok (.iload 4, 2) := by decide +kernel
theorem dL_law_25 : decode cL_law 25 = .ok (.aload_n 0, 1) := by decide +kernel
theorem dL_law_26 : decode cL_law 26 = .ok (.arraylength, 1) := by decide +kernel
theorem dL_law_27 : decode cL_law 27 = .ok (.iconst 3, 1) := by decide +kernel
theorem dL_law_28 : decode cL_law 28 = .ok (.isub, 1) := by decide +kernel
theorem dL_law_29 : decode cL_law 29 = .ok (.if_icmp .gt 1558, 3) := by decide +kernel
theorem dL_law_32 : decode cL_law 32 = .ok (.aload_n 0, 1) := by decide +kernel
theorem dL_law_33 : decode cL_law 33 = .ok (.iload 4, 2) := by decide +kernel
theorem dL_law_35 : decode cL_law 35 = .ok (.iaload, 1) := by decide +kernel
theorem dL_law_36 : decode cL_law 36 = .ok (.bipush 31, 2) := by decide +kernel
theorem dL_law_38 : decode cL_law 38 = .ok (.iand, 1) := by decide +kernel
theorem dL_law_39 : decode cL_law 39 = .ok (.tableswitch 1542 0 27 #[125, 209, 272, 340, 396, 464, 532, 600, 668, 736, 792, 805, 868, 881, 937, 993, 1049, 1117, 1173, 1229, 1285, 1298, 1311, 1324, 1337, 1405, 1418, 1474], 125) := by decide +kernel
theorem dL_law_164 : decode cL_law 164 = .ok (.aload_n 1, 1) := by decide +kernel
theorem dL_law_165 : decode cL_law 165 = .ok (.aload_n 0, 1) := by decide +kernel
theorem dL_law_166 : decode cL_law 166 = .ok (.iload 4, 2) := by decide +kernel
theorem dL_law_168 : decode cL_law 168 = .ok (.iconst 1, 1) := by decide +kernel
theorem dL_law_169 : decode cL_law 169 = .ok (.iadd, 1) := by decide +kernel
theorem dL_law_170 : decode cL_law 170 = .ok (.iaload, 1) := by decide +kernel
theorem dL_law_171 : decode cL_law 171 = .ok (.aload_n 0, 1) := by decide +kernel
theorem dL_law_172 : decode cL_law 172 = .ok (.iload 4, 2) := by decide +kernel
theorem dL_law_174 : decode cL_law 174 = .ok (.iconst 2, 1) := by decide +kernel
theorem dL_law_175 : decode cL_law 175 = .ok (.iadd, 1) := by decide +kernel
theorem dL_law_176 : decode cL_law 176 = .ok (.iaload, 1) := by decide +kernel
theorem dL_law_177 : decode cL_law 177 = .ok (.ifCond .eq 7, 3) := by decide +kernel
theorem dL_law_180 : decode cL_law 180 = .ok (.iconst 1, 1) := by decide +kernel
theorem dL_law_181 : decode cL_law 181 = .ok (.goto 4, 3) := by decide +kernel
theorem dL_law_184 : decode cL_law 184 = .ok (.iconst 0, 1) := by decide +kernel
theorem dL_law_185 : decode cL_law 185 = .ok (.aload_n 3, 1) := by decide +kernel
theorem dL_law_186 : decode cL_law 186 = .ok (.invokestatic 86, 3) := by decide +kernel
theorem dL_law_189 : decode cL_law 189 = .ok (.istore 5, 2) := by decide +kernel
theorem dL_law_191 : decode cL_law 191 = .ok (.aload_n 2, 1) := by decide +kernel
theorem dL_law_192 : decode cL_law 192 = .ok (.aload_n 0, 1) := by decide +kernel
theorem dL_law_193 : decode cL_law 193 = .ok (.iload 4, 2) := by decide +kernel
theorem dL_law_195 : decode cL_law 195 = .ok (.iconst 1, 1) := by decide +kernel
theorem dL_law_196 : decode cL_law 196 = .ok (.iadd, 1) := by decide +kernel
theorem dL_law_197 : decode cL_law 197 = .ok (.iaload, 1) := by decide +kernel
theorem dL_law_198 : decode cL_law 198 = .ok (.aload_n 0, 1) := by decide +kernel
theorem dL_law_199 : decode cL_law 199 = .ok (.iload 4, 2) := by decide +kernel
theorem dL_law_201 : decode cL_law 201 = .ok (.iconst 2, 1) := by decide +kernel
theorem dL_law_202 : decode cL_law 202 = .ok (.iadd, 1) := by decide +kernel
theorem dL_law_203 : decode cL_law 203 = .ok (.iaload, 1) := by decide +kernel
theorem dL_law_204 : decode cL_law 204 = .ok (.ifCond .eq 7, 3) := by decide +kernel
theorem dL_law_207 : decode cL_law 207 = .ok (.iconst 1, 1) := by decide +kernel
theorem dL_law_208 : decode cL_law 208 = .ok (.goto 4, 3) := by decide +kernel
theorem dL_law_211 : decode cL_law 211 = .ok (.iconst 0, 1) := by decide +kernel
theorem dL_law_212 : decode cL_law 212 = .ok (.invokevirtual 91, 3) := by decide +kernel
theorem dL_law_215 : decode cL_law 215 = .ok (.istore 6, 2) := by decide +kernel
theorem dL_law_217 : decode cL_law 217 = .ok (.aload_n 2, 1) := by decide +kernel
theorem dL_law_218 : decode cL_law 218 = .ok (.invokevirtual 92, 3) := by decide +kernel
theorem dL_law_221 : decode cL_law 221 = .ok (.iload 5, 2) := by decide +kernel
theorem dL_law_223 : decode cL_law 223 = .ok (.if_icmp .eq 5, 3) := by decide +kernel
theorem dL_law_226 : decode cL_law 226 = .ok (.iconst 0, 1) := by decide +kernel
theorem dL_law_227 : decode cL_law 227 = .ok (.ireturn, 1) := by decide +kernel
theorem dL_law_228 : decode cL_law 228 = .ok (.iload 5, 2) := by decide +kernel
theorem dL_law_230 : decode cL_law 230 = .ok (.ifCond .ne 15, 3) := by decide +kernel
theorem dL_law_233 : decode cL_law 233 = .ok (.aload_n 3, 1) := by decide +kernel
theorem dL_law_234 : decode cL_law 234 = .ok (.iconst 0, 1) := by decide +kernel
theorem dL_law_235 : decode cL_law 235 = .ok (.laload, 1) := by decide +kernel
theorem dL_law_236 : decode cL_law 236 = .ok (.iload 6, 2) := by decide +kernel
theorem dL_law_238 : decode cL_law 238 = .ok (.i2l, 1) := by decide +kernel
theorem dL_law_239 : decode cL_law 239 = .ok (.lcmp, 1) := by decide +kernel
theorem dL_law_240 : decode cL_law 240 = .ok (.ifCond .eq 5, 3) := by decide +kernel
theorem dL_law_243 : decode cL_law 243 = .ok (.iconst 0, 1) := by decide +kernel
theorem dL_law_244 : decode cL_law 244 = .ok (.ireturn, 1) := by decide +kernel
theorem dL_law_245 : decode cL_law 245 = .ok (.goto 1336, 3) := by decide +kernel
theorem dL_law_248 : decode cL_law 248 = .ok (.aload_n 1, 1) := by decide +kernel
theorem dL_law_249 : decode cL_law 249 = .ok (.aload_n 0, 1) := by decide +kernel
theorem dL_law_250 : decode cL_law 250 = .ok (.iload 4, 2) := by decide +kernel
theorem dL_law_252 : decode cL_law 252 = .ok (.iconst 1, 1) := by decide +kernel
theorem dL_law_253 : decode cL_law 253 = .ok (.iadd, 1) := by decide +kernel
theorem dL_law_254 : decode cL_law 254 = .ok (.iaload, 1) := by decide +kernel
theorem dL_law_255 : decode cL_law 255 = .ok (.aload_n 3, 1) := by decide +kernel
theorem dL_law_256 : decode cL_law 256 = .ok (.invokestatic 96, 3) := by decide +kernel
theorem dL_law_259 : decode cL_law 259 = .ok (.istore 5, 2) := by decide +kernel
theorem dL_law_261 : decode cL_law 261 = .ok (.aload_n 2, 1) := by decide +kernel
theorem dL_law_262 : decode cL_law 262 = .ok (.aload_n 0, 1) := by decide +kernel
theorem dL_law_263 : decode cL_law 263 = .ok (.iload 4, 2) := by decide +kernel
theorem dL_law_265 : decode cL_law 265 = .ok (.iconst 1, 1) := by decide +kernel
theorem dL_law_266 : decode cL_law 266 = .ok (.iadd, 1) := by decide +kernel
theorem dL_law_267 : decode cL_law 267 = .ok (.iaload, 1) := by decide +kernel
theorem dL_law_268 : decode cL_law 268 = .ok (.invokevirtual 99, 3) := by decide +kernel
theorem dL_law_271 : decode cL_law 271 = .ok (.istore 6, 2) := by decide +kernel
theorem dL_law_273 : decode cL_law 273 = .ok (.aload_n 2, 1) := by decide +kernel
theorem dL_law_274 : decode cL_law 274 = .ok (.invokevirtual 92, 3) := by decide +kernel
theorem dL_law_277 : decode cL_law 277 = .ok (.iload 5, 2) := by decide +kernel
theorem dL_law_279 : decode cL_law 279 = .ok (.if_icmp .eq 5, 3) := by decide +kernel
theorem dL_law_282 : decode cL_law 282 = .ok (.iconst 0, 1) := by decide +kernel
theorem dL_law_283 : decode cL_law 283 = .ok (.ireturn, 1) := by decide +kernel
theorem dL_law_284 : decode cL_law 284 = .ok (.iload 5, 2) := by decide +kernel
theorem dL_law_286 : decode cL_law 286 = .ok (.ifCond .ne 22, 3) := by decide +kernel
theorem dL_law_289 : decode cL_law 289 = .ok (.aload_n 3, 1) := by decide +kernel
theorem dL_law_290 : decode cL_law 290 = .ok (.iconst 0, 1) := by decide +kernel
theorem dL_law_291 : decode cL_law 291 = .ok (.laload, 1) := by decide +kernel
theorem dL_law_292 : decode cL_law 292 = .ok (.iload 6, 2) := by decide +kernel
theorem dL_law_294 : decode cL_law 294 = .ok (.ifCond .eq 7, 3) := by decide +kernel
theorem dL_law_297 : decode cL_law 297 = .ok (.lconst 1, 1) := by decide +kernel
theorem dL_law_298 : decode cL_law 298 = .ok (.goto 4, 3) := by decide +kernel
theorem dL_law_301 : decode cL_law 301 = .ok (.lconst 0, 1) := by decide +kernel
theorem dL_law_302 : decode cL_law 302 = .ok (.lcmp, 1) := by decide +kernel
theorem dL_law_303 : decode cL_law 303 = .ok (.ifCond .eq 5, 3) := by decide +kernel
theorem dL_law_306 : decode cL_law 306 = .ok (.iconst 0, 1) := by decide +kernel
theorem dL_law_307 : decode cL_law 307 = .ok (.ireturn, 1) := by decide +kernel
theorem dL_law_308 : decode cL_law 308 = .ok (.goto 1273, 3) := by decide +kernel
theorem dL_law_311 : decode cL_law 311 = .ok (.aload_n 1, 1) := by decide +kernel
theorem dL_law_312 : decode cL_law 312 = .ok (.aload_n 0, 1) := by decide +kernel
theorem dL_law_313 : decode cL_law 313 = .ok (.iload 4, 2) := by decide +kernel
theorem dL_law_315 : decode cL_law 315 = .ok (.iconst 1, 1) := by decide +kernel
theorem dL_law_316 : decode cL_law 316 = .ok (.iadd, 1) := by decide +kernel
theorem dL_law_317 : decode cL_law 317 = .ok (.iaload, 1) := by decide +kernel
theorem dL_law_318 : decode cL_law 318 = .ok (.aload_n 0, 1) := by decide +kernel
theorem dL_law_319 : decode cL_law 319 = .ok (.iload 4, 2) := by decide +kernel
theorem dL_law_321 : decode cL_law 321 = .ok (.iconst 2, 1) := by decide +kernel
theorem dL_law_322 : decode cL_law 322 = .ok (.iadd, 1) := by decide +kernel
theorem dL_law_323 : decode cL_law 323 = .ok (.iaload, 1) := by decide +kernel
theorem dL_law_324 : decode cL_law 324 = .ok (.aload_n 3, 1) := by decide +kernel
theorem dL_law_325 : decode cL_law 325 = .ok (.invokestatic 100, 3) := by decide +kernel
theorem dL_law_328 : decode cL_law 328 = .ok (.istore 5, 2) := by decide +kernel
theorem dL_law_330 : decode cL_law 330 = .ok (.aload_n 2, 1) := by decide +kernel
theorem dL_law_331 : decode cL_law 331 = .ok (.aload_n 0, 1) := by decide +kernel
theorem dL_law_332 : decode cL_law 332 = .ok (.iload 4, 2) := by decide +kernel
theorem dL_law_334 : decode cL_law 334 = .ok (.iconst 1, 1) := by decide +kernel
theorem dL_law_335 : decode cL_law 335 = .ok (.iadd, 1) := by decide +kernel
theorem dL_law_336 : decode cL_law 336 = .ok (.iaload, 1) := by decide +kernel
theorem dL_law_337 : decode cL_law 337 = .ok (.aload_n 0, 1) := by decide +kernel
theorem dL_law_338 : decode cL_law 338 = .ok (.iload 4, 2) := by decide +kernel
theorem dL_law_340 : decode cL_law 340 = .ok (.iconst 2, 1) := by decide +kernel
theorem dL_law_341 : decode cL_law 341 = .ok (.iadd, 1) := by decide +kernel
theorem dL_law_342 : decode cL_law 342 = .ok (.iaload, 1) := by decide +kernel
theorem dL_law_343 : decode cL_law 343 = .ok (.invokevirtual 103, 3) := by decide +kernel
theorem dL_law_346 : decode cL_law 346 = .ok (.istore 6, 2) := by decide +kernel
theorem dL_law_348 : decode cL_law 348 = .ok (.aload_n 2, 1) := by decide +kernel
theorem dL_law_349 : decode cL_law 349 = .ok (.invokevirtual 92, 3) := by decide +kernel
theorem dL_law_352 : decode cL_law 352 = .ok (.iload 5, 2) := by decide +kernel
theorem dL_law_354 : decode cL_law 354 = .ok (.if_icmp .eq 5, 3) := by decide +kernel
theorem dL_law_357 : decode cL_law 357 = .ok (.iconst 0, 1) := by decide +kernel
theorem dL_law_358 : decode cL_law 358 = .ok (.ireturn, 1) := by decide +kernel
theorem dL_law_359 : decode cL_law 359 = .ok (.iload 5, 2) := by decide +kernel
theorem dL_law_361 : decode cL_law 361 = .ok (.ifCond .ne 15, 3) := by decide +kernel
theorem dL_law_364 : decode cL_law 364 = .ok (.aload_n 3, 1) := by decide +kernel
theorem dL_law_365 : decode cL_law 365 = .ok (.iconst 0, 1) := by decide +kernel
theorem dL_law_366 : decode cL_law 366 = .ok (.laload, 1) := by decide +kernel
theorem dL_law_367 : decode cL_law 367 = .ok (.iload 6, 2) := by decide +kernel
theorem dL_law_369 : decode cL_law 369 = .ok (.i2l, 1) := by decide +kernel
theorem dL_law_370 : decode cL_law 370 = .ok (.lcmp, 1) := by decide +kernel
theorem dL_law_371 : decode cL_law 371 = .ok (.ifCond .eq 5, 3) := by decide +kernel
theorem dL_law_374 : decode cL_law 374 = .ok (.iconst 0, 1) := by decide +kernel
theorem dL_law_375 : decode cL_law 375 = .ok (.ireturn, 1) := by decide +kernel
theorem dL_law_376 : decode cL_law 376 = .ok (.goto 1205, 3) := by decide +kernel
theorem dL_law_379 : decode cL_law 379 = .ok (.aload_n 1, 1) := by decide +kernel
theorem dL_law_380 : decode cL_law 380 = .ok (.aload_n 0, 1) := by decide +kernel
theorem dL_law_381 : decode cL_law 381 = .ok (.iload 4, 2) := by decide +kernel
theorem dL_law_383 : decode cL_law 383 = .ok (.iconst 1, 1) := by decide +kernel
theorem dL_law_384 : decode cL_law 384 = .ok (.iadd, 1) := by decide +kernel
theorem dL_law_385 : decode cL_law 385 = .ok (.iaload, 1) := by decide +kernel
theorem dL_law_386 : decode cL_law 386 = .ok (.aload_n 3, 1) := by decide +kernel
theorem dL_law_387 : decode cL_law 387 = .ok (.invokestatic 104, 3) := by decide +kernel
theorem dL_law_390 : decode cL_law 390 = .ok (.istore 5, 2) := by decide +kernel
theorem dL_law_392 : decode cL_law 392 = .ok (.aload_n 2, 1) := by decide +kernel
theorem dL_law_393 : decode cL_law 393 = .ok (.aload_n 0, 1) := by decide +kernel
theorem dL_law_394 : decode cL_law 394 = .ok (.iload 4, 2) := by decide +kernel
theorem dL_law_396 : decode cL_law 396 = .ok (.iconst 1, 1) := by decide +kernel
theorem dL_law_397 : decode cL_law 397 = .ok (.iadd, 1) := by decide +kernel
theorem dL_law_398 : decode cL_law 398 = .ok (.iaload, 1) := by decide +kernel
theorem dL_law_399 : decode cL_law 399 = .ok (.invokevirtual 106, 3) := by decide +kernel
theorem dL_law_402 : decode cL_law 402 = .ok (.istore 6, 2) := by decide +kernel
theorem dL_law_404 : decode cL_law 404 = .ok (.aload_n 2, 1) := by decide +kernel
theorem dL_law_405 : decode cL_law 405 = .ok (.invokevirtual 92, 3) := by decide +kernel
theorem dL_law_408 : decode cL_law 408 = .ok (.iload 5, 2) := by decide +kernel
theorem dL_law_410 : decode cL_law 410 = .ok (.if_icmp .eq 5, 3) := by decide +kernel
theorem dL_law_413 : decode cL_law 413 = .ok (.iconst 0, 1) := by decide +kernel
theorem dL_law_414 : decode cL_law 414 = .ok (.ireturn, 1) := by decide +kernel
theorem dL_law_415 : decode cL_law 415 = .ok (.iload 5, 2) := by decide +kernel
theorem dL_law_417 : decode cL_law 417 = .ok (.ifCond .ne 15, 3) := by decide +kernel
theorem dL_law_420 : decode cL_law 420 = .ok (.aload_n 3, 1) := by decide +kernel
theorem dL_law_421 : decode cL_law 421 = .ok (.iconst 0, 1) := by decide +kernel
theorem dL_law_422 : decode cL_law 422 = .ok (.laload, 1) := by decide +kernel
theorem dL_law_423 : decode cL_law 423 = .ok (.iload 6, 2) := by decide +kernel
theorem dL_law_425 : decode cL_law 425 = .ok (.i2l, 1) := by decide +kernel
theorem dL_law_426 : decode cL_law 426 = .ok (.lcmp, 1) := by decide +kernel
theorem dL_law_427 : decode cL_law 427 = .ok (.ifCond .eq 5, 3) := by decide +kernel
theorem dL_law_430 : decode cL_law 430 = .ok (.iconst 0, 1) := by decide +kernel
theorem dL_law_431 : decode cL_law 431 = .ok (.ireturn, 1) := by decide +kernel
theorem dL_law_432 : decode cL_law 432 = .ok (.goto 1149, 3) := by decide +kernel
theorem dL_law_435 : decode cL_law 435 = .ok (.aload_n 1, 1) := by decide +kernel
theorem dL_law_436 : decode cL_law 436 = .ok (.aload_n 0, 1) := by decide +kernel
theorem dL_law_437 : decode cL_law 437 = .ok (.iload 4, 2) := by decide +kernel
theorem dL_law_439 : decode cL_law 439 = .ok (.iconst 1, 1) := by decide +kernel
theorem dL_law_440 : decode cL_law 440 = .ok (.iadd, 1) := by decide +kernel
theorem dL_law_441 : decode cL_law 441 = .ok (.iaload, 1) := by decide +kernel
theorem dL_law_442 : decode cL_law 442 = .ok (.aload_n 0, 1) := by decide +kernel
theorem dL_law_443 : decode cL_law 443 = .ok (.iload 4, 2) := by decide +kernel
theorem dL_law_445 : decode cL_law 445 = .ok (.iconst 2, 1) := by decide +kernel
theorem dL_law_446 : decode cL_law 446 = .ok (.iadd, 1) := by decide +kernel
theorem dL_law_447 : decode cL_law 447 = .ok (.iaload, 1) := by decide +kernel
theorem dL_law_448 : decode cL_law 448 = .ok (.aload_n 3, 1) := by decide +kernel
theorem dL_law_449 : decode cL_law 449 = .ok (.invokestatic 107, 3) := by decide +kernel
theorem dL_law_452 : decode cL_law 452 = .ok (.istore 5, 2) := by decide +kernel
theorem dL_law_454 : decode cL_law 454 = .ok (.aload_n 2, 1) := by decide +kernel
theorem dL_law_455 : decode cL_law 455 = .ok (.aload_n 0, 1) := by decide +kernel
theorem dL_law_456 : decode cL_law 456 = .ok (.iload 4, 2) := by decide +kernel
theorem dL_law_458 : decode cL_law 458 = .ok (.iconst 1, 1) := by decide +kernel
theorem dL_law_459 : decode cL_law 459 = .ok (.iadd, 1) := by decide +kernel
theorem dL_law_460 : decode cL_law 460 = .ok (.iaload, 1) := by decide +kernel
theorem dL_law_461 : decode cL_law 461 = .ok (.aload_n 0, 1) := by decide +kernel
theorem dL_law_462 : decode cL_law 462 = .ok (.iload 4, 2) := by decide +kernel
theorem dL_law_464 : decode cL_law 464 = .ok (.iconst 2, 1) := by decide +kernel
theorem dL_law_465 : decode cL_law 465 = .ok (.iadd, 1) := by decide +kernel
theorem dL_law_466 : decode cL_law 466 = .ok (.iaload, 1) := by decide +kernel
theorem dL_law_467 : decode cL_law 467 = .ok (.invokevirtual 109, 3) := by decide +kernel
theorem dL_law_470 : decode cL_law 470 = .ok (.istore 6, 2) := by decide +kernel
theorem dL_law_472 : decode cL_law 472 = .ok (.aload_n 2, 1) := by decide +kernel
theorem dL_law_473 : decode cL_law 473 = .ok (.invokevirtual 92, 3) := by decide +kernel
theorem dL_law_476 : decode cL_law 476 = .ok (.iload 5, 2) := by decide +kernel
theorem dL_law_478 : decode cL_law 478 = .ok (.if_icmp .eq 5, 3) := by decide +kernel
theorem dL_law_481 : decode cL_law 481 = .ok (.iconst 0, 1) := by decide +kernel
theorem dL_law_482 : decode cL_law 482 = .ok (.ireturn, 1) := by decide +kernel
theorem dL_law_483 : decode cL_law 483 = .ok (.iload 5, 2) := by decide +kernel
theorem dL_law_485 : decode cL_law 485 = .ok (.ifCond .ne 15, 3) := by decide +kernel
theorem dL_law_488 : decode cL_law 488 = .ok (.aload_n 3, 1) := by decide +kernel
theorem dL_law_489 : decode cL_law 489 = .ok (.iconst 0, 1) := by decide +kernel
theorem dL_law_490 : decode cL_law 490 = .ok (.laload, 1) := by decide +kernel
theorem dL_law_491 : decode cL_law 491 = .ok (.iload 6, 2) := by decide +kernel
theorem dL_law_493 : decode cL_law 493 = .ok (.i2l, 1) := by decide +kernel
theorem dL_law_494 : decode cL_law 494 = .ok (.lcmp, 1) := by decide +kernel
theorem dL_law_495 : decode cL_law 495 = .ok (.ifCond .eq 5, 3) := by decide +kernel
theorem dL_law_498 : decode cL_law 498 = .ok (.iconst 0, 1) := by decide +kernel
theorem dL_law_499 : decode cL_law 499 = .ok (.ireturn, 1) := by decide +kernel
theorem dL_law_500 : decode cL_law 500 = .ok (.goto 1081, 3) := by decide +kernel
theorem dL_law_503 : decode cL_law 503 = .ok (.aload_n 1, 1) := by decide +kernel
theorem dL_law_504 : decode cL_law 504 = .ok (.aload_n 0, 1) := by decide +kernel
theorem dL_law_505 : decode cL_law 505 = .ok (.iload 4, 2) := by decide +kernel
theorem dL_law_507 : decode cL_law 507 = .ok (.iconst 1, 1) := by decide +kernel
theorem dL_law_508 : decode cL_law 508 = .ok (.iadd, 1) := by decide +kernel
theorem dL_law_509 : decode cL_law 509 = .ok (.iaload, 1) := by decide +kernel
theorem dL_law_510 : decode cL_law 510 = .ok (.aload_n 0, 1) := by decide +kernel
theorem dL_law_511 : decode cL_law 511 = .ok (.iload 4, 2) := by decide +kernel
theorem dL_law_513 : decode cL_law 513 = .ok (.iconst 2, 1) := by decide +kernel
theorem dL_law_514 : decode cL_law 514 = .ok (.iadd, 1) := by decide +kernel
theorem dL_law_515 : decode cL_law 515 = .ok (.iaload, 1) := by decide +kernel
theorem dL_law_516 : decode cL_law 516 = .ok (.aload_n 3, 1) := by decide +kernel
theorem dL_law_517 : decode cL_law 517 = .ok (.invokestatic 110, 3) := by decide +kernel
theorem dL_law_520 : decode cL_law 520 = .ok (.istore 5, 2) := by decide +kernel
theorem dL_law_522 : decode cL_law 522 = .ok (.aload_n 2, 1) := by decide +kernel
theorem dL_law_523 : decode cL_law 523 = .ok (.aload_n 0, 1) := by decide +kernel
theorem dL_law_524 : decode cL_law 524 = .ok (.iload 4, 2) := by decide +kernel
theorem dL_law_526 : decode cL_law 526 = .ok (.iconst 1, 1) := by decide +kernel
theorem dL_law_527 : decode cL_law 527 = .ok (.iadd, 1) := by decide +kernel
theorem dL_law_528 : decode cL_law 528 = .ok (.iaload, 1) := by decide +kernel
theorem dL_law_529 : decode cL_law 529 = .ok (.aload_n 0, 1) := by decide +kernel
theorem dL_law_530 : decode cL_law 530 = .ok (.iload 4, 2) := by decide +kernel
theorem dL_law_532 : decode cL_law 532 = .ok (.iconst 2, 1) := by decide +kernel
theorem dL_law_533 : decode cL_law 533 = .ok (.iadd, 1) := by decide +kernel
theorem dL_law_534 : decode cL_law 534 = .ok (.iaload, 1) := by decide +kernel
theorem dL_law_535 : decode cL_law 535 = .ok (.invokevirtual 112, 3) := by decide +kernel
theorem dL_law_538 : decode cL_law 538 = .ok (.istore 6, 2) := by decide +kernel
theorem dL_law_540 : decode cL_law 540 = .ok (.aload_n 2, 1) := by decide +kernel
theorem dL_law_541 : decode cL_law 541 = .ok (.invokevirtual 92, 3) := by decide +kernel
theorem dL_law_544 : decode cL_law 544 = .ok (.iload 5, 2) := by decide +kernel
theorem dL_law_546 : decode cL_law 546 = .ok (.if_icmp .eq 5, 3) := by decide +kernel
theorem dL_law_549 : decode cL_law 549 = .ok (.iconst 0, 1) := by decide +kernel
theorem dL_law_550 : decode cL_law 550 = .ok (.ireturn, 1) := by decide +kernel
theorem dL_law_551 : decode cL_law 551 = .ok (.iload 5, 2) := by decide +kernel
theorem dL_law_553 : decode cL_law 553 = .ok (.ifCond .ne 15, 3) := by decide +kernel
theorem dL_law_556 : decode cL_law 556 = .ok (.aload_n 3, 1) := by decide +kernel
theorem dL_law_557 : decode cL_law 557 = .ok (.iconst 0, 1) := by decide +kernel
theorem dL_law_558 : decode cL_law 558 = .ok (.laload, 1) := by decide +kernel
theorem dL_law_559 : decode cL_law 559 = .ok (.iload 6, 2) := by decide +kernel
theorem dL_law_561 : decode cL_law 561 = .ok (.i2l, 1) := by decide +kernel
theorem dL_law_562 : decode cL_law 562 = .ok (.lcmp, 1) := by decide +kernel
theorem dL_law_563 : decode cL_law 563 = .ok (.ifCond .eq 5, 3) := by decide +kernel
theorem dL_law_566 : decode cL_law 566 = .ok (.iconst 0, 1) := by decide +kernel
theorem dL_law_567 : decode cL_law 567 = .ok (.ireturn, 1) := by decide +kernel
theorem dL_law_568 : decode cL_law 568 = .ok (.goto 1013, 3) := by decide +kernel
theorem dL_law_571 : decode cL_law 571 = .ok (.aload_n 1, 1) := by decide +kernel
theorem dL_law_572 : decode cL_law 572 = .ok (.aload_n 0, 1) := by decide +kernel
theorem dL_law_573 : decode cL_law 573 = .ok (.iload 4, 2) := by decide +kernel
theorem dL_law_575 : decode cL_law 575 = .ok (.iconst 1, 1) := by decide +kernel
theorem dL_law_576 : decode cL_law 576 = .ok (.iadd, 1) := by decide +kernel
theorem dL_law_577 : decode cL_law 577 = .ok (.iaload, 1) := by decide +kernel
theorem dL_law_578 : decode cL_law 578 = .ok (.aload_n 0, 1) := by decide +kernel
theorem dL_law_579 : decode cL_law 579 = .ok (.iload 4, 2) := by decide +kernel
theorem dL_law_581 : decode cL_law 581 = .ok (.iconst 2, 1) := by decide +kernel
theorem dL_law_582 : decode cL_law 582 = .ok (.iadd, 1) := by decide +kernel
theorem dL_law_583 : decode cL_law 583 = .ok (.iaload, 1) := by decide +kernel
theorem dL_law_584 : decode cL_law 584 = .ok (.aload_n 3, 1) := by decide +kernel
theorem dL_law_585 : decode cL_law 585 = .ok (.invokestatic 113, 3) := by decide +kernel
theorem dL_law_588 : decode cL_law 588 = .ok (.istore 5, 2) := by decide +kernel
theorem dL_law_590 : decode cL_law 590 = .ok (.aload_n 2, 1) := by decide +kernel
theorem dL_law_591 : decode cL_law 591 = .ok (.aload_n 0, 1) := by decide +kernel
theorem dL_law_592 : decode cL_law 592 = .ok (.iload 4, 2) := by decide +kernel
theorem dL_law_594 : decode cL_law 594 = .ok (.iconst 1, 1) := by decide +kernel
theorem dL_law_595 : decode cL_law 595 = .ok (.iadd, 1) := by decide +kernel
theorem dL_law_596 : decode cL_law 596 = .ok (.iaload, 1) := by decide +kernel
theorem dL_law_597 : decode cL_law 597 = .ok (.aload_n 0, 1) := by decide +kernel
theorem dL_law_598 : decode cL_law 598 = .ok (.iload 4, 2) := by decide +kernel
theorem dL_law_600 : decode cL_law 600 = .ok (.iconst 2, 1) := by decide +kernel
theorem dL_law_601 : decode cL_law 601 = .ok (.iadd, 1) := by decide +kernel
theorem dL_law_602 : decode cL_law 602 = .ok (.iaload, 1) := by decide +kernel
theorem dL_law_603 : decode cL_law 603 = .ok (.invokevirtual 115, 3) := by decide +kernel
theorem dL_law_606 : decode cL_law 606 = .ok (.istore 6, 2) := by decide +kernel
theorem dL_law_608 : decode cL_law 608 = .ok (.aload_n 2, 1) := by decide +kernel
theorem dL_law_609 : decode cL_law 609 = .ok (.invokevirtual 92, 3) := by decide +kernel
theorem dL_law_612 : decode cL_law 612 = .ok (.iload 5, 2) := by decide +kernel
theorem dL_law_614 : decode cL_law 614 = .ok (.if_icmp .eq 5, 3) := by decide +kernel
theorem dL_law_617 : decode cL_law 617 = .ok (.iconst 0, 1) := by decide +kernel
theorem dL_law_618 : decode cL_law 618 = .ok (.ireturn, 1) := by decide +kernel
theorem dL_law_619 : decode cL_law 619 = .ok (.iload 5, 2) := by decide +kernel
theorem dL_law_621 : decode cL_law 621 = .ok (.ifCond .ne 15, 3) := by decide +kernel
theorem dL_law_624 : decode cL_law 624 = .ok (.aload_n 3, 1) := by decide +kernel
theorem dL_law_625 : decode cL_law 625 = .ok (.iconst 0, 1) := by decide +kernel
theorem dL_law_626 : decode cL_law 626 = .ok (.laload, 1) := by decide +kernel
theorem dL_law_627 : decode cL_law 627 = .ok (.iload 6, 2) := by decide +kernel
theorem dL_law_629 : decode cL_law 629 = .ok (.i2l, 1) := by decide +kernel
theorem dL_law_630 : decode cL_law 630 = .ok (.lcmp, 1) := by decide +kernel
theorem dL_law_631 : decode cL_law 631 = .ok (.ifCond .eq 5, 3) := by decide +kernel
theorem dL_law_634 : decode cL_law 634 = .ok (.iconst 0, 1) := by decide +kernel
theorem dL_law_635 : decode cL_law 635 = .ok (.ireturn, 1) := by decide +kernel
theorem dL_law_636 : decode cL_law 636 = .ok (.goto 945, 3) := by decide +kernel
theorem dL_law_639 : decode cL_law 639 = .ok (.aload_n 1, 1) := by decide +kernel
theorem dL_law_640 : decode cL_law 640 = .ok (.aload_n 0, 1) := by decide +kernel
theorem dL_law_641 : decode cL_law 641 = .ok (.iload 4, 2) := by decide +kernel
theorem dL_law_643 : decode cL_law 643 = .ok (.iconst 1, 1) := by decide +kernel
theorem dL_law_644 : decode cL_law 644 = .ok (.iadd, 1) := by decide +kernel
theorem dL_law_645 : decode cL_law 645 = .ok (.iaload, 1) := by decide +kernel
theorem dL_law_646 : decode cL_law 646 = .ok (.aload_n 0, 1) := by decide +kernel
theorem dL_law_647 : decode cL_law 647 = .ok (.iload 4, 2) := by decide +kernel
theorem dL_law_649 : decode cL_law 649 = .ok (.iconst 2, 1) := by decide +kernel
theorem dL_law_650 : decode cL_law 650 = .ok (.iadd, 1) := by decide +kernel
theorem dL_law_651 : decode cL_law 651 = .ok (.iaload, 1) := by decide +kernel
theorem dL_law_652 : decode cL_law 652 = .ok (.aload_n 3, 1) := by decide +kernel
theorem dL_law_653 : decode cL_law 653 = .ok (.invokestatic 116, 3) := by decide +kernel
theorem dL_law_656 : decode cL_law 656 = .ok (.istore 5, 2) := by decide +kernel
theorem dL_law_658 : decode cL_law 658 = .ok (.aload_n 2, 1) := by decide +kernel
theorem dL_law_659 : decode cL_law 659 = .ok (.aload_n 0, 1) := by decide +kernel
theorem dL_law_660 : decode cL_law 660 = .ok (.iload 4, 2) := by decide +kernel
theorem dL_law_662 : decode cL_law 662 = .ok (.iconst 1, 1) := by decide +kernel
theorem dL_law_663 : decode cL_law 663 = .ok (.iadd, 1) := by decide +kernel
theorem dL_law_664 : decode cL_law 664 = .ok (.iaload, 1) := by decide +kernel
theorem dL_law_665 : decode cL_law 665 = .ok (.aload_n 0, 1) := by decide +kernel
theorem dL_law_666 : decode cL_law 666 = .ok (.iload 4, 2) := by decide +kernel
theorem dL_law_668 : decode cL_law 668 = .ok (.iconst 2, 1) := by decide +kernel
theorem dL_law_669 : decode cL_law 669 = .ok (.iadd, 1) := by decide +kernel
theorem dL_law_670 : decode cL_law 670 = .ok (.iaload, 1) := by decide +kernel
theorem dL_law_671 : decode cL_law 671 = .ok (.invokevirtual 118, 3) := by decide +kernel
theorem dL_law_674 : decode cL_law 674 = .ok (.istore 6, 2) := by decide +kernel
theorem dL_law_676 : decode cL_law 676 = .ok (.aload_n 2, 1) := by decide +kernel
theorem dL_law_677 : decode cL_law 677 = .ok (.invokevirtual 92, 3) := by decide +kernel
theorem dL_law_680 : decode cL_law 680 = .ok (.iload 5, 2) := by decide +kernel
theorem dL_law_682 : decode cL_law 682 = .ok (.if_icmp .eq 5, 3) := by decide +kernel
theorem dL_law_685 : decode cL_law 685 = .ok (.iconst 0, 1) := by decide +kernel
theorem dL_law_686 : decode cL_law 686 = .ok (.ireturn, 1) := by decide +kernel
theorem dL_law_687 : decode cL_law 687 = .ok (.iload 5, 2) := by decide +kernel
theorem dL_law_689 : decode cL_law 689 = .ok (.ifCond .ne 15, 3) := by decide +kernel
theorem dL_law_692 : decode cL_law 692 = .ok (.aload_n 3, 1) := by decide +kernel
theorem dL_law_693 : decode cL_law 693 = .ok (.iconst 0, 1) := by decide +kernel
theorem dL_law_694 : decode cL_law 694 = .ok (.laload, 1) := by decide +kernel
theorem dL_law_695 : decode cL_law 695 = .ok (.iload 6, 2) := by decide +kernel
theorem dL_law_697 : decode cL_law 697 = .ok (.i2l, 1) := by decide +kernel
theorem dL_law_698 : decode cL_law 698 = .ok (.lcmp, 1) := by decide +kernel
theorem dL_law_699 : decode cL_law 699 = .ok (.ifCond .eq 5, 3) := by decide +kernel
theorem dL_law_702 : decode cL_law 702 = .ok (.iconst 0, 1) := by decide +kernel
theorem dL_law_703 : decode cL_law 703 = .ok (.ireturn, 1) := by decide +kernel
theorem dL_law_704 : decode cL_law 704 = .ok (.goto 877, 3) := by decide +kernel
theorem dL_law_707 : decode cL_law 707 = .ok (.aload_n 1, 1) := by decide +kernel
theorem dL_law_708 : decode cL_law 708 = .ok (.aload_n 0, 1) := by decide +kernel
theorem dL_law_709 : decode cL_law 709 = .ok (.iload 4, 2) := by decide +kernel
theorem dL_law_711 : decode cL_law 711 = .ok (.iconst 1, 1) := by decide +kernel
theorem dL_law_712 : decode cL_law 712 = .ok (.iadd, 1) := by decide +kernel
theorem dL_law_713 : decode cL_law 713 = .ok (.iaload, 1) := by decide +kernel
theorem dL_law_714 : decode cL_law 714 = .ok (.aload_n 0, 1) := by decide +kernel
theorem dL_law_715 : decode cL_law 715 = .ok (.iload 4, 2) := by decide +kernel
theorem dL_law_717 : decode cL_law 717 = .ok (.iconst 2, 1) := by decide +kernel
theorem dL_law_718 : decode cL_law 718 = .ok (.iadd, 1) := by decide +kernel
theorem dL_law_719 : decode cL_law 719 = .ok (.iaload, 1) := by decide +kernel
theorem dL_law_720 : decode cL_law 720 = .ok (.aload_n 3, 1) := by decide +kernel
theorem dL_law_721 : decode cL_law 721 = .ok (.invokestatic 119, 3) := by decide +kernel
theorem dL_law_724 : decode cL_law 724 = .ok (.istore 5, 2) := by decide +kernel
theorem dL_law_726 : decode cL_law 726 = .ok (.aload_n 2, 1) := by decide +kernel
theorem dL_law_727 : decode cL_law 727 = .ok (.aload_n 0, 1) := by decide +kernel
theorem dL_law_728 : decode cL_law 728 = .ok (.iload 4, 2) := by decide +kernel
theorem dL_law_730 : decode cL_law 730 = .ok (.iconst 1, 1) := by decide +kernel
theorem dL_law_731 : decode cL_law 731 = .ok (.iadd, 1) := by decide +kernel
theorem dL_law_732 : decode cL_law 732 = .ok (.iaload, 1) := by decide +kernel
theorem dL_law_733 : decode cL_law 733 = .ok (.aload_n 0, 1) := by decide +kernel
theorem dL_law_734 : decode cL_law 734 = .ok (.iload 4, 2) := by decide +kernel
theorem dL_law_736 : decode cL_law 736 = .ok (.iconst 2, 1) := by decide +kernel
theorem dL_law_737 : decode cL_law 737 = .ok (.iadd, 1) := by decide +kernel
theorem dL_law_738 : decode cL_law 738 = .ok (.iaload, 1) := by decide +kernel
theorem dL_law_739 : decode cL_law 739 = .ok (.invokevirtual 121, 3) := by decide +kernel
theorem dL_law_742 : decode cL_law 742 = .ok (.istore 6, 2) := by decide +kernel
theorem dL_law_744 : decode cL_law 744 = .ok (.aload_n 2, 1) := by decide +kernel
theorem dL_law_745 : decode cL_law 745 = .ok (.invokevirtual 92, 3) := by decide +kernel
theorem dL_law_748 : decode cL_law 748 = .ok (.iload 5, 2) := by decide +kernel
theorem dL_law_750 : decode cL_law 750 = .ok (.if_icmp .eq 5, 3) := by decide +kernel
theorem dL_law_753 : decode cL_law 753 = .ok (.iconst 0, 1) := by decide +kernel
theorem dL_law_754 : decode cL_law 754 = .ok (.ireturn, 1) := by decide +kernel
theorem dL_law_755 : decode cL_law 755 = .ok (.iload 5, 2) := by decide +kernel
theorem dL_law_757 : decode cL_law 757 = .ok (.ifCond .ne 15, 3) := by decide +kernel
theorem dL_law_760 : decode cL_law 760 = .ok (.aload_n 3, 1) := by decide +kernel
theorem dL_law_761 : decode cL_law 761 = .ok (.iconst 0, 1) := by decide +kernel
theorem dL_law_762 : decode cL_law 762 = .ok (.laload, 1) := by decide +kernel
theorem dL_law_763 : decode cL_law 763 = .ok (.iload 6, 2) := by decide +kernel
theorem dL_law_765 : decode cL_law 765 = .ok (.i2l, 1) := by decide +kernel
theorem dL_law_766 : decode cL_law 766 = .ok (.lcmp, 1) := by decide +kernel
theorem dL_law_767 : decode cL_law 767 = .ok (.ifCond .eq 5, 3) := by decide +kernel
theorem dL_law_770 : decode cL_law 770 = .ok (.iconst 0, 1) := by decide +kernel
theorem dL_law_771 : decode cL_law 771 = .ok (.ireturn, 1) := by decide +kernel
theorem dL_law_772 : decode cL_law 772 = .ok (.goto 809, 3) := by decide +kernel
theorem dL_law_775 : decode cL_law 775 = .ok (.aload_n 1, 1) := by decide +kernel
theorem dL_law_776 : decode cL_law 776 = .ok (.aload_n 0, 1) := by decide +kernel
theorem dL_law_777 : decode cL_law 777 = .ok (.iload 4, 2) := by decide +kernel
theorem dL_law_779 : decode cL_law 779 = .ok (.iconst 1, 1) := by decide +kernel
theorem dL_law_780 : decode cL_law 780 = .ok (.iadd, 1) := by decide +kernel
theorem dL_law_781 : decode cL_law 781 = .ok (.iaload, 1) := by decide +kernel
theorem dL_law_782 : decode cL_law 782 = .ok (.aload_n 3, 1) := by decide +kernel
theorem dL_law_783 : decode cL_law 783 = .ok (.invokestatic 122, 3) := by decide +kernel
theorem dL_law_786 : decode cL_law 786 = .ok (.istore 5, 2) := by decide +kernel
theorem dL_law_788 : decode cL_law 788 = .ok (.aload_n 2, 1) := by decide +kernel
theorem dL_law_789 : decode cL_law 789 = .ok (.aload_n 0, 1) := by decide +kernel
theorem dL_law_790 : decode cL_law 790 = .ok (.iload 4, 2) := by decide +kernel
theorem dL_law_792 : decode cL_law 792 = .ok (.iconst 1, 1) := by decide +kernel
theorem dL_law_793 : decode cL_law 793 = .ok (.iadd, 1) := by decide +kernel
theorem dL_law_794 : decode cL_law 794 = .ok (.iaload, 1) := by decide +kernel
theorem dL_law_795 : decode cL_law 795 = .ok (.invokevirtual 124, 3) := by decide +kernel
theorem dL_law_798 : decode cL_law 798 = .ok (.istore 6, 2) := by decide +kernel
theorem dL_law_800 : decode cL_law 800 = .ok (.aload_n 2, 1) := by decide +kernel
theorem dL_law_801 : decode cL_law 801 = .ok (.invokevirtual 92, 3) := by decide +kernel
theorem dL_law_804 : decode cL_law 804 = .ok (.iload 5, 2) := by decide +kernel
theorem dL_law_806 : decode cL_law 806 = .ok (.if_icmp .eq 5, 3) := by decide +kernel
theorem dL_law_809 : decode cL_law 809 = .ok (.iconst 0, 1) := by decide +kernel
theorem dL_law_810 : decode cL_law 810 = .ok (.ireturn, 1) := by decide +kernel
theorem dL_law_811 : decode cL_law 811 = .ok (.iload 5, 2) := by decide +kernel
theorem dL_law_813 : decode cL_law 813 = .ok (.ifCond .ne 15, 3) := by decide +kernel
theorem dL_law_816 : decode cL_law 816 = .ok (.aload_n 3, 1) := by decide +kernel
theorem dL_law_817 : decode cL_law 817 = .ok (.iconst 0, 1) := by decide +kernel
theorem dL_law_818 : decode cL_law 818 = .ok (.laload, 1) := by decide +kernel
theorem dL_law_819 : decode cL_law 819 = .ok (.iload 6, 2) := by decide +kernel
theorem dL_law_821 : decode cL_law 821 = .ok (.i2l, 1) := by decide +kernel
theorem dL_law_822 : decode cL_law 822 = .ok (.lcmp, 1) := by decide +kernel
theorem dL_law_823 : decode cL_law 823 = .ok (.ifCond .eq 5, 3) := by decide +kernel
theorem dL_law_826 : decode cL_law 826 = .ok (.iconst 0, 1) := by decide +kernel
theorem dL_law_827 : decode cL_law 827 = .ok (.ireturn, 1) := by decide +kernel
theorem dL_law_828 : decode cL_law 828 = .ok (.goto 753, 3) := by decide +kernel
theorem dL_law_831 : decode cL_law 831 = .ok (.aload_n 1, 1) := by decide +kernel
theorem dL_law_832 : decode cL_law 832 = .ok (.invokevirtual 125, 3) := by decide +kernel
theorem dL_law_835 : decode cL_law 835 = .ok (.aload_n 2, 1) := by decide +kernel
theorem dL_law_836 : decode cL_law 836 = .ok (.invokevirtual 128, 3) := by decide +kernel
theorem dL_law_839 : decode cL_law 839 = .ok (.if_icmp .eq 742, 3) := by decide +kernel
theorem dL_law_842 : decode cL_law 842 = .ok (.iconst 0, 1) := by decide +kernel
theorem dL_law_843 : decode cL_law 843 = .ok (.ireturn, 1) := by decide +kernel
theorem dL_law_844 : decode cL_law 844 = .ok (.aload_n 1, 1) := by decide +kernel
theorem dL_law_845 : decode cL_law 845 = .ok (.aload_n 0, 1) := by decide +kernel
theorem dL_law_846 : decode cL_law 846 = .ok (.iload 4, 2) := by decide +kernel
theorem dL_law_848 : decode cL_law 848 = .ok (.iconst 1, 1) := by decide +kernel
theorem dL_law_849 : decode cL_law 849 = .ok (.iadd, 1) := by decide +kernel
theorem dL_law_850 : decode cL_law 850 = .ok (.iaload, 1) := by decide +kernel
theorem dL_law_851 : decode cL_law 851 = .ok (.aload_n 3, 1) := by decide +kernel
theorem dL_law_852 : decode cL_law 852 = .ok (.invokestatic 129, 3) := by decide +kernel
theorem dL_law_855 : decode cL_law 855 = .ok (.istore 5, 2) := by decide +kernel
theorem dL_law_857 : decode cL_law 857 = .ok (.aload_n 2, 1) := by decide +kernel
theorem dL_law_858 : decode cL_law 858 = .ok (.aload_n 0, 1) := by decide +kernel
theorem dL_law_859 : decode cL_law 859 = .ok (.iload 4, 2) := by decide +kernel
theorem dL_law_861 : decode cL_law 861 = .ok (.iconst 1, 1) := by decide +kernel
theorem dL_law_862 : decode cL_law 862 = .ok (.iadd, 1) := by decide +kernel
theorem dL_law_863 : decode cL_law 863 = .ok (.iaload, 1) := by decide +kernel
theorem dL_law_864 : decode cL_law 864 = .ok (.invokevirtual 131, 3) := by decide +kernel
theorem dL_law_867 : decode cL_law 867 = .ok (.istore 6, 2) := by decide +kernel
theorem dL_law_869 : decode cL_law 869 = .ok (.aload_n 2, 1) := by decide +kernel
theorem dL_law_870 : decode cL_law 870 = .ok (.invokevirtual 92, 3) := by decide +kernel
theorem dL_law_873 : decode cL_law 873 = .ok (.iload 5, 2) := by decide +kernel
theorem dL_law_875 : decode cL_law 875 = .ok (.if_icmp .eq 5, 3) := by decide +kernel
theorem dL_law_878 : decode cL_law 878 = .ok (.iconst 0, 1) := by decide +kernel
theorem dL_law_879 : decode cL_law 879 = .ok (.ireturn, 1) := by decide +kernel
theorem dL_law_880 : decode cL_law 880 = .ok (.iload 5, 2) := by decide +kernel
theorem dL_law_882 : decode cL_law 882 = .ok (.ifCond .ne 22, 3) := by decide +kernel
theorem dL_law_885 : decode cL_law 885 = .ok (.aload_n 3, 1) := by decide +kernel
theorem dL_law_886 : decode cL_law 886 = .ok (.iconst 0, 1) := by decide +kernel
theorem dL_law_887 : decode cL_law 887 = .ok (.laload, 1) := by decide +kernel
theorem dL_law_888 : decode cL_law 888 = .ok (.iload 6, 2) := by decide +kernel
theorem dL_law_890 : decode cL_law 890 = .ok (.ifCond .eq 7, 3) := by decide +kernel
theorem dL_law_893 : decode cL_law 893 = .ok (.lconst 1, 1) := by decide +kernel
theorem dL_law_894 : decode cL_law 894 = .ok (.goto 4, 3) := by decide +kernel
theorem dL_law_897 : decode cL_law 897 = .ok (.lconst 0, 1) := by decide +kernel
theorem dL_law_898 : decode cL_law 898 = .ok (.lcmp, 1) := by decide +kernel
theorem dL_law_899 : decode cL_law 899 = .ok (.ifCond .eq 5, 3) := by decide +kernel
theorem dL_law_902 : decode cL_law 902 = .ok (.iconst 0, 1) := by decide +kernel
theorem dL_law_903 : decode cL_law 903 = .ok (.ireturn, 1) := by decide +kernel
theorem dL_law_904 : decode cL_law 904 = .ok (.goto 677, 3) := by decide +kernel
theorem dL_law_907 : decode cL_law 907 = .ok (.aload_n 1, 1) := by decide +kernel
theorem dL_law_908 : decode cL_law 908 = .ok (.invokevirtual 132, 3) := by decide +kernel
theorem dL_law_911 : decode cL_law 911 = .ok (.aload_n 2, 1) := by decide +kernel
theorem dL_law_912 : decode cL_law 912 = .ok (.invokevirtual 135, 3) := by decide +kernel
theorem dL_law_915 : decode cL_law 915 = .ok (.if_icmp .eq 666, 3) := by decide +kernel
theorem dL_law_918 : decode cL_law 918 = .ok (.iconst 0, 1) := by decide +kernel
theorem dL_law_919 : decode cL_law 919 = .ok (.ireturn, 1) := by decide +kernel
theorem dL_law_920 : decode cL_law 920 = .ok (.aload_n 1, 1) := by decide +kernel
theorem dL_law_921 : decode cL_law 921 = .ok (.aload_n 0, 1) := by decide +kernel
theorem dL_law_922 : decode cL_law 922 = .ok (.iload 4, 2) := by decide +kernel
theorem dL_law_924 : decode cL_law 924 = .ok (.iconst 1, 1) := by decide +kernel
theorem dL_law_925 : decode cL_law 925 = .ok (.iadd, 1) := by decide +kernel
theorem dL_law_926 : decode cL_law 926 = .ok (.iaload, 1) := by decide +kernel
theorem dL_law_927 : decode cL_law 927 = .ok (.aload_n 3, 1) := by decide +kernel
theorem dL_law_928 : decode cL_law 928 = .ok (.invokestatic 136, 3) := by decide +kernel
theorem dL_law_931 : decode cL_law 931 = .ok (.istore 5, 2) := by decide +kernel
theorem dL_law_933 : decode cL_law 933 = .ok (.aload_n 2, 1) := by decide +kernel
theorem dL_law_934 : decode cL_law 934 = .ok (.aload_n 0, 1) := by decide +kernel
theorem dL_law_935 : decode cL_law 935 = .ok (.iload 4, 2) := by decide +kernel
theorem dL_law_937 : decode cL_law 937 = .ok (.iconst 1, 1) := by decide +kernel
theorem dL_law_938 : decode cL_law 938 = .ok (.iadd, 1) := by decide +kernel
theorem dL_law_939 : decode cL_law 939 = .ok (.iaload, 1) := by decide +kernel
theorem dL_law_940 : decode cL_law 940 = .ok (.invokevirtual 138, 3) := by decide +kernel
theorem dL_law_943 : decode cL_law 943 = .ok (.istore 6, 2) := by decide +kernel
theorem dL_law_945 : decode cL_law 945 = .ok (.aload_n 2, 1) := by decide +kernel
theorem dL_law_946 : decode cL_law 946 = .ok (.invokevirtual 92, 3) := by decide +kernel
theorem dL_law_949 : decode cL_law 949 = .ok (.iload 5, 2) := by decide +kernel
theorem dL_law_951 : decode cL_law 951 = .ok (.if_icmp .eq 5, 3) := by decide +kernel
theorem dL_law_954 : decode cL_law 954 = .ok (.iconst 0, 1) := by decide +kernel
theorem dL_law_955 : decode cL_law 955 = .ok (.ireturn, 1) := by decide +kernel
theorem dL_law_956 : decode cL_law 956 = .ok (.iload 5, 2) := by decide +kernel
theorem dL_law_958 : decode cL_law 958 = .ok (.ifCond .ne 15, 3) := by decide +kernel
theorem dL_law_961 : decode cL_law 961 = .ok (.aload_n 3, 1) := by decide +kernel
theorem dL_law_962 : decode cL_law 962 = .ok (.iconst 0, 1) := by decide +kernel
theorem dL_law_963 : decode cL_law 963 = .ok (.laload, 1) := by decide +kernel
theorem dL_law_964 : decode cL_law 964 = .ok (.iload 6, 2) := by decide +kernel
theorem dL_law_966 : decode cL_law 966 = .ok (.i2l, 1) := by decide +kernel
theorem dL_law_967 : decode cL_law 967 = .ok (.lcmp, 1) := by decide +kernel
theorem dL_law_968 : decode cL_law 968 = .ok (.ifCond .eq 5, 3) := by decide +kernel
theorem dL_law_971 : decode cL_law 971 = .ok (.iconst 0, 1) := by decide +kernel
theorem dL_law_972 : decode cL_law 972 = .ok (.ireturn, 1) := by decide +kernel
theorem dL_law_973 : decode cL_law 973 = .ok (.goto 608, 3) := by decide +kernel
theorem dL_law_976 : decode cL_law 976 = .ok (.aload_n 1, 1) := by decide +kernel
theorem dL_law_977 : decode cL_law 977 = .ok (.aload_n 0, 1) := by decide +kernel
theorem dL_law_978 : decode cL_law 978 = .ok (.iload 4, 2) := by decide +kernel
theorem dL_law_980 : decode cL_law 980 = .ok (.iconst 1, 1) := by decide +kernel
theorem dL_law_981 : decode cL_law 981 = .ok (.iadd, 1) := by decide +kernel
theorem dL_law_982 : decode cL_law 982 = .ok (.iaload, 1) := by decide +kernel
theorem dL_law_983 : decode cL_law 983 = .ok (.aload_n 3, 1) := by decide +kernel
theorem dL_law_984 : decode cL_law 984 = .ok (.invokestatic 139, 3) := by decide +kernel
theorem dL_law_987 : decode cL_law 987 = .ok (.istore 5, 2) := by decide +kernel
theorem dL_law_989 : decode cL_law 989 = .ok (.aload_n 2, 1) := by decide +kernel
theorem dL_law_990 : decode cL_law 990 = .ok (.aload_n 0, 1) := by decide +kernel
theorem dL_law_991 : decode cL_law 991 = .ok (.iload 4, 2) := by decide +kernel
theorem dL_law_993 : decode cL_law 993 = .ok (.iconst 1, 1) := by decide +kernel
theorem dL_law_994 : decode cL_law 994 = .ok (.iadd, 1) := by decide +kernel
theorem dL_law_995 : decode cL_law 995 = .ok (.iaload, 1) := by decide +kernel
theorem dL_law_996 : decode cL_law 996 = .ok (.invokevirtual 141, 3) := by decide +kernel
theorem dL_law_999 : decode cL_law 999 = .ok (.istore 6, 2) := by decide +kernel
theorem dL_law_1001 : decode cL_law 1001 = .ok (.aload_n 2, 1) := by decide +kernel
theorem dL_law_1002 : decode cL_law 1002 = .ok (.invokevirtual 92, 3) := by decide +kernel
theorem dL_law_1005 : decode cL_law 1005 = .ok (.iload 5, 2) := by decide +kernel
theorem dL_law_1007 : decode cL_law 1007 = .ok (.if_icmp .eq 5, 3) := by decide +kernel
theorem dL_law_1010 : decode cL_law 1010 = .ok (.iconst 0, 1) := by decide +kernel
theorem dL_law_1011 : decode cL_law 1011 = .ok (.ireturn, 1) := by decide +kernel
theorem dL_law_1012 : decode cL_law 1012 = .ok (.iload 5, 2) := by decide +kernel
theorem dL_law_1014 : decode cL_law 1014 = .ok (.ifCond .ne 15, 3) := by decide +kernel
theorem dL_law_1017 : decode cL_law 1017 = .ok (.aload_n 3, 1) := by decide +kernel
theorem dL_law_1018 : decode cL_law 1018 = .ok (.iconst 0, 1) := by decide +kernel
theorem dL_law_1019 : decode cL_law 1019 = .ok (.laload, 1) := by decide +kernel
theorem dL_law_1020 : decode cL_law 1020 = .ok (.iload 6, 2) := by decide +kernel
theorem dL_law_1022 : decode cL_law 1022 = .ok (.i2l, 1) := by decide +kernel
theorem dL_law_1023 : decode cL_law 1023 = .ok (.lcmp, 1) := by decide +kernel
theorem dL_law_1024 : decode cL_law 1024 = .ok (.ifCond .eq 5, 3) := by decide +kernel
theorem dL_law_1027 : decode cL_law 1027 = .ok (.iconst 0, 1) := by decide +kernel
theorem dL_law_1028 : decode cL_law 1028 = .ok (.ireturn, 1) := by decide +kernel
theorem dL_law_1029 : decode cL_law 1029 = .ok (.goto 552, 3) := by decide +kernel
theorem dL_law_1032 : decode cL_law 1032 = .ok (.aload_n 1, 1) := by decide +kernel
theorem dL_law_1033 : decode cL_law 1033 = .ok (.aload_n 0, 1) := by decide +kernel
theorem dL_law_1034 : decode cL_law 1034 = .ok (.iload 4, 2) := by decide +kernel
theorem dL_law_1036 : decode cL_law 1036 = .ok (.iconst 1, 1) := by decide +kernel
theorem dL_law_1037 : decode cL_law 1037 = .ok (.iadd, 1) := by decide +kernel
theorem dL_law_1038 : decode cL_law 1038 = .ok (.iaload, 1) := by decide +kernel
theorem dL_law_1039 : decode cL_law 1039 = .ok (.aload_n 3, 1) := by decide +kernel
theorem dL_law_1040 : decode cL_law 1040 = .ok (.invokestatic 142, 3) := by decide +kernel
theorem dL_law_1043 : decode cL_law 1043 = .ok (.istore 5, 2) := by decide +kernel
theorem dL_law_1045 : decode cL_law 1045 = .ok (.aload_n 2, 1) := by decide +kernel
theorem dL_law_1046 : decode cL_law 1046 = .ok (.aload_n 0, 1) := by decide +kernel
theorem dL_law_1047 : decode cL_law 1047 = .ok (.iload 4, 2) := by decide +kernel
theorem dL_law_1049 : decode cL_law 1049 = .ok (.iconst 1, 1) := by decide +kernel
theorem dL_law_1050 : decode cL_law 1050 = .ok (.iadd, 1) := by decide +kernel
theorem dL_law_1051 : decode cL_law 1051 = .ok (.iaload, 1) := by decide +kernel
theorem dL_law_1052 : decode cL_law 1052 = .ok (.invokevirtual 144, 3) := by decide +kernel
theorem dL_law_1055 : decode cL_law 1055 = .ok (.istore 6, 2) := by decide +kernel
theorem dL_law_1057 : decode cL_law 1057 = .ok (.aload_n 2, 1) := by decide +kernel
theorem dL_law_1058 : decode cL_law 1058 = .ok (.invokevirtual 92, 3) := by decide +kernel
theorem dL_law_1061 : decode cL_law 1061 = .ok (.iload 5, 2) := by decide +kernel
theorem dL_law_1063 : decode cL_law 1063 = .ok (.if_icmp .eq 5, 3) := by decide +kernel
theorem dL_law_1066 : decode cL_law 1066 = .ok (.iconst 0, 1) := by decide +kernel
theorem dL_law_1067 : decode cL_law 1067 = .ok (.ireturn, 1) := by decide +kernel
theorem dL_law_1068 : decode cL_law 1068 = .ok (.iload 5, 2) := by decide +kernel
theorem dL_law_1070 : decode cL_law 1070 = .ok (.ifCond .ne 15, 3) := by decide +kernel
theorem dL_law_1073 : decode cL_law 1073 = .ok (.aload_n 3, 1) := by decide +kernel
theorem dL_law_1074 : decode cL_law 1074 = .ok (.iconst 0, 1) := by decide +kernel
theorem dL_law_1075 : decode cL_law 1075 = .ok (.laload, 1) := by decide +kernel
theorem dL_law_1076 : decode cL_law 1076 = .ok (.iload 6, 2) := by decide +kernel
theorem dL_law_1078 : decode cL_law 1078 = .ok (.i2l, 1) := by decide +kernel
theorem dL_law_1079 : decode cL_law 1079 = .ok (.lcmp, 1) := by decide +kernel
theorem dL_law_1080 : decode cL_law 1080 = .ok (.ifCond .eq 5, 3) := by decide +kernel
theorem dL_law_1083 : decode cL_law 1083 = .ok (.iconst 0, 1) := by decide +kernel
theorem dL_law_1084 : decode cL_law 1084 = .ok (.ireturn, 1) := by decide +kernel
theorem dL_law_1085 : decode cL_law 1085 = .ok (.goto 496, 3) := by decide +kernel
theorem dL_law_1088 : decode cL_law 1088 = .ok (.aload_n 1, 1) := by decide +kernel
theorem dL_law_1089 : decode cL_law 1089 = .ok (.aload_n 0, 1) := by decide +kernel
theorem dL_law_1090 : decode cL_law 1090 = .ok (.iload 4, 2) := by decide +kernel
theorem dL_law_1092 : decode cL_law 1092 = .ok (.iconst 1, 1) := by decide +kernel
theorem dL_law_1093 : decode cL_law 1093 = .ok (.iadd, 1) := by decide +kernel
theorem dL_law_1094 : decode cL_law 1094 = .ok (.iaload, 1) := by decide +kernel
theorem dL_law_1095 : decode cL_law 1095 = .ok (.aload_n 0, 1) := by decide +kernel
theorem dL_law_1096 : decode cL_law 1096 = .ok (.iload 4, 2) := by decide +kernel
theorem dL_law_1098 : decode cL_law 1098 = .ok (.iconst 2, 1) := by decide +kernel
theorem dL_law_1099 : decode cL_law 1099 = .ok (.iadd, 1) := by decide +kernel
theorem dL_law_1100 : decode cL_law 1100 = .ok (.iaload, 1) := by decide +kernel
theorem dL_law_1101 : decode cL_law 1101 = .ok (.aload_n 3, 1) := by decide +kernel
theorem dL_law_1102 : decode cL_law 1102 = .ok (.invokestatic 145, 3) := by decide +kernel
theorem dL_law_1105 : decode cL_law 1105 = .ok (.istore 5, 2) := by decide +kernel
theorem dL_law_1107 : decode cL_law 1107 = .ok (.aload_n 2, 1) := by decide +kernel
theorem dL_law_1108 : decode cL_law 1108 = .ok (.aload_n 0, 1) := by decide +kernel
theorem dL_law_1109 : decode cL_law 1109 = .ok (.iload 4, 2) := by decide +kernel
theorem dL_law_1111 : decode cL_law 1111 = .ok (.iconst 1, 1) := by decide +kernel
theorem dL_law_1112 : decode cL_law 1112 = .ok (.iadd, 1) := by decide +kernel
theorem dL_law_1113 : decode cL_law 1113 = .ok (.iaload, 1) := by decide +kernel
theorem dL_law_1114 : decode cL_law 1114 = .ok (.aload_n 0, 1) := by decide +kernel
theorem dL_law_1115 : decode cL_law 1115 = .ok (.iload 4, 2) := by decide +kernel
theorem dL_law_1117 : decode cL_law 1117 = .ok (.iconst 2, 1) := by decide +kernel
theorem dL_law_1118 : decode cL_law 1118 = .ok (.iadd, 1) := by decide +kernel
theorem dL_law_1119 : decode cL_law 1119 = .ok (.iaload, 1) := by decide +kernel
theorem dL_law_1120 : decode cL_law 1120 = .ok (.invokevirtual 147, 3) := by decide +kernel
theorem dL_law_1123 : decode cL_law 1123 = .ok (.istore 6, 2) := by decide +kernel
theorem dL_law_1125 : decode cL_law 1125 = .ok (.aload_n 2, 1) := by decide +kernel
theorem dL_law_1126 : decode cL_law 1126 = .ok (.invokevirtual 92, 3) := by decide +kernel
theorem dL_law_1129 : decode cL_law 1129 = .ok (.iload 5, 2) := by decide +kernel
theorem dL_law_1131 : decode cL_law 1131 = .ok (.if_icmp .eq 5, 3) := by decide +kernel
theorem dL_law_1134 : decode cL_law 1134 = .ok (.iconst 0, 1) := by decide +kernel
theorem dL_law_1135 : decode cL_law 1135 = .ok (.ireturn, 1) := by decide +kernel
theorem dL_law_1136 : decode cL_law 1136 = .ok (.iload 5, 2) := by decide +kernel
theorem dL_law_1138 : decode cL_law 1138 = .ok (.ifCond .ne 15, 3) := by decide +kernel
theorem dL_law_1141 : decode cL_law 1141 = .ok (.aload_n 3, 1) := by decide +kernel
theorem dL_law_1142 : decode cL_law 1142 = .ok (.iconst 0, 1) := by decide +kernel
theorem dL_law_1143 : decode cL_law 1143 = .ok (.laload, 1) := by decide +kernel
theorem dL_law_1144 : decode cL_law 1144 = .ok (.iload 6, 2) := by decide +kernel
theorem dL_law_1146 : decode cL_law 1146 = .ok (.i2l, 1) := by decide +kernel
theorem dL_law_1147 : decode cL_law 1147 = .ok (.lcmp, 1) := by decide +kernel
theorem dL_law_1148 : decode cL_law 1148 = .ok (.ifCond .eq 5, 3) := by decide +kernel
theorem dL_law_1151 : decode cL_law 1151 = .ok (.iconst 0, 1) := by decide +kernel
theorem dL_law_1152 : decode cL_law 1152 = .ok (.ireturn, 1) := by decide +kernel
theorem dL_law_1153 : decode cL_law 1153 = .ok (.goto 428, 3) := by decide +kernel
theorem dL_law_1156 : decode cL_law 1156 = .ok (.aload_n 1, 1) := by decide +kernel
theorem dL_law_1157 : decode cL_law 1157 = .ok (.aload_n 0, 1) := by decide +kernel
theorem dL_law_1158 : decode cL_law 1158 = .ok (.iload 4, 2) := by decide +kernel
theorem dL_law_1160 : decode cL_law 1160 = .ok (.iconst 1, 1) := by decide +kernel
theorem dL_law_1161 : decode cL_law 1161 = .ok (.iadd, 1) := by decide +kernel
theorem dL_law_1162 : decode cL_law 1162 = .ok (.iaload, 1) := by decide +kernel
theorem dL_law_1163 : decode cL_law 1163 = .ok (.aload_n 3, 1) := by decide +kernel
theorem dL_law_1164 : decode cL_law 1164 = .ok (.invokestatic 148, 3) := by decide +kernel
theorem dL_law_1167 : decode cL_law 1167 = .ok (.istore 5, 2) := by decide +kernel
theorem dL_law_1169 : decode cL_law 1169 = .ok (.aload_n 2, 1) := by decide +kernel
theorem dL_law_1170 : decode cL_law 1170 = .ok (.aload_n 0, 1) := by decide +kernel
theorem dL_law_1171 : decode cL_law 1171 = .ok (.iload 4, 2) := by decide +kernel
theorem dL_law_1173 : decode cL_law 1173 = .ok (.iconst 1, 1) := by decide +kernel
theorem dL_law_1174 : decode cL_law 1174 = .ok (.iadd, 1) := by decide +kernel
theorem dL_law_1175 : decode cL_law 1175 = .ok (.iaload, 1) := by decide +kernel
theorem dL_law_1176 : decode cL_law 1176 = .ok (.invokevirtual 150, 3) := by decide +kernel
theorem dL_law_1179 : decode cL_law 1179 = .ok (.istore 6, 2) := by decide +kernel
theorem dL_law_1181 : decode cL_law 1181 = .ok (.aload_n 2, 1) := by decide +kernel
theorem dL_law_1182 : decode cL_law 1182 = .ok (.invokevirtual 92, 3) := by decide +kernel
theorem dL_law_1185 : decode cL_law 1185 = .ok (.iload 5, 2) := by decide +kernel
theorem dL_law_1187 : decode cL_law 1187 = .ok (.if_icmp .eq 5, 3) := by decide +kernel
theorem dL_law_1190 : decode cL_law 1190 = .ok (.iconst 0, 1) := by decide +kernel
theorem dL_law_1191 : decode cL_law 1191 = .ok (.ireturn, 1) := by decide +kernel
theorem dL_law_1192 : decode cL_law 1192 = .ok (.iload 5, 2) := by decide +kernel
theorem dL_law_1194 : decode cL_law 1194 = .ok (.ifCond .ne 15, 3) := by decide +kernel
theorem dL_law_1197 : decode cL_law 1197 = .ok (.aload_n 3, 1) := by decide +kernel
theorem dL_law_1198 : decode cL_law 1198 = .ok (.iconst 0, 1) := by decide +kernel
theorem dL_law_1199 : decode cL_law 1199 = .ok (.laload, 1) := by decide +kernel
theorem dL_law_1200 : decode cL_law 1200 = .ok (.iload 6, 2) := by decide +kernel
theorem dL_law_1202 : decode cL_law 1202 = .ok (.i2l, 1) := by decide +kernel
theorem dL_law_1203 : decode cL_law 1203 = .ok (.lcmp, 1) := by decide +kernel
theorem dL_law_1204 : decode cL_law 1204 = .ok (.ifCond .eq 5, 3) := by decide +kernel
theorem dL_law_1207 : decode cL_law 1207 = .ok (.iconst 0, 1) := by decide +kernel
theorem dL_law_1208 : decode cL_law 1208 = .ok (.ireturn, 1) := by decide +kernel
theorem dL_law_1209 : decode cL_law 1209 = .ok (.goto 372, 3) := by decide +kernel
theorem dL_law_1212 : decode cL_law 1212 = .ok (.aload_n 1, 1) := by decide +kernel
theorem dL_law_1213 : decode cL_law 1213 = .ok (.aload_n 0, 1) := by decide +kernel
theorem dL_law_1214 : decode cL_law 1214 = .ok (.iload 4, 2) := by decide +kernel
theorem dL_law_1216 : decode cL_law 1216 = .ok (.iconst 1, 1) := by decide +kernel
theorem dL_law_1217 : decode cL_law 1217 = .ok (.iadd, 1) := by decide +kernel
theorem dL_law_1218 : decode cL_law 1218 = .ok (.iaload, 1) := by decide +kernel
theorem dL_law_1219 : decode cL_law 1219 = .ok (.aload_n 3, 1) := by decide +kernel
theorem dL_law_1220 : decode cL_law 1220 = .ok (.invokestatic 151, 3) := by decide +kernel
theorem dL_law_1223 : decode cL_law 1223 = .ok (.istore 5, 2) := by decide +kernel
theorem dL_law_1225 : decode cL_law 1225 = .ok (.aload_n 2, 1) := by decide +kernel
theorem dL_law_1226 : decode cL_law 1226 = .ok (.aload_n 0, 1) := by decide +kernel
theorem dL_law_1227 : decode cL_law 1227 = .ok (.iload 4, 2) := by decide +kernel
theorem dL_law_1229 : decode cL_law 1229 = .ok (.iconst 1, 1) := by decide +kernel
theorem dL_law_1230 : decode cL_law 1230 = .ok (.iadd, 1) := by decide +kernel
theorem dL_law_1231 : decode cL_law 1231 = .ok (.iaload, 1) := by decide +kernel
theorem dL_law_1232 : decode cL_law 1232 = .ok (.invokevirtual 153, 3) := by decide +kernel
theorem dL_law_1235 : decode cL_law 1235 = .ok (.istore 6, 2) := by decide +kernel
theorem dL_law_1237 : decode cL_law 1237 = .ok (.aload_n 2, 1) := by decide +kernel
theorem dL_law_1238 : decode cL_law 1238 = .ok (.invokevirtual 92, 3) := by decide +kernel
theorem dL_law_1241 : decode cL_law 1241 = .ok (.iload 5, 2) := by decide +kernel
theorem dL_law_1243 : decode cL_law 1243 = .ok (.if_icmp .eq 5, 3) := by decide +kernel
theorem dL_law_1246 : decode cL_law 1246 = .ok (.iconst 0, 1) := by decide +kernel
theorem dL_law_1247 : decode cL_law 1247 = .ok (.ireturn, 1) := by decide +kernel
theorem dL_law_1248 : decode cL_law 1248 = .ok (.iload 5, 2) := by decide +kernel
theorem dL_law_1250 : decode cL_law 1250 = .ok (.ifCond .ne 15, 3) := by decide +kernel
theorem dL_law_1253 : decode cL_law 1253 = .ok (.aload_n 3, 1) := by decide +kernel
theorem dL_law_1254 : decode cL_law 1254 = .ok (.iconst 0, 1) := by decide +kernel
theorem dL_law_1255 : decode cL_law 1255 = .ok (.laload, 1) := by decide +kernel
theorem dL_law_1256 : decode cL_law 1256 = .ok (.iload 6, 2) := by decide +kernel
theorem dL_law_1258 : decode cL_law 1258 = .ok (.i2l, 1) := by decide +kernel
theorem dL_law_1259 : decode cL_law 1259 = .ok (.lcmp, 1) := by decide +kernel
theorem dL_law_1260 : decode cL_law 1260 = .ok (.ifCond .eq 5, 3) := by decide +kernel
theorem dL_law_1263 : decode cL_law 1263 = .ok (.iconst 0, 1) := by decide +kernel
theorem dL_law_1264 : decode cL_law 1264 = .ok (.ireturn, 1) := by decide +kernel
theorem dL_law_1265 : decode cL_law 1265 = .ok (.goto 316, 3) := by decide +kernel
theorem dL_law_1268 : decode cL_law 1268 = .ok (.aload_n 1, 1) := by decide +kernel
theorem dL_law_1269 : decode cL_law 1269 = .ok (.aload_n 0, 1) := by decide +kernel
theorem dL_law_1270 : decode cL_law 1270 = .ok (.iload 4, 2) := by decide +kernel
theorem dL_law_1272 : decode cL_law 1272 = .ok (.iconst 1, 1) := by decide +kernel
theorem dL_law_1273 : decode cL_law 1273 = .ok (.iadd, 1) := by decide +kernel
theorem dL_law_1274 : decode cL_law 1274 = .ok (.iaload, 1) := by decide +kernel
theorem dL_law_1275 : decode cL_law 1275 = .ok (.aload_n 3, 1) := by decide +kernel
theorem dL_law_1276 : decode cL_law 1276 = .ok (.invokestatic 154, 3) := by decide +kernel
theorem dL_law_1279 : decode cL_law 1279 = .ok (.istore 5, 2) := by decide +kernel
theorem dL_law_1281 : decode cL_law 1281 = .ok (.aload_n 2, 1) := by decide +kernel
theorem dL_law_1282 : decode cL_law 1282 = .ok (.aload_n 0, 1) := by decide +kernel
theorem dL_law_1283 : decode cL_law 1283 = .ok (.iload 4, 2) := by decide +kernel
theorem dL_law_1285 : decode cL_law 1285 = .ok (.iconst 1, 1) := by decide +kernel
theorem dL_law_1286 : decode cL_law 1286 = .ok (.iadd, 1) := by decide +kernel
theorem dL_law_1287 : decode cL_law 1287 = .ok (.iaload, 1) := by decide +kernel
theorem dL_law_1288 : decode cL_law 1288 = .ok (.invokevirtual 156, 3) := by decide +kernel
theorem dL_law_1291 : decode cL_law 1291 = .ok (.istore 6, 2) := by decide +kernel
theorem dL_law_1293 : decode cL_law 1293 = .ok (.aload_n 2, 1) := by decide +kernel
theorem dL_law_1294 : decode cL_law 1294 = .ok (.invokevirtual 92, 3) := by decide +kernel
theorem dL_law_1297 : decode cL_law 1297 = .ok (.iload 5, 2) := by decide +kernel
theorem dL_law_1299 : decode cL_law 1299 = .ok (.if_icmp .eq 5, 3) := by decide +kernel
theorem dL_law_1302 : decode cL_law 1302 = .ok (.iconst 0, 1) := by decide +kernel
theorem dL_law_1303 : decode cL_law 1303 = .ok (.ireturn, 1) := by decide +kernel
theorem dL_law_1304 : decode cL_law 1304 = .ok (.iload 5, 2) := by decide +kernel
theorem dL_law_1306 : decode cL_law 1306 = .ok (.ifCond .ne 15, 3) := by decide +kernel
theorem dL_law_1309 : decode cL_law 1309 = .ok (.aload_n 3, 1) := by decide +kernel
theorem dL_law_1310 : decode cL_law 1310 = .ok (.iconst 0, 1) := by decide +kernel
theorem dL_law_1311 : decode cL_law 1311 = .ok (.laload, 1) := by decide +kernel
theorem dL_law_1312 : decode cL_law 1312 = .ok (.iload 6, 2) := by decide +kernel
theorem dL_law_1314 : decode cL_law 1314 = .ok (.i2l, 1) := by decide +kernel
theorem dL_law_1315 : decode cL_law 1315 = .ok (.lcmp, 1) := by decide +kernel
theorem dL_law_1316 : decode cL_law 1316 = .ok (.ifCond .eq 5, 3) := by decide +kernel
theorem dL_law_1319 : decode cL_law 1319 = .ok (.iconst 0, 1) := by decide +kernel
theorem dL_law_1320 : decode cL_law 1320 = .ok (.ireturn, 1) := by decide +kernel
theorem dL_law_1321 : decode cL_law 1321 = .ok (.goto 260, 3) := by decide +kernel
theorem dL_law_1324 : decode cL_law 1324 = .ok (.aload_n 1, 1) := by decide +kernel
theorem dL_law_1325 : decode cL_law 1325 = .ok (.invokevirtual 157, 3) := by decide +kernel
theorem dL_law_1328 : decode cL_law 1328 = .ok (.aload_n 2, 1) := by decide +kernel
theorem dL_law_1329 : decode cL_law 1329 = .ok (.invokevirtual 160, 3) := by decide +kernel
theorem dL_law_1332 : decode cL_law 1332 = .ok (.if_icmp .eq 249, 3) := by decide +kernel
theorem dL_law_1335 : decode cL_law 1335 = .ok (.iconst 0, 1) := by decide +kernel
theorem dL_law_1336 : decode cL_law 1336 = .ok (.ireturn, 1) := by decide +kernel
theorem dL_law_1337 : decode cL_law 1337 = .ok (.aload_n 1, 1) := by decide +kernel
theorem dL_law_1338 : decode cL_law 1338 = .ok (.invokevirtual 161, 3) := by decide +kernel
theorem dL_law_1341 : decode cL_law 1341 = .ok (.aload_n 2, 1) := by decide +kernel
theorem dL_law_1342 : decode cL_law 1342 = .ok (.invokevirtual 164, 3) := by decide +kernel
theorem dL_law_1345 : decode cL_law 1345 = .ok (.if_icmp .eq 236, 3) := by decide +kernel
theorem dL_law_1348 : decode cL_law 1348 = .ok (.iconst 0, 1) := by decide +kernel
theorem dL_law_1349 : decode cL_law 1349 = .ok (.ireturn, 1) := by decide +kernel
theorem dL_law_1350 : decode cL_law 1350 = .ok (.aload_n 1, 1) := by decide +kernel
theorem dL_law_1351 : decode cL_law 1351 = .ok (.invokevirtual 165, 3) := by decide +kernel
theorem dL_law_1354 : decode cL_law 1354 = .ok (.aload_n 2, 1) := by decide +kernel
theorem dL_law_1355 : decode cL_law 1355 = .ok (.invokevirtual 168, 3) := by decide +kernel
theorem dL_law_1358 : decode cL_law 1358 = .ok (.if_icmp .eq 223, 3) := by decide +kernel
theorem dL_law_1361 : decode cL_law 1361 = .ok (.iconst 0, 1) := by decide +kernel
theorem dL_law_1362 : decode cL_law 1362 = .ok (.ireturn, 1) := by decide +kernel
theorem dL_law_1363 : decode cL_law 1363 = .ok (.aload_n 1, 1) := by decide +kernel
theorem dL_law_1364 : decode cL_law 1364 = .ok (.invokevirtual 169, 3) := by decide +kernel
theorem dL_law_1367 : decode cL_law 1367 = .ok (.aload_n 2, 1) := by decide +kernel
theorem dL_law_1368 : decode cL_law 1368 = .ok (.invokevirtual 172, 3) := by decide +kernel
theorem dL_law_1371 : decode cL_law 1371 = .ok (.if_icmp .eq 210, 3) := by decide +kernel
theorem dL_law_1374 : decode cL_law 1374 = .ok (.iconst 0, 1) := by decide +kernel
theorem dL_law_1375 : decode cL_law 1375 = .ok (.ireturn, 1) := by decide +kernel
theorem dL_law_1376 : decode cL_law 1376 = .ok (.aload_n 1, 1) := by decide +kernel
theorem dL_law_1377 : decode cL_law 1377 = .ok (.aload_n 0, 1) := by decide +kernel
theorem dL_law_1378 : decode cL_law 1378 = .ok (.iload 4, 2) := by decide +kernel
theorem dL_law_1380 : decode cL_law 1380 = .ok (.iconst 1, 1) := by decide +kernel
theorem dL_law_1381 : decode cL_law 1381 = .ok (.iadd, 1) := by decide +kernel
theorem dL_law_1382 : decode cL_law 1382 = .ok (.iaload, 1) := by decide +kernel
theorem dL_law_1383 : decode cL_law 1383 = .ok (.aload_n 0, 1) := by decide +kernel
theorem dL_law_1384 : decode cL_law 1384 = .ok (.iload 4, 2) := by decide +kernel
theorem dL_law_1386 : decode cL_law 1386 = .ok (.iconst 2, 1) := by decide +kernel
theorem dL_law_1387 : decode cL_law 1387 = .ok (.iadd, 1) := by decide +kernel
theorem dL_law_1388 : decode cL_law 1388 = .ok (.iaload, 1) := by decide +kernel
theorem dL_law_1389 : decode cL_law 1389 = .ok (.aload_n 3, 1) := by decide +kernel
theorem dL_law_1390 : decode cL_law 1390 = .ok (.invokestatic 173, 3) := by decide +kernel
theorem dL_law_1393 : decode cL_law 1393 = .ok (.istore 5, 2) := by decide +kernel
theorem dL_law_1395 : decode cL_law 1395 = .ok (.aload_n 2, 1) := by decide +kernel
theorem dL_law_1396 : decode cL_law 1396 = .ok (.aload_n 0, 1) := by decide +kernel
theorem dL_law_1397 : decode cL_law 1397 = .ok (.iload 4, 2) := by decide +kernel
theorem dL_law_1399 : decode cL_law 1399 = .ok (.iconst 1, 1) := by decide +kernel
theorem dL_law_1400 : decode cL_law 1400 = .ok (.iadd, 1) := by decide +kernel
theorem dL_law_1401 : decode cL_law 1401 = .ok (.iaload, 1) := by decide +kernel
theorem dL_law_1402 : decode cL_law 1402 = .ok (.aload_n 0, 1) := by decide +kernel
theorem dL_law_1403 : decode cL_law 1403 = .ok (.iload 4, 2) := by decide +kernel
theorem dL_law_1405 : decode cL_law 1405 = .ok (.iconst 2, 1) := by decide +kernel
theorem dL_law_1406 : decode cL_law 1406 = .ok (.iadd, 1) := by decide +kernel
theorem dL_law_1407 : decode cL_law 1407 = .ok (.iaload, 1) := by decide +kernel
theorem dL_law_1408 : decode cL_law 1408 = .ok (.invokevirtual 175, 3) := by decide +kernel
theorem dL_law_1411 : decode cL_law 1411 = .ok (.istore 6, 2) := by decide +kernel
theorem dL_law_1413 : decode cL_law 1413 = .ok (.aload_n 2, 1) := by decide +kernel
theorem dL_law_1414 : decode cL_law 1414 = .ok (.invokevirtual 92, 3) := by decide +kernel
theorem dL_law_1417 : decode cL_law 1417 = .ok (.iload 5, 2) := by decide +kernel
theorem dL_law_1419 : decode cL_law 1419 = .ok (.if_icmp .eq 5, 3) := by decide +kernel
theorem dL_law_1422 : decode cL_law 1422 = .ok (.iconst 0, 1) := by decide +kernel
theorem dL_law_1423 : decode cL_law 1423 = .ok (.ireturn, 1) := by decide +kernel
theorem dL_law_1424 : decode cL_law 1424 = .ok (.iload 5, 2) := by decide +kernel
theorem dL_law_1426 : decode cL_law 1426 = .ok (.ifCond .ne 15, 3) := by decide +kernel
theorem dL_law_1429 : decode cL_law 1429 = .ok (.aload_n 3, 1) := by decide +kernel
theorem dL_law_1430 : decode cL_law 1430 = .ok (.iconst 0, 1) := by decide +kernel
theorem dL_law_1431 : decode cL_law 1431 = .ok (.laload, 1) := by decide +kernel
theorem dL_law_1432 : decode cL_law 1432 = .ok (.iload 6, 2) := by decide +kernel
theorem dL_law_1434 : decode cL_law 1434 = .ok (.i2l, 1) := by decide +kernel
theorem dL_law_1435 : decode cL_law 1435 = .ok (.lcmp, 1) := by decide +kernel
theorem dL_law_1436 : decode cL_law 1436 = .ok (.ifCond .eq 5, 3) := by decide +kernel
theorem dL_law_1439 : decode cL_law 1439 = .ok (.iconst 0, 1) := by decide +kernel
theorem dL_law_1440 : decode cL_law 1440 = .ok (.ireturn, 1) := by decide +kernel
theorem dL_law_1441 : decode cL_law 1441 = .ok (.goto 140, 3) := by decide +kernel
theorem dL_law_1444 : decode cL_law 1444 = .ok (.aload_n 1, 1) := by decide +kernel
theorem dL_law_1445 : decode cL_law 1445 = .ok (.invokevirtual 176, 3) := by decide +kernel
theorem dL_law_1448 : decode cL_law 1448 = .ok (.aload_n 2, 1) := by decide +kernel
theorem dL_law_1449 : decode cL_law 1449 = .ok (.invokevirtual 179, 3) := by decide +kernel
theorem dL_law_1452 : decode cL_law 1452 = .ok (.if_icmp .eq 129, 3) := by decide +kernel
theorem dL_law_1455 : decode cL_law 1455 = .ok (.iconst 0, 1) := by decide +kernel
theorem dL_law_1456 : decode cL_law 1456 = .ok (.ireturn, 1) := by decide +kernel
theorem dL_law_1457 : decode cL_law 1457 = .ok (.aload_n 1, 1) := by decide +kernel
theorem dL_law_1458 : decode cL_law 1458 = .ok (.aload_n 0, 1) := by decide +kernel
theorem dL_law_1459 : decode cL_law 1459 = .ok (.iload 4, 2) := by decide +kernel
theorem dL_law_1461 : decode cL_law 1461 = .ok (.iconst 1, 1) := by decide +kernel
theorem dL_law_1462 : decode cL_law 1462 = .ok (.iadd, 1) := by decide +kernel
theorem dL_law_1463 : decode cL_law 1463 = .ok (.iaload, 1) := by decide +kernel
theorem dL_law_1464 : decode cL_law 1464 = .ok (.aload_n 3, 1) := by decide +kernel
theorem dL_law_1465 : decode cL_law 1465 = .ok (.invokestatic 180, 3) := by decide +kernel
theorem dL_law_1468 : decode cL_law 1468 = .ok (.istore 5, 2) := by decide +kernel
theorem dL_law_1470 : decode cL_law 1470 = .ok (.aload_n 2, 1) := by decide +kernel
theorem dL_law_1471 : decode cL_law 1471 = .ok (.aload_n 0, 1) := by decide +kernel
theorem dL_law_1472 : decode cL_law 1472 = .ok (.iload 4, 2) := by decide +kernel
theorem dL_law_1474 : decode cL_law 1474 = .ok (.iconst 1, 1) := by decide +kernel
theorem dL_law_1475 : decode cL_law 1475 = .ok (.iadd, 1) := by decide +kernel
theorem dL_law_1476 : decode cL_law 1476 = .ok (.iaload, 1) := by decide +kernel
theorem dL_law_1477 : decode cL_law 1477 = .ok (.invokevirtual 182, 3) := by decide +kernel
theorem dL_law_1480 : decode cL_law 1480 = .ok (.istore 6, 2) := by decide +kernel
theorem dL_law_1482 : decode cL_law 1482 = .ok (.aload_n 2, 1) := by decide +kernel
theorem dL_law_1483 : decode cL_law 1483 = .ok (.invokevirtual 92, 3) := by decide +kernel
theorem dL_law_1486 : decode cL_law 1486 = .ok (.iload 5, 2) := by decide +kernel
theorem dL_law_1488 : decode cL_law 1488 = .ok (.if_icmp .eq 5, 3) := by decide +kernel
theorem dL_law_1491 : decode cL_law 1491 = .ok (.iconst 0, 1) := by decide +kernel
theorem dL_law_1492 : decode cL_law 1492 = .ok (.ireturn, 1) := by decide +kernel
theorem dL_law_1493 : decode cL_law 1493 = .ok (.iload 5, 2) := by decide +kernel
theorem dL_law_1495 : decode cL_law 1495 = .ok (.ifCond .ne 15, 3) := by decide +kernel
theorem dL_law_1498 : decode cL_law 1498 = .ok (.aload_n 3, 1) := by decide +kernel
theorem dL_law_1499 : decode cL_law 1499 = .ok (.iconst 0, 1) := by decide +kernel
theorem dL_law_1500 : decode cL_law 1500 = .ok (.laload, 1) := by decide +kernel
theorem dL_law_1501 : decode cL_law 1501 = .ok (.iload 6, 2) := by decide +kernel
theorem dL_law_1503 : decode cL_law 1503 = .ok (.i2l, 1) := by decide +kernel
theorem dL_law_1504 : decode cL_law 1504 = .ok (.lcmp, 1) := by decide +kernel
theorem dL_law_1505 : decode cL_law 1505 = .ok (.ifCond .eq 5, 3) := by decide +kernel
theorem dL_law_1508 : decode cL_law 1508 = .ok (.iconst 0, 1) := by decide +kernel
theorem dL_law_1509 : decode cL_law 1509 = .ok (.ireturn, 1) := by decide +kernel
theorem dL_law_1510 : decode cL_law 1510 = .ok (.goto 71, 3) := by decide +kernel
theorem dL_law_1513 : decode cL_law 1513 = .ok (.aload_n 1, 1) := by decide +kernel
theorem dL_law_1514 : decode cL_law 1514 = .ok (.aload_n 0, 1) := by decide +kernel
theorem dL_law_1515 : decode cL_law 1515 = .ok (.iload 4, 2) := by decide +kernel
theorem dL_law_1517 : decode cL_law 1517 = .ok (.iconst 1, 1) := by decide +kernel
theorem dL_law_1518 : decode cL_law 1518 = .ok (.iadd, 1) := by decide +kernel
theorem dL_law_1519 : decode cL_law 1519 = .ok (.iaload, 1) := by decide +kernel
theorem dL_law_1520 : decode cL_law 1520 = .ok (.aload_n 0, 1) := by decide +kernel
theorem dL_law_1521 : decode cL_law 1521 = .ok (.iload 4, 2) := by decide +kernel
theorem dL_law_1523 : decode cL_law 1523 = .ok (.iconst 2, 1) := by decide +kernel
theorem dL_law_1524 : decode cL_law 1524 = .ok (.iadd, 1) := by decide +kernel
theorem dL_law_1525 : decode cL_law 1525 = .ok (.iaload, 1) := by decide +kernel
theorem dL_law_1526 : decode cL_law 1526 = .ok (.aload_n 3, 1) := by decide +kernel
theorem dL_law_1527 : decode cL_law 1527 = .ok (.invokestatic 183, 3) := by decide +kernel
theorem dL_law_1530 : decode cL_law 1530 = .ok (.istore 5, 2) := by decide +kernel
theorem dL_law_1532 : decode cL_law 1532 = .ok (.aload_n 2, 1) := by decide +kernel
theorem dL_law_1533 : decode cL_law 1533 = .ok (.aload_n 0, 1) := by decide +kernel
theorem dL_law_1534 : decode cL_law 1534 = .ok (.iload 4, 2) := by decide +kernel
theorem dL_law_1536 : decode cL_law 1536 = .ok (.iconst 1, 1) := by decide +kernel
theorem dL_law_1537 : decode cL_law 1537 = .ok (.iadd, 1) := by decide +kernel
theorem dL_law_1538 : decode cL_law 1538 = .ok (.iaload, 1) := by decide +kernel
theorem dL_law_1539 : decode cL_law 1539 = .ok (.aload_n 0, 1) := by decide +kernel
theorem dL_law_1540 : decode cL_law 1540 = .ok (.iload 4, 2) := by decide +kernel
theorem dL_law_1542 : decode cL_law 1542 = .ok (.iconst 2, 1) := by decide +kernel
theorem dL_law_1543 : decode cL_law 1543 = .ok (.iadd, 1) := by decide +kernel
theorem dL_law_1544 : decode cL_law 1544 = .ok (.iaload, 1) := by decide +kernel
theorem dL_law_1545 : decode cL_law 1545 = .ok (.invokevirtual 185, 3) := by decide +kernel
theorem dL_law_1548 : decode cL_law 1548 = .ok (.istore 6, 2) := by decide +kernel
theorem dL_law_1550 : decode cL_law 1550 = .ok (.aload_n 2, 1) := by decide +kernel
theorem dL_law_1551 : decode cL_law 1551 = .ok (.invokevirtual 92, 3) := by decide +kernel
theorem dL_law_1554 : decode cL_law 1554 = .ok (.iload 5, 2) := by decide +kernel
theorem dL_law_1556 : decode cL_law 1556 = .ok (.if_icmp .eq 5, 3) := by decide +kernel
theorem dL_law_1559 : decode cL_law 1559 = .ok (.iconst 0, 1) := by decide +kernel
theorem dL_law_1560 : decode cL_law 1560 = .ok (.ireturn, 1) := by decide +kernel
theorem dL_law_1561 : decode cL_law 1561 = .ok (.iload 5, 2) := by decide +kernel
theorem dL_law_1563 : decode cL_law 1563 = .ok (.ifCond .ne 15, 3) := by decide +kernel
theorem dL_law_1566 : decode cL_law 1566 = .ok (.aload_n 3, 1) := by decide +kernel
theorem dL_law_1567 : decode cL_law 1567 = .ok (.iconst 0, 1) := by decide +kernel
theorem dL_law_1568 : decode cL_law 1568 = .ok (.laload, 1) := by decide +kernel
theorem dL_law_1569 : decode cL_law 1569 = .ok (.iload 6, 2) := by decide +kernel
theorem dL_law_1571 : decode cL_law 1571 = .ok (.i2l, 1) := by decide +kernel
theorem dL_law_1572 : decode cL_law 1572 = .ok (.lcmp, 1) := by decide +kernel
theorem dL_law_1573 : decode cL_law 1573 = .ok (.ifCond .eq 5, 3) := by decide +kernel
theorem dL_law_1576 : decode cL_law 1576 = .ok (.iconst 0, 1) := by decide +kernel
theorem dL_law_1577 : decode cL_law 1577 = .ok (.ireturn, 1) := by decide +kernel
theorem dL_law_1578 : decode cL_law 1578 = .ok (.goto 3, 3) := by decide +kernel
theorem dL_law_1581 : decode cL_law 1581 = .ok (.iinc 4 3, 3) := by decide +kernel
theorem dL_law_1584 : decode cL_law 1584 = .ok (.goto (-1561), 3) := by decide +kernel
theorem dL_law_1587 : decode cL_law 1587 = .ok (.iconst 1, 1) := by decide +kernel
theorem dL_law_1588 : decode cL_law 1588 = .ok (.ireturn, 1) := by decide +kernel
abbrev vwCl : List vw_C := [(RX0, TX0, 11), (RX1, TX1, 2), (RX2, TX2, 2), (RX3, TX3, 2), (RX4, TX4, 12), (RX5, TX5, 26)]
end
section
/-- the good words of the tables -/
def WT : List Cond := lw_tbl.filter goodWord
theorem wt_tab {w : Cond} (i : Nat) (h : tables_1[i]? = some w) (g : goodWord w = true) : w ∈ WT := List.mem_filter.mpr ⟨List.mem_append_right _ (List.mem_of_getElem? h), g⟩
theorem wt_sel {w : Cond} (i : Nat) (h : (k2_sels lw_privs)[i]? = some w) (g : goodWord w = true) : w ∈ WT := List.mem_filter.mpr ⟨List.mem_append_left _ (List.mem_of_getElem? h), g⟩
theorem wt_sub : ∀ w ∈ WT, w ∈ lw_tbl := fun w h => (List.mem_filter.mp h).1
theorem wt_good : ∀ w ∈ WT, goodWord w = true := fun w h => (List.mem_filter.mp h).2
theorem wt_gi {ws : List Cond} (h : ∀ w ∈ ws, w ∈ WT) : GoodIn WT ws := fun w hw => ⟨h w hw, good_of_word (wt_good w (h w hw))⟩
theorem wt_0 : (Jvm.Cond.initialized "CollectionsEngineLaw") ∈ WT := wt_tab 0 (by decide +kernel) (by decide +kernel)
theorem wt_1 : (Jvm.Cond.initialized "CollectionsEngine") ∈ WT := wt_tab 1 (by decide +kernel) (by decide +kernel)
theorem wt_2 : (Jvm.Cond.initialized "CollectionsEngine$Calendar") ∈ WT := wt_tab 2 (by decide +kernel) (by decide +kernel)
theorem wt_3 : (Jvm.Cond.initialized "CollectionsEngine$Gaps") ∈ WT := wt_tab 3 (by decide +kernel) (by decide +kernel)
theorem wt_4 : (Jvm.Cond.initialized "CollectionsEngine$EventLog") ∈ WT := wt_tab 4 (by decide +kernel) (by decide +kernel)
theorem wt_5 : (Jvm.Cond.initialized "CollectionsEngineModel") ∈ WT := wt_tab 5 (by decide +kernel) (by decide +kernel)
theorem wt_6 : (Jvm.Cond.initialized "java/lang/Throwable") ∈ WT := wt_tab 6 (by decide +kernel) (by decide +kernel)
theorem wt_7 : (Jvm.Cond.initialized "java/lang/Exception") ∈ WT := wt_tab 7 (by decide +kernel) (by decide +kernel)
theorem wt_8 : (Jvm.Cond.initialized "java/lang/RuntimeException") ∈ WT := wt_tab 8 (by decide +kernel) (by decide +kernel)
theorem wt_9 : (Jvm.Cond.initialized "java/lang/IndexOutOfBoundsException") ∈ WT := wt_tab 9 (by decide +kernel) (by decide +kernel)
theorem wt_10 : (Jvm.Cond.initialized "java/lang/IllegalStateException") ∈ WT := wt_tab 10 (by decide +kernel) (by decide +kernel)
theorem wt_11 : (Jvm.Cond.initialized "java/lang/Integer") ∈ WT := wt_tab 11 (by decide +kernel) (by decide +kernel)
theorem wt_12 : (Jvm.Cond.initialized "java/lang/IllegalArgumentException") ∈ WT := wt_tab 12 (by decide +kernel) (by decide +kernel)
theorem wt_13 : (Jvm.Cond.initialized "CollectionsEngine$Bill") ∈ WT := wt_tab 13 (by decide +kernel) (by decide +kernel)
theorem wt_14 : (Jvm.Cond.initialized "java/lang/Math") ∈ WT := wt_tab 14 (by decide +kernel) (by decide +kernel)
theorem wt_15 : (Jvm.Cond.classLink "CollectionsEngineLaw" (8 : Nat) "CollectionsEngine") ∈ WT := wt_tab 15 (by decide +kernel) (by decide +kernel)
theorem wt_16 : (Jvm.Cond.instantiable "CollectionsEngine" (12 : Nat)) ∈ WT := wt_tab 16 (by decide +kernel) (by decide +kernel)
theorem wt_17 : (Jvm.Cond.methodLink "CollectionsEngineLaw" (82 : Nat) ({ cls := "CollectionsEngine", name := "<init>", desc := "()V" } : Jvm.MethodName)) ∈ WT := wt_tab 17 (by decide +kernel) (by decide +kernel)
theorem wt_18 : (Jvm.Cond.instanceMethod ({ cls := "CollectionsEngine", name := "<init>", desc := "()V" } : Jvm.MethodName)) ∈ WT := wt_tab 18 (by decide +kernel) (by decide +kernel)
theorem wt_19 : (Jvm.Cond.code ({ cls := "CollectionsEngine", name := "<init>", desc := "()V" } : Jvm.MethodName) prog_1_method_1_code (1 : Nat) (Option.none : Option Jvm.ClassFile.FieldType)) ∈ WT := wt_tab 19 (by decide +kernel) (by decide +kernel)
theorem wt_20 : (Jvm.Cond.methodLink "CollectionsEngine" (1 : Nat) ({ cls := "java/lang/Object", name := "<init>", desc := "()V" } : Jvm.MethodName)) ∈ WT := wt_tab 20 (by decide +kernel) (by decide +kernel)
theorem wt_21 : (Jvm.Cond.instanceMethod ({ cls := "java/lang/Object", name := "<init>", desc := "()V" } : Jvm.MethodName)) ∈ WT := wt_tab 21 (by decide +kernel) (by decide +kernel)
theorem wt_22 : (Jvm.Cond.code ({ cls := "java/lang/Object", name := "<init>", desc := "()V" } : Jvm.MethodName) object_method_1_code (1 : Nat) (Option.none : Option Jvm.ClassFile.FieldType)) ∈ WT := wt_tab 22 (by decide +kernel) (by decide +kernel)
theorem wt_23 : (Jvm.Cond.classLink "CollectionsEngine" (7 : Nat) "CollectionsEngine$Calendar") ∈ WT := wt_tab 23 (by decide +kernel) (by decide +kernel)
theorem wt_24 : (Jvm.Cond.instantiable "CollectionsEngine$Calendar" (2 : Nat)) ∈ WT := wt_tab 24 (by decide +kernel) (by decide +kernel)
theorem wt_25 : (Jvm.Cond.methodLink "CollectionsEngine" (9 : Nat) ({ cls := "CollectionsEngine$Calendar", name := "<init>", desc := "()V" } : Jvm.MethodName)) ∈ WT := wt_tab 25 (by decide +kernel) (by decide +kernel)
theorem wt_26 : (Jvm.Cond.instanceMethod ({ cls := "CollectionsEngine$Calendar", name := "<init>", desc := "()V" } : Jvm.MethodName)) ∈ WT := wt_tab 26 (by decide +kernel) (by decide +kernel)
theorem wt_27 : (Jvm.Cond.code ({ cls := "CollectionsEngine$Calendar", name := "<init>", desc := "()V" } : Jvm.MethodName) prog_3_method_1_code (1 : Nat) (Option.none : Option Jvm.ClassFile.FieldType)) ∈ WT := wt_tab 27 (by decide +kernel) (by decide +kernel)
theorem wt_28 : (Jvm.Cond.methodLink "CollectionsEngine$Calendar" (1 : Nat) ({ cls := "java/lang/Object", name := "<init>", desc := "()V" } : Jvm.MethodName)) ∈ WT := wt_tab 28 (by decide +kernel) (by decide +kernel)
theorem wt_29 : (Jvm.Cond.fieldLink "CollectionsEngine$Calendar" (9 : Nat) "CollectionsEngine$Calendar" "weekdays" "I") ∈ WT := wt_tab 29 (by decide +kernel) (by decide +kernel)
theorem wt_30 : (Jvm.Cond.fieldLink "CollectionsEngine" (74 : Nat) "CollectionsEngine$Calendar" "weekdays" "I") ∈ WT := wt_tab 30 (by decide +kernel) (by decide +kernel)
theorem wt_31 : (Jvm.Cond.fieldLink "CollectionsEngine$Calendar" (13 : Nat) "CollectionsEngine$Calendar" "holidays" "[J") ∈ WT := wt_tab 31 (by decide +kernel) (by decide +kernel)
theorem wt_32 : (Jvm.Cond.lays "CollectionsEngine$Calendar" "CollectionsEngine$Calendar" "weekdays" "I") ∈ WT := wt_tab 32 (by decide +kernel) (by decide +kernel)
theorem wt_33 : (Jvm.Cond.soleField "CollectionsEngine$Calendar" "weekdays") ∈ WT := wt_tab 33 (by decide +kernel) (by decide +kernel)
theorem wt_34 : (Jvm.Cond.laysFinal "CollectionsEngine$Calendar" "CollectionsEngine$Calendar" "holidays" "[J") ∈ WT := wt_tab 34 (by decide +kernel) (by decide +kernel)
theorem wt_35 : (Jvm.Cond.soleField "CollectionsEngine$Calendar" "holidays") ∈ WT := wt_tab 35 (by decide +kernel) (by decide +kernel)
theorem wt_36 : (Jvm.Cond.superclass "CollectionsEngine$Calendar" "java/lang/Object") ∈ WT := wt_tab 36 (by decide +kernel) (by decide +kernel)
theorem wt_37 : (Jvm.Cond.arrayClass Jvm.ClassFile.FieldType.long) ∈ WT := wt_tab 37 (by decide +kernel) (by decide +kernel)
theorem wt_38 : (Jvm.Cond.classLink "CollectionsEngine" (16 : Nat) "CollectionsEngine$Gaps") ∈ WT := wt_tab 38 (by decide +kernel) (by decide +kernel)
theorem wt_40 : (Jvm.Cond.instantiable "CollectionsEngine$Gaps" (2 : Nat)) ∈ WT := wt_tab 40 (by decide +kernel) (by decide +kernel)
theorem wt_41 : (Jvm.Cond.fieldLink "CollectionsEngine" (18 : Nat) "CollectionsEngine" "FIRST_GAPS_NO_MONEY" "[I") ∈ WT := wt_tab 41 (by decide +kernel) (by decide +kernel)
theorem wt_43 : (Jvm.Cond.methodLink "CollectionsEngine" (22 : Nat) ({ cls := "CollectionsEngine$Gaps", name := "<init>", desc := "([I)V" } : Jvm.MethodName)) ∈ WT := wt_tab 43 (by decide +kernel) (by decide +kernel)
theorem wt_44 : (Jvm.Cond.instanceMethod ({ cls := "CollectionsEngine$Gaps", name := "<init>", desc := "([I)V" } : Jvm.MethodName)) ∈ WT := wt_tab 44 (by decide +kernel) (by decide +kernel)
theorem wt_45 : (Jvm.Cond.code ({ cls := "CollectionsEngine$Gaps", name := "<init>", desc := "([I)V" } : Jvm.MethodName) prog_5_method_1_code (3 : Nat) (Option.none : Option Jvm.ClassFile.FieldType)) ∈ WT := wt_tab 45 (by decide +kernel) (by decide +kernel)
theorem wt_46 : (Jvm.Cond.methodLink "CollectionsEngine$Gaps" (3 : Nat) ({ cls := "java/lang/Object", name := "<init>", desc := "()V" } : Jvm.MethodName)) ∈ WT := wt_tab 46 (by decide +kernel) (by decide +kernel)
theorem wt_47 : (Jvm.Cond.fieldLink "CollectionsEngine$Gaps" (9 : Nat) "CollectionsEngine$Gaps" "days" "[I") ∈ WT := wt_tab 47 (by decide +kernel) (by decide +kernel)
theorem wt_48 : (Jvm.Cond.fieldLink "CollectionsEngine$Gaps" (15 : Nat) "CollectionsEngine$Gaps" "count" "I") ∈ WT := wt_tab 48 (by decide +kernel) (by decide +kernel)
theorem wt_49 : (Jvm.Cond.fieldLink "CollectionsEngine" (101 : Nat) "CollectionsEngine$Gaps" "count" "I") ∈ WT := wt_tab 49 (by decide +kernel) (by decide +kernel)
theorem wt_50 : (Jvm.Cond.laysFinal "CollectionsEngine$Gaps" "CollectionsEngine$Gaps" "days" "[I") ∈ WT := wt_tab 50 (by decide +kernel) (by decide +kernel)
theorem wt_51 : (Jvm.Cond.soleField "CollectionsEngine$Gaps" "days") ∈ WT := wt_tab 51 (by decide +kernel) (by decide +kernel)
theorem wt_52 : (Jvm.Cond.lays "CollectionsEngine$Gaps" "CollectionsEngine$Gaps" "count" "I") ∈ WT := wt_tab 52 (by decide +kernel) (by decide +kernel)
theorem wt_53 : (Jvm.Cond.soleField "CollectionsEngine$Gaps" "count") ∈ WT := wt_tab 53 (by decide +kernel) (by decide +kernel)
theorem wt_54 : (Jvm.Cond.superclass "CollectionsEngine$Gaps" "java/lang/Object") ∈ WT := wt_tab 54 (by decide +kernel) (by decide +kernel)
theorem wt_55 : (Jvm.Cond.arrayClass Jvm.ClassFile.FieldType.int) ∈ WT := wt_tab 55 (by decide +kernel) (by decide +kernel)
theorem wt_56 : (Jvm.Cond.fieldLink "CollectionsEngine" (25 : Nat) "CollectionsEngine" "FIRST_GAPS_EXPIRED" "[I") ∈ WT := wt_tab 56 (by decide +kernel) (by decide +kernel)
theorem wt_58 : (Jvm.Cond.fieldLink "CollectionsEngine" (28 : Nat) "CollectionsEngine" "FIRST_GAPS_BLOCKED" "[I") ∈ WT := wt_tab 58 (by decide +kernel) (by decide +kernel)
theorem wt_60 : (Jvm.Cond.fieldLink "CollectionsEngine" (31 : Nat) "CollectionsEngine" "FIRST_GAPS_ERROR" "[I") ∈ WT := wt_tab 60 (by decide +kernel) (by decide +kernel)
theorem wt_62 : (Jvm.Cond.classLink "CollectionsEngine" (38 : Nat) "CollectionsEngine$Bill") ∈ WT := wt_tab 62 (by decide +kernel) (by decide +kernel)
theorem wt_64 : (Jvm.Cond.classLink "CollectionsEngine" (44 : Nat) "CollectionsEngine$EventLog") ∈ WT := wt_tab 64 (by decide +kernel) (by decide +kernel)
theorem wt_65 : (Jvm.Cond.instantiable "CollectionsEngine$EventLog" (2 : Nat)) ∈ WT := wt_tab 65 (by decide +kernel) (by decide +kernel)
theorem wt_66 : (Jvm.Cond.methodLink "CollectionsEngine" (46 : Nat) ({ cls := "CollectionsEngine$EventLog", name := "<init>", desc := "()V" } : Jvm.MethodName)) ∈ WT := wt_tab 66 (by decide +kernel) (by decide +kernel)
theorem wt_67 : (Jvm.Cond.instanceMethod ({ cls := "CollectionsEngine$EventLog", name := "<init>", desc := "()V" } : Jvm.MethodName)) ∈ WT := wt_tab 67 (by decide +kernel) (by decide +kernel)
theorem wt_68 : (Jvm.Cond.code ({ cls := "CollectionsEngine$EventLog", name := "<init>", desc := "()V" } : Jvm.MethodName) prog_4_method_1_code (1 : Nat) (Option.none : Option Jvm.ClassFile.FieldType)) ∈ WT := wt_tab 68 (by decide +kernel) (by decide +kernel)
theorem wt_69 : (Jvm.Cond.methodLink "CollectionsEngine$EventLog" (3 : Nat) ({ cls := "java/lang/Object", name := "<init>", desc := "()V" } : Jvm.MethodName)) ∈ WT := wt_tab 69 (by decide +kernel) (by decide +kernel)
theorem wt_70 : (Jvm.Cond.fieldLink "CollectionsEngine$EventLog" (9 : Nat) "CollectionsEngine$EventLog" "codes" "[I") ∈ WT := wt_tab 70 (by decide +kernel) (by decide +kernel)
theorem wt_71 : (Jvm.Cond.fieldLink "CollectionsEngine$EventLog" (15 : Nat) "CollectionsEngine$EventLog" "total" "I") ∈ WT := wt_tab 71 (by decide +kernel) (by decide +kernel)
theorem wt_72 : (Jvm.Cond.fieldLink "CollectionsEngine" (206 : Nat) "CollectionsEngine$EventLog" "total" "I") ∈ WT := wt_tab 72 (by decide +kernel) (by decide +kernel)
theorem wt_73 : (Jvm.Cond.laysFinal "CollectionsEngine$EventLog" "CollectionsEngine$EventLog" "codes" "[I") ∈ WT := wt_tab 73 (by decide +kernel) (by decide +kernel)
theorem wt_74 : (Jvm.Cond.soleField "CollectionsEngine$EventLog" "codes") ∈ WT := wt_tab 74 (by decide +kernel) (by decide +kernel)
theorem wt_75 : (Jvm.Cond.lays "CollectionsEngine$EventLog" "CollectionsEngine$EventLog" "total" "I") ∈ WT := wt_tab 75 (by decide +kernel) (by decide +kernel)
theorem wt_76 : (Jvm.Cond.soleField "CollectionsEngine$EventLog" "total") ∈ WT := wt_tab 76 (by decide +kernel) (by decide +kernel)
theorem wt_77 : (Jvm.Cond.superclass "CollectionsEngine$EventLog" "java/lang/Object") ∈ WT := wt_tab 77 (by decide +kernel) (by decide +kernel)
theorem wt_78 : (Jvm.Cond.fieldLink "CollectionsEngine" (10 : Nat) "CollectionsEngine" "calendar" "LCollectionsEngine$Calendar;") ∈ WT := wt_tab 78 (by decide +kernel) (by decide +kernel)
theorem wt_79 : (Jvm.Cond.fieldLink "CollectionsEngine" (34 : Nat) "CollectionsEngine" "gaps" "[LCollectionsEngine$Gaps;") ∈ WT := wt_tab 79 (by decide +kernel) (by decide +kernel)
theorem wt_80 : (Jvm.Cond.fieldLink "CollectionsEngine" (40 : Nat) "CollectionsEngine" "billRow" "[LCollectionsEngine$Bill;") ∈ WT := wt_tab 80 (by decide +kernel) (by decide +kernel)
theorem wt_81 : (Jvm.Cond.fieldLink "CollectionsEngine" (47 : Nat) "CollectionsEngine" "log" "LCollectionsEngine$EventLog;") ∈ WT := wt_tab 81 (by decide +kernel) (by decide +kernel)
theorem wt_82 : (Jvm.Cond.fieldLink "CollectionsEngine" (112 : Nat) "CollectionsEngine" "billCount" "I") ∈ WT := wt_tab 82 (by decide +kernel) (by decide +kernel)
theorem wt_83 : (Jvm.Cond.fieldLink "CollectionsEngine" (83 : Nat) "CollectionsEngine" "currentDay" "I") ∈ WT := wt_tab 83 (by decide +kernel) (by decide +kernel)
theorem wt_84 : (Jvm.Cond.fieldLink "CollectionsEngine" (51 : Nat) "CollectionsEngine" "graceTime" "I") ∈ WT := wt_tab 84 (by decide +kernel) (by decide +kernel)
theorem wt_85 : (Jvm.Cond.fieldLink "CollectionsEngine" (55 : Nat) "CollectionsEngine" "overdueTime" "I") ∈ WT := wt_tab 85 (by decide +kernel) (by decide +kernel)
theorem wt_86 : (Jvm.Cond.fieldLink "CollectionsEngine" (119 : Nat) "CollectionsEngine" "billedSum" "I") ∈ WT := wt_tab 86 (by decide +kernel) (by decide +kernel)
theorem wt_87 : (Jvm.Cond.fieldLink "CollectionsEngine" (197 : Nat) "CollectionsEngine" "paidSum" "I") ∈ WT := wt_tab 87 (by decide +kernel) (by decide +kernel)
theorem wt_88 : (Jvm.Cond.fieldLink "CollectionsEngine" (200 : Nat) "CollectionsEngine" "writtenOffSum" "I") ∈ WT := wt_tab 88 (by decide +kernel) (by decide +kernel)
theorem wt_89 : (Jvm.Cond.fieldLink "CollectionsEngine" (203 : Nat) "CollectionsEngine" "broughtBackSum" "I") ∈ WT := wt_tab 89 (by decide +kernel) (by decide +kernel)
theorem wt_90 : (Jvm.Cond.laysFinal "CollectionsEngine" "CollectionsEngine" "calendar" "LCollectionsEngine$Calendar;") ∈ WT := wt_tab 90 (by decide +kernel) (by decide +kernel)
theorem wt_91 : (Jvm.Cond.soleField "CollectionsEngine" "calendar") ∈ WT := wt_tab 91 (by decide +kernel) (by decide +kernel)
theorem wt_92 : (Jvm.Cond.laysFinal "CollectionsEngine" "CollectionsEngine" "gaps" "[LCollectionsEngine$Gaps;") ∈ WT := wt_tab 92 (by decide +kernel) (by decide +kernel)
theorem wt_93 : (Jvm.Cond.soleField "CollectionsEngine" "gaps") ∈ WT := wt_tab 93 (by decide +kernel) (by decide +kernel)
theorem wt_94 : (Jvm.Cond.laysFinal "CollectionsEngine" "CollectionsEngine" "billRow" "[LCollectionsEngine$Bill;") ∈ WT := wt_tab 94 (by decide +kernel) (by decide +kernel)
theorem wt_95 : (Jvm.Cond.soleField "CollectionsEngine" "billRow") ∈ WT := wt_tab 95 (by decide +kernel) (by decide +kernel)
theorem wt_96 : (Jvm.Cond.laysFinal "CollectionsEngine" "CollectionsEngine" "log" "LCollectionsEngine$EventLog;") ∈ WT := wt_tab 96 (by decide +kernel) (by decide +kernel)
theorem wt_97 : (Jvm.Cond.soleField "CollectionsEngine" "log") ∈ WT := wt_tab 97 (by decide +kernel) (by decide +kernel)
theorem wt_98 : (Jvm.Cond.lays "CollectionsEngine" "CollectionsEngine" "billCount" "I") ∈ WT := wt_tab 98 (by decide +kernel) (by decide +kernel)
theorem wt_99 : (Jvm.Cond.soleField "CollectionsEngine" "billCount") ∈ WT := wt_tab 99 (by decide +kernel) (by decide +kernel)
theorem wt_100 : (Jvm.Cond.lays "CollectionsEngine" "CollectionsEngine" "currentDay" "I") ∈ WT := wt_tab 100 (by decide +kernel) (by decide +kernel)
theorem wt_101 : (Jvm.Cond.soleField "CollectionsEngine" "currentDay") ∈ WT := wt_tab 101 (by decide +kernel) (by decide +kernel)
theorem wt_102 : (Jvm.Cond.lays "CollectionsEngine" "CollectionsEngine" "graceTime" "I") ∈ WT := wt_tab 102 (by decide +kernel) (by decide +kernel)
theorem wt_103 : (Jvm.Cond.soleField "CollectionsEngine" "graceTime") ∈ WT := wt_tab 103 (by decide +kernel) (by decide +kernel)
theorem wt_104 : (Jvm.Cond.lays "CollectionsEngine" "CollectionsEngine" "overdueTime" "I") ∈ WT := wt_tab 104 (by decide +kernel) (by decide +kernel)
theorem wt_105 : (Jvm.Cond.soleField "CollectionsEngine" "overdueTime") ∈ WT := wt_tab 105 (by decide +kernel) (by decide +kernel)
theorem wt_106 : (Jvm.Cond.lays "CollectionsEngine" "CollectionsEngine" "billedSum" "I") ∈ WT := wt_tab 106 (by decide +kernel) (by decide +kernel)
theorem wt_107 : (Jvm.Cond.soleField "CollectionsEngine" "billedSum") ∈ WT := wt_tab 107 (by decide +kernel) (by decide +kernel)
theorem wt_108 : (Jvm.Cond.lays "CollectionsEngine" "CollectionsEngine" "paidSum" "I") ∈ WT := wt_tab 108 (by decide +kernel) (by decide +kernel)
theorem wt_109 : (Jvm.Cond.soleField "CollectionsEngine" "paidSum") ∈ WT := wt_tab 109 (by decide +kernel) (by decide +kernel)
theorem wt_110 : (Jvm.Cond.lays "CollectionsEngine" "CollectionsEngine" "writtenOffSum" "I") ∈ WT := wt_tab 110 (by decide +kernel) (by decide +kernel)
theorem wt_111 : (Jvm.Cond.soleField "CollectionsEngine" "writtenOffSum") ∈ WT := wt_tab 111 (by decide +kernel) (by decide +kernel)
theorem wt_112 : (Jvm.Cond.lays "CollectionsEngine" "CollectionsEngine" "broughtBackSum" "I") ∈ WT := wt_tab 112 (by decide +kernel) (by decide +kernel)
theorem wt_113 : (Jvm.Cond.soleField "CollectionsEngine" "broughtBackSum") ∈ WT := wt_tab 113 (by decide +kernel) (by decide +kernel)
theorem wt_114 : (Jvm.Cond.superclass "CollectionsEngine" "java/lang/Object") ∈ WT := wt_tab 114 (by decide +kernel) (by decide +kernel)
theorem wt_115 : (Jvm.Cond.methodLink "CollectionsEngineLaw" (125 : Nat) ({ cls := "CollectionsEngine", name := "today", desc := "()I" } : Jvm.MethodName)) ∈ WT := wt_tab 115 (by decide +kernel) (by decide +kernel)
theorem wt_116 : (Jvm.Cond.instanceMethod ({ cls := "CollectionsEngine", name := "today", desc := "()I" } : Jvm.MethodName)) ∈ WT := wt_tab 116 (by decide +kernel) (by decide +kernel)
theorem wt_117 : (Jvm.Cond.selects "CollectionsEngine" ({ cls := "CollectionsEngine", name := "today", desc := "()I" } : Jvm.MethodName) ({ cls := "CollectionsEngine", name := "today", desc := "()I" } : Jvm.MethodName)) ∈ WT := wt_tab 117 (by decide +kernel) (by decide +kernel)
theorem wt_118 : (Jvm.Cond.code ({ cls := "CollectionsEngine", name := "today", desc := "()I" } : Jvm.MethodName) prog_1_method_12_code (1 : Nat) (Option.some Jvm.ClassFile.FieldType.int)) ∈ WT := wt_tab 118 (by decide +kernel) (by decide +kernel)
theorem wt_119 : (Jvm.Cond.methodLink "CollectionsEngineLaw" (132 : Nat) ({ cls := "CollectionsEngine", name := "bills", desc := "()I" } : Jvm.MethodName)) ∈ WT := wt_tab 119 (by decide +kernel) (by decide +kernel)
theorem wt_120 : (Jvm.Cond.instanceMethod ({ cls := "CollectionsEngine", name := "bills", desc := "()I" } : Jvm.MethodName)) ∈ WT := wt_tab 120 (by decide +kernel) (by decide +kernel)
theorem wt_121 : (Jvm.Cond.selects "CollectionsEngine" ({ cls := "CollectionsEngine", name := "bills", desc := "()I" } : Jvm.MethodName) ({ cls := "CollectionsEngine", name := "bills", desc := "()I" } : Jvm.MethodName)) ∈ WT := wt_tab 121 (by decide +kernel) (by decide +kernel)
theorem wt_122 : (Jvm.Cond.code ({ cls := "CollectionsEngine", name := "bills", desc := "()I" } : Jvm.MethodName) prog_1_method_14_code (1 : Nat) (Option.some Jvm.ClassFile.FieldType.int)) ∈ WT := wt_tab 122 (by decide +kernel) (by decide +kernel)
theorem wt_123 : (Jvm.Cond.methodLink "CollectionsEngineLaw" (157 : Nat) ({ cls := "CollectionsEngine", name := "billed", desc := "()I" } : Jvm.MethodName)) ∈ WT := wt_tab 123 (by decide +kernel) (by decide +kernel)
theorem wt_124 : (Jvm.Cond.instanceMethod ({ cls := "CollectionsEngine", name := "billed", desc := "()I" } : Jvm.MethodName)) ∈ WT := wt_tab 124 (by decide +kernel) (by decide +kernel)
theorem wt_125 : (Jvm.Cond.selects "CollectionsEngine" ({ cls := "CollectionsEngine", name := "billed", desc := "()I" } : Jvm.MethodName) ({ cls := "CollectionsEngine", name := "billed", desc := "()I" } : Jvm.MethodName)) ∈ WT := wt_tab 125 (by decide +kernel) (by decide +kernel)
theorem wt_126 : (Jvm.Cond.code ({ cls := "CollectionsEngine", name := "billed", desc := "()I" } : Jvm.MethodName) prog_1_method_22_code (1 : Nat) (Option.some Jvm.ClassFile.FieldType.int)) ∈ WT := wt_tab 126 (by decide +kernel) (by decide +kernel)
theorem wt_127 : (Jvm.Cond.methodLink "CollectionsEngineLaw" (161 : Nat) ({ cls := "CollectionsEngine", name := "paid", desc := "()I" } : Jvm.MethodName)) ∈ WT := wt_tab 127 (by decide +kernel) (by decide +kernel)
theorem wt_128 : (Jvm.Cond.instanceMethod ({ cls := "CollectionsEngine", name := "paid", desc := "()I" } : Jvm.MethodName)) ∈ WT := wt_tab 128 (by decide +kernel) (by decide +kernel)
theorem wt_129 : (Jvm.Cond.selects "CollectionsEngine" ({ cls := "CollectionsEngine", name := "paid", desc := "()I" } : Jvm.MethodName) ({ cls := "CollectionsEngine", name := "paid", desc := "()I" } : Jvm.MethodName)) ∈ WT := wt_tab 129 (by decide +kernel) (by decide +kernel)
theorem wt_130 : (Jvm.Cond.code ({ cls := "CollectionsEngine", name := "paid", desc := "()I" } : Jvm.MethodName) prog_1_method_23_code (1 : Nat) (Option.some Jvm.ClassFile.FieldType.int)) ∈ WT := wt_tab 130 (by decide +kernel) (by decide +kernel)
theorem wt_131 : (Jvm.Cond.methodLink "CollectionsEngineLaw" (165 : Nat) ({ cls := "CollectionsEngine", name := "writtenOff", desc := "()I" } : Jvm.MethodName)) ∈ WT := wt_tab 131 (by decide +kernel) (by decide +kernel)
theorem wt_132 : (Jvm.Cond.instanceMethod ({ cls := "CollectionsEngine", name := "writtenOff", desc := "()I" } : Jvm.MethodName)) ∈ WT := wt_tab 132 (by decide +kernel) (by decide +kernel)
theorem wt_133 : (Jvm.Cond.selects "CollectionsEngine" ({ cls := "CollectionsEngine", name := "writtenOff", desc := "()I" } : Jvm.MethodName) ({ cls := "CollectionsEngine", name := "writtenOff", desc := "()I" } : Jvm.MethodName)) ∈ WT := wt_tab 133 (by decide +kernel) (by decide +kernel)
theorem wt_134 : (Jvm.Cond.code ({ cls := "CollectionsEngine", name := "writtenOff", desc := "()I" } : Jvm.MethodName) prog_1_method_24_code (1 : Nat) (Option.some Jvm.ClassFile.FieldType.int)) ∈ WT := wt_tab 134 (by decide +kernel) (by decide +kernel)
theorem wt_135 : (Jvm.Cond.methodLink "CollectionsEngineLaw" (169 : Nat) ({ cls := "CollectionsEngine", name := "broughtBack", desc := "()I" } : Jvm.MethodName)) ∈ WT := wt_tab 135 (by decide +kernel) (by decide +kernel)
theorem wt_136 : (Jvm.Cond.instanceMethod ({ cls := "CollectionsEngine", name := "broughtBack", desc := "()I" } : Jvm.MethodName)) ∈ WT := wt_tab 136 (by decide +kernel) (by decide +kernel)
theorem wt_137 : (Jvm.Cond.selects "CollectionsEngine" ({ cls := "CollectionsEngine", name := "broughtBack", desc := "()I" } : Jvm.MethodName) ({ cls := "CollectionsEngine", name := "broughtBack", desc := "()I" } : Jvm.MethodName)) ∈ WT := wt_tab 137 (by decide +kernel) (by decide +kernel)
theorem wt_138 : (Jvm.Cond.code ({ cls := "CollectionsEngine", name := "broughtBack", desc := "()I" } : Jvm.MethodName) prog_1_method_25_code (1 : Nat) (Option.some Jvm.ClassFile.FieldType.int)) ∈ WT := wt_tab 138 (by decide +kernel) (by decide +kernel)
theorem wt_139 : (Jvm.Cond.methodLink "CollectionsEngineLaw" (176 : Nat) ({ cls := "CollectionsEngine", name := "events", desc := "()I" } : Jvm.MethodName)) ∈ WT := wt_tab 139 (by decide +kernel) (by decide +kernel)
theorem wt_140 : (Jvm.Cond.instanceMethod ({ cls := "CollectionsEngine", name := "events", desc := "()I" } : Jvm.MethodName)) ∈ WT := wt_tab 140 (by decide +kernel) (by decide +kernel)
theorem wt_141 : (Jvm.Cond.selects "CollectionsEngine" ({ cls := "CollectionsEngine", name := "events", desc := "()I" } : Jvm.MethodName) ({ cls := "CollectionsEngine", name := "events", desc := "()I" } : Jvm.MethodName)) ∈ WT := wt_tab 141 (by decide +kernel) (by decide +kernel)
theorem wt_142 : (Jvm.Cond.code ({ cls := "CollectionsEngine", name := "events", desc := "()I" } : Jvm.MethodName) prog_1_method_27_code (1 : Nat) (Option.some Jvm.ClassFile.FieldType.int)) ∈ WT := wt_tab 142 (by decide +kernel) (by decide +kernel)
theorem wt_143 : (Jvm.Cond.methodLink "CollectionsEngineLaw" (86 : Nat) ({ cls := "CollectionsEngineLaw", name := "setWeekday", desc := "(LCollectionsEngine;IZ[J)I" } : Jvm.MethodName)) ∈ WT := wt_tab 143 (by decide +kernel) (by decide +kernel)
theorem wt_144 : (Jvm.Cond.static ({ cls := "CollectionsEngineLaw", name := "setWeekday", desc := "(LCollectionsEngine;IZ[J)I" } : Jvm.MethodName)) ∈ WT := wt_tab 144 (by decide +kernel) (by decide +kernel)
theorem wt_145 : (Jvm.Cond.codeWith ({ cls := "CollectionsEngineLaw", name := "setWeekday", desc := "(LCollectionsEngine;IZ[J)I" } : Jvm.MethodName) method_3_code (5 : Nat) (Option.some Jvm.ClassFile.FieldType.int) [((0 : Nat), (10 : Nat), (13 : Nat), (13 : Nat)), ((0 : Nat), (10 : Nat), (17 : Nat), (15 : Nat))]) ∈ WT := wt_tab 145 (by decide +kernel) (by decide +kernel)
theorem wt_146 : (Jvm.Cond.classLink "CollectionsEngineLaw" (13 : Nat) "java/lang/IndexOutOfBoundsException") ∈ WT := wt_tab 146 (by decide +kernel) (by decide +kernel)
theorem wt_147 : (Jvm.Cond.classLink "CollectionsEngineLaw" (15 : Nat) "java/lang/IllegalStateException") ∈ WT := wt_tab 147 (by decide +kernel) (by decide +kernel)
theorem wt_148 : (Jvm.Cond.methodLink "CollectionsEngineLaw" (7 : Nat) ({ cls := "CollectionsEngine", name := "setWeekday", desc := "(IZ)I" } : Jvm.MethodName)) ∈ WT := wt_tab 148 (by decide +kernel) (by decide +kernel)
theorem wt_149 : (Jvm.Cond.instanceMethod ({ cls := "CollectionsEngine", name := "setWeekday", desc := "(IZ)I" } : Jvm.MethodName)) ∈ WT := wt_tab 149 (by decide +kernel) (by decide +kernel)
theorem wt_150 : (Jvm.Cond.selects "CollectionsEngine" ({ cls := "CollectionsEngine", name := "setWeekday", desc := "(IZ)I" } : Jvm.MethodName) ({ cls := "CollectionsEngine", name := "setWeekday", desc := "(IZ)I" } : Jvm.MethodName)) ∈ WT := wt_tab 150 (by decide +kernel) (by decide +kernel)
theorem wt_151 : (Jvm.Cond.code ({ cls := "CollectionsEngine", name := "setWeekday", desc := "(IZ)I" } : Jvm.MethodName) prog_1_method_2_code (4 : Nat) (Option.some Jvm.ClassFile.FieldType.int)) ∈ WT := wt_tab 151 (by decide +kernel) (by decide +kernel)
theorem wt_152 : (Jvm.Cond.classLink "CollectionsEngine" (58 : Nat) "java/lang/IndexOutOfBoundsException") ∈ WT := wt_tab 152 (by decide +kernel) (by decide +kernel)
theorem wt_153 : (Jvm.Cond.instantiable "java/lang/IndexOutOfBoundsException" (6 : Nat)) ∈ WT := wt_tab 153 (by decide +kernel) (by decide +kernel)
theorem wt_161 : (Jvm.Cond.selects "java/lang/IndexOutOfBoundsException" ({ cls := "java/lang/Throwable", name := "fillInStackTrace", desc := "(I)Ljava/lang/Throwable;" } : Jvm.MethodName) ({ cls := "java/lang/Throwable", name := "fillInStackTrace", desc := "(I)Ljava/lang/Throwable;" } : Jvm.MethodName)) ∈ WT := wt_tab 161 (by decide +kernel) (by decide +kernel)
theorem wt_162 : (Jvm.Cond.selects "java/lang/IndexOutOfBoundsException" ({ cls := "java/lang/Throwable", name := "fillInStackTrace", desc := "()Ljava/lang/Throwable;" } : Jvm.MethodName) ({ cls := "java/lang/Throwable", name := "fillInStackTrace", desc := "()Ljava/lang/Throwable;" } : Jvm.MethodName)) ∈ WT := wt_tab 162 (by decide +kernel) (by decide +kernel)
theorem wt_163 : (Jvm.Cond.lays "java/lang/IndexOutOfBoundsException" "java/lang/Throwable" "cause" "Ljava/lang/Throwable;") ∈ WT := wt_tab 163 (by decide +kernel) (by decide +kernel)
theorem wt_164 : (Jvm.Cond.lays "java/lang/Throwable" "java/lang/Throwable" "cause" "Ljava/lang/Throwable;") ∈ WT := wt_tab 164 (by decide +kernel) (by decide +kernel)
theorem wt_165 : (Jvm.Cond.lays "java/lang/IndexOutOfBoundsException" "java/lang/Throwable" "stackTrace" "[Ljava/lang/StackTraceElement;") ∈ WT := wt_tab 165 (by decide +kernel) (by decide +kernel)
theorem wt_166 : (Jvm.Cond.lays "java/lang/Throwable" "java/lang/Throwable" "stackTrace" "[Ljava/lang/StackTraceElement;") ∈ WT := wt_tab 166 (by decide +kernel) (by decide +kernel)
theorem wt_167 : (Jvm.Cond.lays "java/lang/IndexOutOfBoundsException" "java/lang/Throwable" "suppressedExceptions" "Ljava/util/List;") ∈ WT := wt_tab 167 (by decide +kernel) (by decide +kernel)
theorem wt_168 : (Jvm.Cond.lays "java/lang/Throwable" "java/lang/Throwable" "suppressedExceptions" "Ljava/util/List;") ∈ WT := wt_tab 168 (by decide +kernel) (by decide +kernel)
theorem wt_169 : (Jvm.Cond.lays "java/lang/IndexOutOfBoundsException" "java/lang/Throwable" "detailMessage" "Ljava/lang/String;") ∈ WT := wt_tab 169 (by decide +kernel) (by decide +kernel)
theorem wt_170 : (Jvm.Cond.lays "java/lang/Throwable" "java/lang/Throwable" "detailMessage" "Ljava/lang/String;") ∈ WT := wt_tab 170 (by decide +kernel) (by decide +kernel)
theorem wt_171 : (Jvm.Cond.lays "java/lang/IndexOutOfBoundsException" "java/lang/Throwable" "backtrace" "Ljava/lang/Object;") ∈ WT := wt_tab 171 (by decide +kernel) (by decide +kernel)
theorem wt_172 : (Jvm.Cond.lays "java/lang/Throwable" "java/lang/Throwable" "backtrace" "Ljava/lang/Object;") ∈ WT := wt_tab 172 (by decide +kernel) (by decide +kernel)
theorem wt_173 : (Jvm.Cond.fieldLink "java/lang/Throwable" (198 : Nat) "java/lang/Throwable" "backtrace" "Ljava/lang/Object;") ∈ WT := wt_tab 173 (by decide +kernel) (by decide +kernel)
theorem wt_174 : (Jvm.Cond.superclass "java/lang/Throwable" "java/lang/Object") ∈ WT := wt_tab 174 (by decide +kernel) (by decide +kernel)
theorem wt_175 : (Jvm.Cond.instanceMethod ({ cls := "java/lang/Throwable", name := "<init>", desc := "()V" } : Jvm.MethodName)) ∈ WT := wt_tab 175 (by decide +kernel) (by decide +kernel)
theorem wt_176 : (Jvm.Cond.code ({ cls := "java/lang/Throwable", name := "<init>", desc := "()V" } : Jvm.MethodName) prog_16_method_1_code (1 : Nat) (Option.none : Option Jvm.ClassFile.FieldType)) ∈ WT := wt_tab 176 (by decide +kernel) (by decide +kernel)
theorem wt_177 : (Jvm.Cond.methodLink "java/lang/Throwable" (1 : Nat) ({ cls := "java/lang/Object", name := "<init>", desc := "()V" } : Jvm.MethodName)) ∈ WT := wt_tab 177 (by decide +kernel) (by decide +kernel)
theorem wt_178 : (Jvm.Cond.fieldLink "java/lang/Throwable" (13 : Nat) "java/lang/Throwable" "UNASSIGNED_STACK" "[Ljava/lang/StackTraceElement;") ∈ WT := wt_tab 178 (by decide +kernel) (by decide +kernel)
theorem wt_180 : (Jvm.Cond.fieldLink "java/lang/Throwable" (20 : Nat) "java/lang/Throwable" "SUPPRESSED_SENTINEL" "Ljava/util/List;") ∈ WT := wt_tab 180 (by decide +kernel) (by decide +kernel)
theorem wt_182 : (Jvm.Cond.methodLink "java/lang/Throwable" (27 : Nat) ({ cls := "java/lang/Throwable", name := "fillInStackTrace", desc := "()Ljava/lang/Throwable;" } : Jvm.MethodName)) ∈ WT := wt_tab 182 (by decide +kernel) (by decide +kernel)
theorem wt_183 : (Jvm.Cond.instanceMethod ({ cls := "java/lang/Throwable", name := "fillInStackTrace", desc := "()Ljava/lang/Throwable;" } : Jvm.MethodName)) ∈ WT := wt_tab 183 (by decide +kernel) (by decide +kernel)
theorem wt_184 : (Jvm.Cond.sameMethod "java/lang/Throwable" "java/lang/Throwable" "fillInStackTrace" "()Ljava/lang/Throwable;") ∈ WT := wt_tab 184 (by decide +kernel) (by decide +kernel)
theorem wt_185 : (Jvm.Cond.selects "java/lang/IllegalArgumentException" ({ cls := "java/lang/Throwable", name := "fillInStackTrace", desc := "()Ljava/lang/Throwable;" } : Jvm.MethodName) ({ cls := "java/lang/Throwable", name := "fillInStackTrace", desc := "()Ljava/lang/Throwable;" } : Jvm.MethodName)) ∈ WT := wt_tab 185 (by decide +kernel) (by decide +kernel)
theorem wt_186 : (Jvm.Cond.selects "java/lang/IllegalStateException" ({ cls := "java/lang/Throwable", name := "fillInStackTrace", desc := "()Ljava/lang/Throwable;" } : Jvm.MethodName) ({ cls := "java/lang/Throwable", name := "fillInStackTrace", desc := "()Ljava/lang/Throwable;" } : Jvm.MethodName)) ∈ WT := wt_tab 186 (by decide +kernel) (by decide +kernel)
theorem wt_187 : (Jvm.Cond.codeSync ({ cls := "java/lang/Throwable", name := "fillInStackTrace", desc := "()Ljava/lang/Throwable;" } : Jvm.MethodName) prog_16_method_18_code (1 : Nat) (Option.some (Jvm.ClassFile.FieldType.object "java/lang/Throwable"))) ∈ WT := wt_tab 187 (by decide +kernel) (by decide +kernel)
theorem wt_188 : (Jvm.Cond.methodLink "java/lang/Throwable" (202 : Nat) ({ cls := "java/lang/Throwable", name := "fillInStackTrace", desc := "(I)Ljava/lang/Throwable;" } : Jvm.MethodName)) ∈ WT := wt_tab 188 (by decide +kernel) (by decide +kernel)
theorem wt_190 : (Jvm.Cond.instanceMethod ({ cls := "java/lang/Throwable", name := "fillInStackTrace", desc := "(I)Ljava/lang/Throwable;" } : Jvm.MethodName)) ∈ WT := wt_tab 190 (by decide +kernel) (by decide +kernel)
theorem wt_191 : (Jvm.Cond.instantiable "java/lang/Throwable" (6 : Nat)) ∈ WT := wt_tab 191 (by decide +kernel) (by decide +kernel)
theorem wt_192 : (Jvm.Cond.native ({ cls := "java/lang/Throwable", name := "fillInStackTrace", desc := "(I)Ljava/lang/Throwable;" } : Jvm.MethodName)) ∈ WT := wt_tab 192 (by decide +kernel) (by decide +kernel)
theorem wt_194 : (Jvm.Cond.methodLink "CollectionsEngine" (62 : Nat) ({ cls := "java/lang/IndexOutOfBoundsException", name := "<init>", desc := "(Ljava/lang/String;)V" } : Jvm.MethodName)) ∈ WT := wt_tab 194 (by decide +kernel) (by decide +kernel)
theorem wt_195 : (Jvm.Cond.instanceMethod ({ cls := "java/lang/IndexOutOfBoundsException", name := "<init>", desc := "(Ljava/lang/String;)V" } : Jvm.MethodName)) ∈ WT := wt_tab 195 (by decide +kernel) (by decide +kernel)
theorem wt_196 : (Jvm.Cond.code ({ cls := "java/lang/IndexOutOfBoundsException", name := "<init>", desc := "(Ljava/lang/String;)V" } : Jvm.MethodName) prog_11_method_2_code (2 : Nat) (Option.none : Option Jvm.ClassFile.FieldType)) ∈ WT := wt_tab 196 (by decide +kernel) (by decide +kernel)
theorem wt_197 : (Jvm.Cond.methodLink "java/lang/IndexOutOfBoundsException" (7 : Nat) ({ cls := "java/lang/RuntimeException", name := "<init>", desc := "(Ljava/lang/String;)V" } : Jvm.MethodName)) ∈ WT := wt_tab 197 (by decide +kernel) (by decide +kernel)
theorem wt_198 : (Jvm.Cond.instanceMethod ({ cls := "java/lang/RuntimeException", name := "<init>", desc := "(Ljava/lang/String;)V" } : Jvm.MethodName)) ∈ WT := wt_tab 198 (by decide +kernel) (by decide +kernel)
theorem wt_199 : (Jvm.Cond.code ({ cls := "java/lang/RuntimeException", name := "<init>", desc := "(Ljava/lang/String;)V" } : Jvm.MethodName) prog_14_method_2_code (2 : Nat) (Option.none : Option Jvm.ClassFile.FieldType)) ∈ WT := wt_tab 199 (by decide +kernel) (by decide +kernel)
theorem wt_200 : (Jvm.Cond.methodLink "java/lang/RuntimeException" (7 : Nat) ({ cls := "java/lang/Exception", name := "<init>", desc := "(Ljava/lang/String;)V" } : Jvm.MethodName)) ∈ WT := wt_tab 200 (by decide +kernel) (by decide +kernel)
theorem wt_201 : (Jvm.Cond.instanceMethod ({ cls := "java/lang/Exception", name := "<init>", desc := "(Ljava/lang/String;)V" } : Jvm.MethodName)) ∈ WT := wt_tab 201 (by decide +kernel) (by decide +kernel)
theorem wt_202 : (Jvm.Cond.code ({ cls := "java/lang/Exception", name := "<init>", desc := "(Ljava/lang/String;)V" } : Jvm.MethodName) prog_8_method_2_code (2 : Nat) (Option.none : Option Jvm.ClassFile.FieldType)) ∈ WT := wt_tab 202 (by decide +kernel) (by decide +kernel)
theorem wt_203 : (Jvm.Cond.methodLink "java/lang/Exception" (7 : Nat) ({ cls := "java/lang/Throwable", name := "<init>", desc := "(Ljava/lang/String;)V" } : Jvm.MethodName)) ∈ WT := wt_tab 203 (by decide +kernel) (by decide +kernel)
theorem wt_204 : (Jvm.Cond.instanceMethod ({ cls := "java/lang/Throwable", name := "<init>", desc := "(Ljava/lang/String;)V" } : Jvm.MethodName)) ∈ WT := wt_tab 204 (by decide +kernel) (by decide +kernel)
theorem wt_205 : (Jvm.Cond.code ({ cls := "java/lang/Throwable", name := "<init>", desc := "(Ljava/lang/String;)V" } : Jvm.MethodName) prog_16_method_2_code (2 : Nat) (Option.none : Option Jvm.ClassFile.FieldType)) ∈ WT := wt_tab 205 (by decide +kernel) (by decide +kernel)
theorem wt_206 : (Jvm.Cond.fieldLink "java/lang/Throwable" (198 : Nat) "java/lang/Throwable" "backtrace" "Ljava/lang/Object;") ∈ WT := wt_tab 206 (by decide +kernel) (by decide +kernel)
theorem wt_207 : (Jvm.Cond.fieldLink "java/lang/Throwable" (31 : Nat) "java/lang/Throwable" "detailMessage" "Ljava/lang/String;") ∈ WT := wt_tab 207 (by decide +kernel) (by decide +kernel)
theorem wt_208 : (Jvm.Cond.fieldLink "java/lang/Throwable" (7 : Nat) "java/lang/Throwable" "cause" "Ljava/lang/Throwable;") ∈ WT := wt_tab 208 (by decide +kernel) (by decide +kernel)
theorem wt_209 : (Jvm.Cond.fieldLink "java/lang/Throwable" (17 : Nat) "java/lang/Throwable" "stackTrace" "[Ljava/lang/StackTraceElement;") ∈ WT := wt_tab 209 (by decide +kernel) (by decide +kernel)
theorem wt_210 : (Jvm.Cond.fieldLink "java/lang/Throwable" (24 : Nat) "java/lang/Throwable" "suppressedExceptions" "Ljava/util/List;") ∈ WT := wt_tab 210 (by decide +kernel) (by decide +kernel)
theorem wt_211 : (Jvm.Cond.soleField "java/lang/Throwable" "backtrace") ∈ WT := wt_tab 211 (by decide +kernel) (by decide +kernel)
theorem wt_212 : (Jvm.Cond.soleField "java/lang/Throwable" "detailMessage") ∈ WT := wt_tab 212 (by decide +kernel) (by decide +kernel)
theorem wt_213 : (Jvm.Cond.soleField "java/lang/Throwable" "cause") ∈ WT := wt_tab 213 (by decide +kernel) (by decide +kernel)
theorem wt_214 : (Jvm.Cond.soleField "java/lang/Throwable" "stackTrace") ∈ WT := wt_tab 214 (by decide +kernel) (by decide +kernel)
theorem wt_215 : (Jvm.Cond.lays "java/lang/IndexOutOfBoundsException" "java/lang/Throwable" "depth" "I") ∈ WT := wt_tab 215 (by decide +kernel) (by decide +kernel)
theorem wt_216 : (Jvm.Cond.soleField "java/lang/Throwable" "depth") ∈ WT := wt_tab 216 (by decide +kernel) (by decide +kernel)
theorem wt_217 : (Jvm.Cond.soleField "java/lang/Throwable" "suppressedExceptions") ∈ WT := wt_tab 217 (by decide +kernel) (by decide +kernel)
theorem wt_218 : (Jvm.Cond.superclass "java/lang/IndexOutOfBoundsException" "java/lang/RuntimeException") ∈ WT := wt_tab 218 (by decide +kernel) (by decide +kernel)
theorem wt_219 : (Jvm.Cond.arrayClass Jvm.ClassFile.FieldType.byte) ∈ WT := wt_tab 219 (by decide +kernel) (by decide +kernel)
theorem wt_220 : (Jvm.Cond.methodLink "CollectionsEngine" (65 : Nat) ({ cls := "CollectionsEngine$Calendar", name := "weekdaysWith", desc := "(IZ)I" } : Jvm.MethodName)) ∈ WT := wt_tab 220 (by decide +kernel) (by decide +kernel)
theorem wt_221 : (Jvm.Cond.instanceMethod ({ cls := "CollectionsEngine$Calendar", name := "weekdaysWith", desc := "(IZ)I" } : Jvm.MethodName)) ∈ WT := wt_tab 221 (by decide +kernel) (by decide +kernel)
theorem wt_222 : (Jvm.Cond.selects "CollectionsEngine$Calendar" ({ cls := "CollectionsEngine$Calendar", name := "weekdaysWith", desc := "(IZ)I" } : Jvm.MethodName) ({ cls := "CollectionsEngine$Calendar", name := "weekdaysWith", desc := "(IZ)I" } : Jvm.MethodName)) ∈ WT := wt_tab 222 (by decide +kernel) (by decide +kernel)
theorem wt_223 : (Jvm.Cond.code ({ cls := "CollectionsEngine$Calendar", name := "weekdaysWith", desc := "(IZ)I" } : Jvm.MethodName) prog_3_method_2_code (4 : Nat) (Option.some Jvm.ClassFile.FieldType.int)) ∈ WT := wt_tab 223 (by decide +kernel) (by decide +kernel)
theorem wt_224 : (Jvm.Cond.classLink "CollectionsEngine" (69 : Nat) "java/lang/IllegalStateException") ∈ WT := wt_tab 224 (by decide +kernel) (by decide +kernel)
theorem wt_225 : (Jvm.Cond.instantiable "java/lang/IllegalStateException" (6 : Nat)) ∈ WT := wt_tab 225 (by decide +kernel) (by decide +kernel)
theorem wt_227 : (Jvm.Cond.selects "java/lang/IllegalStateException" ({ cls := "java/lang/Throwable", name := "fillInStackTrace", desc := "(I)Ljava/lang/Throwable;" } : Jvm.MethodName) ({ cls := "java/lang/Throwable", name := "fillInStackTrace", desc := "(I)Ljava/lang/Throwable;" } : Jvm.MethodName)) ∈ WT := wt_tab 227 (by decide +kernel) (by decide +kernel)
theorem wt_228 : (Jvm.Cond.lays "java/lang/IllegalStateException" "java/lang/Throwable" "cause" "Ljava/lang/Throwable;") ∈ WT := wt_tab 228 (by decide +kernel) (by decide +kernel)
theorem wt_229 : (Jvm.Cond.lays "java/lang/IllegalStateException" "java/lang/Throwable" "stackTrace" "[Ljava/lang/StackTraceElement;") ∈ WT := wt_tab 229 (by decide +kernel) (by decide +kernel)
theorem wt_230 : (Jvm.Cond.lays "java/lang/IllegalStateException" "java/lang/Throwable" "suppressedExceptions" "Ljava/util/List;") ∈ WT := wt_tab 230 (by decide +kernel) (by decide +kernel)
theorem wt_231 : (Jvm.Cond.lays "java/lang/IllegalStateException" "java/lang/Throwable" "detailMessage" "Ljava/lang/String;") ∈ WT := wt_tab 231 (by decide +kernel) (by decide +kernel)
theorem wt_232 : (Jvm.Cond.lays "java/lang/IllegalStateException" "java/lang/Throwable" "backtrace" "Ljava/lang/Object;") ∈ WT := wt_tab 232 (by decide +kernel) (by decide +kernel)
theorem wt_234 : (Jvm.Cond.methodLink "CollectionsEngine" (73 : Nat) ({ cls := "java/lang/IllegalStateException", name := "<init>", desc := "(Ljava/lang/String;)V" } : Jvm.MethodName)) ∈ WT := wt_tab 234 (by decide +kernel) (by decide +kernel)
theorem wt_235 : (Jvm.Cond.instanceMethod ({ cls := "java/lang/IllegalStateException", name := "<init>", desc := "(Ljava/lang/String;)V" } : Jvm.MethodName)) ∈ WT := wt_tab 235 (by decide +kernel) (by decide +kernel)
theorem wt_236 : (Jvm.Cond.code ({ cls := "java/lang/IllegalStateException", name := "<init>", desc := "(Ljava/lang/String;)V" } : Jvm.MethodName) prog_10_method_2_code (2 : Nat) (Option.none : Option Jvm.ClassFile.FieldType)) ∈ WT := wt_tab 236 (by decide +kernel) (by decide +kernel)
theorem wt_237 : (Jvm.Cond.methodLink "java/lang/IllegalStateException" (7 : Nat) ({ cls := "java/lang/RuntimeException", name := "<init>", desc := "(Ljava/lang/String;)V" } : Jvm.MethodName)) ∈ WT := wt_tab 237 (by decide +kernel) (by decide +kernel)
theorem wt_238 : (Jvm.Cond.lays "java/lang/IllegalStateException" "java/lang/Throwable" "depth" "I") ∈ WT := wt_tab 238 (by decide +kernel) (by decide +kernel)
theorem wt_239 : (Jvm.Cond.superclass "java/lang/IllegalStateException" "java/lang/RuntimeException") ∈ WT := wt_tab 239 (by decide +kernel) (by decide +kernel)
theorem wt_240 : (Jvm.Cond.methodLink "CollectionsEngine" (77 : Nat) ({ cls := "java/lang/Integer", name := "bitCount", desc := "(I)I" } : Jvm.MethodName)) ∈ WT := wt_tab 240 (by decide +kernel) (by decide +kernel)
theorem wt_241 : (Jvm.Cond.static ({ cls := "java/lang/Integer", name := "bitCount", desc := "(I)I" } : Jvm.MethodName)) ∈ WT := wt_tab 241 (by decide +kernel) (by decide +kernel)
theorem wt_242 : (Jvm.Cond.code ({ cls := "java/lang/Integer", name := "bitCount", desc := "(I)I" } : Jvm.MethodName) prog_12_method_49_code (1 : Nat) (Option.some Jvm.ClassFile.FieldType.int)) ∈ WT := wt_tab 242 (by decide +kernel) (by decide +kernel)
theorem wt_243 : (Jvm.Cond.constant "java/lang/Integer" (265 : Nat) (1431655765 : Int32)) ∈ WT := wt_tab 243 (by decide +kernel) (by decide +kernel)
theorem wt_244 : (Jvm.Cond.constant "java/lang/Integer" (266 : Nat) (858993459 : Int32)) ∈ WT := wt_tab 244 (by decide +kernel) (by decide +kernel)
theorem wt_245 : (Jvm.Cond.constant "java/lang/Integer" (267 : Nat) (252645135 : Int32)) ∈ WT := wt_tab 245 (by decide +kernel) (by decide +kernel)
theorem wt_246 : (Jvm.Cond.methodLink "CollectionsEngineLaw" (96 : Nat) ({ cls := "CollectionsEngineLaw", name := "addHoliday", desc := "(LCollectionsEngine;I[J)I" } : Jvm.MethodName)) ∈ WT := wt_tab 246 (by decide +kernel) (by decide +kernel)
theorem wt_247 : (Jvm.Cond.static ({ cls := "CollectionsEngineLaw", name := "addHoliday", desc := "(LCollectionsEngine;I[J)I" } : Jvm.MethodName)) ∈ WT := wt_tab 247 (by decide +kernel) (by decide +kernel)
theorem wt_248 : (Jvm.Cond.codeWith ({ cls := "CollectionsEngineLaw", name := "addHoliday", desc := "(LCollectionsEngine;I[J)I" } : Jvm.MethodName) method_4_code (4 : Nat) (Option.some Jvm.ClassFile.FieldType.int) [((0 : Nat), (16 : Nat), (19 : Nat), (21 : Nat))]) ∈ WT := wt_tab 248 (by decide +kernel) (by decide +kernel)
theorem wt_249 : (Jvm.Cond.classLink "CollectionsEngineLaw" (21 : Nat) "java/lang/IllegalArgumentException") ∈ WT := wt_tab 249 (by decide +kernel) (by decide +kernel)
theorem wt_250 : (Jvm.Cond.methodLink "CollectionsEngineLaw" (17 : Nat) ({ cls := "CollectionsEngine", name := "addHoliday", desc := "(I)Z" } : Jvm.MethodName)) ∈ WT := wt_tab 250 (by decide +kernel) (by decide +kernel)
theorem wt_251 : (Jvm.Cond.instanceMethod ({ cls := "CollectionsEngine", name := "addHoliday", desc := "(I)Z" } : Jvm.MethodName)) ∈ WT := wt_tab 251 (by decide +kernel) (by decide +kernel)
theorem wt_252 : (Jvm.Cond.selects "CollectionsEngine" ({ cls := "CollectionsEngine", name := "addHoliday", desc := "(I)Z" } : Jvm.MethodName) ({ cls := "CollectionsEngine", name := "addHoliday", desc := "(I)Z" } : Jvm.MethodName)) ∈ WT := wt_tab 252 (by decide +kernel) (by decide +kernel)
theorem wt_253 : (Jvm.Cond.code ({ cls := "CollectionsEngine", name := "addHoliday", desc := "(I)Z" } : Jvm.MethodName) prog_1_method_3_code (3 : Nat) (Option.some Jvm.ClassFile.FieldType.boolean)) ∈ WT := wt_tab 253 (by decide +kernel) (by decide +kernel)
theorem wt_254 : (Jvm.Cond.methodLink "CollectionsEngine" (86 : Nat) ({ cls := "CollectionsEngine", name := "checkRange", desc := "(III)V" } : Jvm.MethodName)) ∈ WT := wt_tab 254 (by decide +kernel) (by decide +kernel)
theorem wt_255 : (Jvm.Cond.static ({ cls := "CollectionsEngine", name := "checkRange", desc := "(III)V" } : Jvm.MethodName)) ∈ WT := wt_tab 255 (by decide +kernel) (by decide +kernel)
theorem wt_256 : (Jvm.Cond.code ({ cls := "CollectionsEngine", name := "checkRange", desc := "(III)V" } : Jvm.MethodName) prog_1_method_30_code (3 : Nat) (Option.none : Option Jvm.ClassFile.FieldType)) ∈ WT := wt_tab 256 (by decide +kernel) (by decide +kernel)
theorem wt_257 : (Jvm.Cond.classLink "CollectionsEngine" (220 : Nat) "java/lang/IllegalArgumentException") ∈ WT := wt_tab 257 (by decide +kernel) (by decide +kernel)
theorem wt_258 : (Jvm.Cond.instantiable "java/lang/IllegalArgumentException" (6 : Nat)) ∈ WT := wt_tab 258 (by decide +kernel) (by decide +kernel)
theorem wt_260 : (Jvm.Cond.selects "java/lang/IllegalArgumentException" ({ cls := "java/lang/Throwable", name := "fillInStackTrace", desc := "(I)Ljava/lang/Throwable;" } : Jvm.MethodName) ({ cls := "java/lang/Throwable", name := "fillInStackTrace", desc := "(I)Ljava/lang/Throwable;" } : Jvm.MethodName)) ∈ WT := wt_tab 260 (by decide +kernel) (by decide +kernel)
theorem wt_261 : (Jvm.Cond.lays "java/lang/IllegalArgumentException" "java/lang/Throwable" "cause" "Ljava/lang/Throwable;") ∈ WT := wt_tab 261 (by decide +kernel) (by decide +kernel)
theorem wt_262 : (Jvm.Cond.lays "java/lang/IllegalArgumentException" "java/lang/Throwable" "stackTrace" "[Ljava/lang/StackTraceElement;") ∈ WT := wt_tab 262 (by decide +kernel) (by decide +kernel)
theorem wt_263 : (Jvm.Cond.lays "java/lang/IllegalArgumentException" "java/lang/Throwable" "suppressedExceptions" "Ljava/util/List;") ∈ WT := wt_tab 263 (by decide +kernel) (by decide +kernel)
theorem wt_264 : (Jvm.Cond.lays "java/lang/IllegalArgumentException" "java/lang/Throwable" "detailMessage" "Ljava/lang/String;") ∈ WT := wt_tab 264 (by decide +kernel) (by decide +kernel)
theorem wt_265 : (Jvm.Cond.lays "java/lang/IllegalArgumentException" "java/lang/Throwable" "backtrace" "Ljava/lang/Object;") ∈ WT := wt_tab 265 (by decide +kernel) (by decide +kernel)
theorem wt_267 : (Jvm.Cond.methodLink "CollectionsEngine" (224 : Nat) ({ cls := "java/lang/IllegalArgumentException", name := "<init>", desc := "(Ljava/lang/String;)V" } : Jvm.MethodName)) ∈ WT := wt_tab 267 (by decide +kernel) (by decide +kernel)
theorem wt_268 : (Jvm.Cond.instanceMethod ({ cls := "java/lang/IllegalArgumentException", name := "<init>", desc := "(Ljava/lang/String;)V" } : Jvm.MethodName)) ∈ WT := wt_tab 268 (by decide +kernel) (by decide +kernel)
theorem wt_269 : (Jvm.Cond.code ({ cls := "java/lang/IllegalArgumentException", name := "<init>", desc := "(Ljava/lang/String;)V" } : Jvm.MethodName) prog_9_method_2_code (2 : Nat) (Option.none : Option Jvm.ClassFile.FieldType)) ∈ WT := wt_tab 269 (by decide +kernel) (by decide +kernel)
theorem wt_270 : (Jvm.Cond.methodLink "java/lang/IllegalArgumentException" (7 : Nat) ({ cls := "java/lang/RuntimeException", name := "<init>", desc := "(Ljava/lang/String;)V" } : Jvm.MethodName)) ∈ WT := wt_tab 270 (by decide +kernel) (by decide +kernel)
theorem wt_271 : (Jvm.Cond.lays "java/lang/IllegalArgumentException" "java/lang/Throwable" "depth" "I") ∈ WT := wt_tab 271 (by decide +kernel) (by decide +kernel)
theorem wt_272 : (Jvm.Cond.superclass "java/lang/IllegalArgumentException" "java/lang/RuntimeException") ∈ WT := wt_tab 272 (by decide +kernel) (by decide +kernel)
theorem wt_273 : (Jvm.Cond.methodLink "CollectionsEngine" (90 : Nat) ({ cls := "CollectionsEngine$Calendar", name := "isHoliday", desc := "(I)Z" } : Jvm.MethodName)) ∈ WT := wt_tab 273 (by decide +kernel) (by decide +kernel)
theorem wt_274 : (Jvm.Cond.instanceMethod ({ cls := "CollectionsEngine$Calendar", name := "isHoliday", desc := "(I)Z" } : Jvm.MethodName)) ∈ WT := wt_tab 274 (by decide +kernel) (by decide +kernel)
theorem wt_275 : (Jvm.Cond.selects "CollectionsEngine$Calendar" ({ cls := "CollectionsEngine$Calendar", name := "isHoliday", desc := "(I)Z" } : Jvm.MethodName) ({ cls := "CollectionsEngine$Calendar", name := "isHoliday", desc := "(I)Z" } : Jvm.MethodName)) ∈ WT := wt_tab 275 (by decide +kernel) (by decide +kernel)
theorem wt_276 : (Jvm.Cond.code ({ cls := "CollectionsEngine$Calendar", name := "isHoliday", desc := "(I)Z" } : Jvm.MethodName) prog_3_method_4_code (3 : Nat) (Option.some Jvm.ClassFile.FieldType.boolean)) ∈ WT := wt_tab 276 (by decide +kernel) (by decide +kernel)
theorem wt_277 : (Jvm.Cond.methodLink "CollectionsEngine" (94 : Nat) ({ cls := "CollectionsEngine$Calendar", name := "keepHoliday", desc := "(I)V" } : Jvm.MethodName)) ∈ WT := wt_tab 277 (by decide +kernel) (by decide +kernel)
theorem wt_278 : (Jvm.Cond.instanceMethod ({ cls := "CollectionsEngine$Calendar", name := "keepHoliday", desc := "(I)V" } : Jvm.MethodName)) ∈ WT := wt_tab 278 (by decide +kernel) (by decide +kernel)
theorem wt_279 : (Jvm.Cond.selects "CollectionsEngine$Calendar" ({ cls := "CollectionsEngine$Calendar", name := "keepHoliday", desc := "(I)V" } : Jvm.MethodName) ({ cls := "CollectionsEngine$Calendar", name := "keepHoliday", desc := "(I)V" } : Jvm.MethodName)) ∈ WT := wt_tab 279 (by decide +kernel) (by decide +kernel)
theorem wt_280 : (Jvm.Cond.code ({ cls := "CollectionsEngine$Calendar", name := "keepHoliday", desc := "(I)V" } : Jvm.MethodName) prog_3_method_3_code (3 : Nat) (Option.none : Option Jvm.ClassFile.FieldType)) ∈ WT := wt_tab 280 (by decide +kernel) (by decide +kernel)
theorem wt_281 : (Jvm.Cond.methodLink "CollectionsEngineLaw" (100 : Nat) ({ cls := "CollectionsEngineLaw", name := "addGap", desc := "(LCollectionsEngine;II[J)I" } : Jvm.MethodName)) ∈ WT := wt_tab 281 (by decide +kernel) (by decide +kernel)
theorem wt_282 : (Jvm.Cond.static ({ cls := "CollectionsEngineLaw", name := "addGap", desc := "(LCollectionsEngine;II[J)I" } : Jvm.MethodName)) ∈ WT := wt_tab 282 (by decide +kernel) (by decide +kernel)
theorem wt_283 : (Jvm.Cond.codeWith ({ cls := "CollectionsEngineLaw", name := "addGap", desc := "(LCollectionsEngine;II[J)I" } : Jvm.MethodName) method_5_code (5 : Nat) (Option.some Jvm.ClassFile.FieldType.int) [((0 : Nat), (10 : Nat), (13 : Nat), (13 : Nat)), ((0 : Nat), (10 : Nat), (17 : Nat), (21 : Nat)), ((0 : Nat), (10 : Nat), (21 : Nat), (15 : Nat))]) ∈ WT := wt_tab 283 (by decide +kernel) (by decide +kernel)
theorem wt_284 : (Jvm.Cond.methodLink "CollectionsEngineLaw" (23 : Nat) ({ cls := "CollectionsEngine", name := "addGap", desc := "(II)I" } : Jvm.MethodName)) ∈ WT := wt_tab 284 (by decide +kernel) (by decide +kernel)
theorem wt_285 : (Jvm.Cond.instanceMethod ({ cls := "CollectionsEngine", name := "addGap", desc := "(II)I" } : Jvm.MethodName)) ∈ WT := wt_tab 285 (by decide +kernel) (by decide +kernel)
theorem wt_286 : (Jvm.Cond.selects "CollectionsEngine" ({ cls := "CollectionsEngine", name := "addGap", desc := "(II)I" } : Jvm.MethodName) ({ cls := "CollectionsEngine", name := "addGap", desc := "(II)I" } : Jvm.MethodName)) ∈ WT := wt_tab 286 (by decide +kernel) (by decide +kernel)
theorem wt_287 : (Jvm.Cond.code ({ cls := "CollectionsEngine", name := "addGap", desc := "(II)I" } : Jvm.MethodName) prog_1_method_4_code (4 : Nat) (Option.some Jvm.ClassFile.FieldType.int)) ∈ WT := wt_tab 287 (by decide +kernel) (by decide +kernel)
theorem wt_288 : (Jvm.Cond.methodLink "CollectionsEngine" (98 : Nat) ({ cls := "CollectionsEngine", name := "indexOfReason", desc := "(I)I" } : Jvm.MethodName)) ∈ WT := wt_tab 288 (by decide +kernel) (by decide +kernel)
theorem wt_289 : (Jvm.Cond.static ({ cls := "CollectionsEngine", name := "indexOfReason", desc := "(I)I" } : Jvm.MethodName)) ∈ WT := wt_tab 289 (by decide +kernel) (by decide +kernel)
theorem wt_290 : (Jvm.Cond.code ({ cls := "CollectionsEngine", name := "indexOfReason", desc := "(I)I" } : Jvm.MethodName) prog_1_method_32_code (1 : Nat) (Option.some Jvm.ClassFile.FieldType.int)) ∈ WT := wt_tab 290 (by decide +kernel) (by decide +kernel)
theorem wt_293 : (Jvm.Cond.methodLink "CollectionsEngine" (106 : Nat) ({ cls := "CollectionsEngine$Gaps", name := "append", desc := "(I)V" } : Jvm.MethodName)) ∈ WT := wt_tab 293 (by decide +kernel) (by decide +kernel)
theorem wt_294 : (Jvm.Cond.instanceMethod ({ cls := "CollectionsEngine$Gaps", name := "append", desc := "(I)V" } : Jvm.MethodName)) ∈ WT := wt_tab 294 (by decide +kernel) (by decide +kernel)
theorem wt_295 : (Jvm.Cond.selects "CollectionsEngine$Gaps" ({ cls := "CollectionsEngine$Gaps", name := "append", desc := "(I)V" } : Jvm.MethodName) ({ cls := "CollectionsEngine$Gaps", name := "append", desc := "(I)V" } : Jvm.MethodName)) ∈ WT := wt_tab 295 (by decide +kernel) (by decide +kernel)
theorem wt_296 : (Jvm.Cond.code ({ cls := "CollectionsEngine$Gaps", name := "append", desc := "(I)V" } : Jvm.MethodName) prog_5_method_2_code (2 : Nat) (Option.none : Option Jvm.ClassFile.FieldType)) ∈ WT := wt_tab 296 (by decide +kernel) (by decide +kernel)
theorem wt_297 : (Jvm.Cond.methodLink "CollectionsEngineLaw" (104 : Nat) ({ cls := "CollectionsEngineLaw", name := "clearGaps", desc := "(LCollectionsEngine;I[J)I" } : Jvm.MethodName)) ∈ WT := wt_tab 297 (by decide +kernel) (by decide +kernel)
theorem wt_298 : (Jvm.Cond.static ({ cls := "CollectionsEngineLaw", name := "clearGaps", desc := "(LCollectionsEngine;I[J)I" } : Jvm.MethodName)) ∈ WT := wt_tab 298 (by decide +kernel) (by decide +kernel)
theorem wt_299 : (Jvm.Cond.codeWith ({ cls := "CollectionsEngineLaw", name := "clearGaps", desc := "(LCollectionsEngine;I[J)I" } : Jvm.MethodName) method_6_code (4 : Nat) (Option.some Jvm.ClassFile.FieldType.int) [((0 : Nat), (9 : Nat), (12 : Nat), (13 : Nat))]) ∈ WT := wt_tab 299 (by decide +kernel) (by decide +kernel)
theorem wt_300 : (Jvm.Cond.methodLink "CollectionsEngineLaw" (27 : Nat) ({ cls := "CollectionsEngine", name := "clearGaps", desc := "(I)I" } : Jvm.MethodName)) ∈ WT := wt_tab 300 (by decide +kernel) (by decide +kernel)
theorem wt_301 : (Jvm.Cond.instanceMethod ({ cls := "CollectionsEngine", name := "clearGaps", desc := "(I)I" } : Jvm.MethodName)) ∈ WT := wt_tab 301 (by decide +kernel) (by decide +kernel)
theorem wt_302 : (Jvm.Cond.selects "CollectionsEngine" ({ cls := "CollectionsEngine", name := "clearGaps", desc := "(I)I" } : Jvm.MethodName) ({ cls := "CollectionsEngine", name := "clearGaps", desc := "(I)I" } : Jvm.MethodName)) ∈ WT := wt_tab 302 (by decide +kernel) (by decide +kernel)
theorem wt_303 : (Jvm.Cond.code ({ cls := "CollectionsEngine", name := "clearGaps", desc := "(I)I" } : Jvm.MethodName) prog_1_method_5_code (4 : Nat) (Option.some Jvm.ClassFile.FieldType.int)) ∈ WT := wt_tab 303 (by decide +kernel) (by decide +kernel)
theorem wt_304 : (Jvm.Cond.methodLink "CollectionsEngineLaw" (107 : Nat) ({ cls := "CollectionsEngineLaw", name := "setTimes", desc := "(LCollectionsEngine;II[J)I" } : Jvm.MethodName)) ∈ WT := wt_tab 304 (by decide +kernel) (by decide +kernel)
theorem wt_305 : (Jvm.Cond.static ({ cls := "CollectionsEngineLaw", name := "setTimes", desc := "(LCollectionsEngine;II[J)I" } : Jvm.MethodName)) ∈ WT := wt_tab 305 (by decide +kernel) (by decide +kernel)
theorem wt_306 : (Jvm.Cond.codeWith ({ cls := "CollectionsEngineLaw", name := "setTimes", desc := "(LCollectionsEngine;II[J)I" } : Jvm.MethodName) method_7_code (5 : Nat) (Option.some Jvm.ClassFile.FieldType.int) [((0 : Nat), (10 : Nat), (13 : Nat), (21 : Nat))]) ∈ WT := wt_tab 306 (by decide +kernel) (by decide +kernel)
theorem wt_307 : (Jvm.Cond.methodLink "CollectionsEngineLaw" (31 : Nat) ({ cls := "CollectionsEngine", name := "setTimes", desc := "(II)I" } : Jvm.MethodName)) ∈ WT := wt_tab 307 (by decide +kernel) (by decide +kernel)
theorem wt_308 : (Jvm.Cond.instanceMethod ({ cls := "CollectionsEngine", name := "setTimes", desc := "(II)I" } : Jvm.MethodName)) ∈ WT := wt_tab 308 (by decide +kernel) (by decide +kernel)
theorem wt_309 : (Jvm.Cond.selects "CollectionsEngine" ({ cls := "CollectionsEngine", name := "setTimes", desc := "(II)I" } : Jvm.MethodName) ({ cls := "CollectionsEngine", name := "setTimes", desc := "(II)I" } : Jvm.MethodName)) ∈ WT := wt_tab 309 (by decide +kernel) (by decide +kernel)
theorem wt_310 : (Jvm.Cond.code ({ cls := "CollectionsEngine", name := "setTimes", desc := "(II)I" } : Jvm.MethodName) prog_1_method_6_code (4 : Nat) (Option.some Jvm.ClassFile.FieldType.int)) ∈ WT := wt_tab 310 (by decide +kernel) (by decide +kernel)
theorem wt_311 : (Jvm.Cond.methodLink "CollectionsEngineLaw" (110 : Nat) ({ cls := "CollectionsEngineLaw", name := "bill", desc := "(LCollectionsEngine;II[J)I" } : Jvm.MethodName)) ∈ WT := wt_tab 311 (by decide +kernel) (by decide +kernel)
theorem wt_312 : (Jvm.Cond.static ({ cls := "CollectionsEngineLaw", name := "bill", desc := "(LCollectionsEngine;II[J)I" } : Jvm.MethodName)) ∈ WT := wt_tab 312 (by decide +kernel) (by decide +kernel)
theorem wt_313 : (Jvm.Cond.codeWith ({ cls := "CollectionsEngineLaw", name := "bill", desc := "(LCollectionsEngine;II[J)I" } : Jvm.MethodName) method_8_code (5 : Nat) (Option.some Jvm.ClassFile.FieldType.int) [((0 : Nat), (10 : Nat), (13 : Nat), (13 : Nat)), ((0 : Nat), (10 : Nat), (17 : Nat), (21 : Nat)), ((0 : Nat), (10 : Nat), (21 : Nat), (15 : Nat))]) ∈ WT := wt_tab 313 (by decide +kernel) (by decide +kernel)
theorem wt_314 : (Jvm.Cond.methodLink "CollectionsEngineLaw" (34 : Nat) ({ cls := "CollectionsEngine", name := "bill", desc := "(II)I" } : Jvm.MethodName)) ∈ WT := wt_tab 314 (by decide +kernel) (by decide +kernel)
theorem wt_315 : (Jvm.Cond.instanceMethod ({ cls := "CollectionsEngine", name := "bill", desc := "(II)I" } : Jvm.MethodName)) ∈ WT := wt_tab 315 (by decide +kernel) (by decide +kernel)
theorem wt_316 : (Jvm.Cond.selects "CollectionsEngine" ({ cls := "CollectionsEngine", name := "bill", desc := "(II)I" } : Jvm.MethodName) ({ cls := "CollectionsEngine", name := "bill", desc := "(II)I" } : Jvm.MethodName)) ∈ WT := wt_tab 316 (by decide +kernel) (by decide +kernel)
theorem wt_317 : (Jvm.Cond.code ({ cls := "CollectionsEngine", name := "bill", desc := "(II)I" } : Jvm.MethodName) prog_1_method_7_code (5 : Nat) (Option.some Jvm.ClassFile.FieldType.int)) ∈ WT := wt_tab 317 (by decide +kernel) (by decide +kernel)
theorem wt_318 : (Jvm.Cond.methodLink "CollectionsEngine" (109 : Nat) ({ cls := "CollectionsEngine", name := "checkAccount", desc := "(I)V" } : Jvm.MethodName)) ∈ WT := wt_tab 318 (by decide +kernel) (by decide +kernel)
theorem wt_319 : (Jvm.Cond.static ({ cls := "CollectionsEngine", name := "checkAccount", desc := "(I)V" } : Jvm.MethodName)) ∈ WT := wt_tab 319 (by decide +kernel) (by decide +kernel)
theorem wt_320 : (Jvm.Cond.code ({ cls := "CollectionsEngine", name := "checkAccount", desc := "(I)V" } : Jvm.MethodName) prog_1_method_31_code (1 : Nat) (Option.none : Option Jvm.ClassFile.FieldType)) ∈ WT := wt_tab 320 (by decide +kernel) (by decide +kernel)
theorem wt_323 : (Jvm.Cond.instantiable "CollectionsEngine$Bill" (11 : Nat)) ∈ WT := wt_tab 323 (by decide +kernel) (by decide +kernel)
theorem wt_324 : (Jvm.Cond.methodLink "CollectionsEngine" (117 : Nat) ({ cls := "CollectionsEngine$Bill", name := "<init>", desc := "(III)V" } : Jvm.MethodName)) ∈ WT := wt_tab 324 (by decide +kernel) (by decide +kernel)
theorem wt_325 : (Jvm.Cond.instanceMethod ({ cls := "CollectionsEngine$Bill", name := "<init>", desc := "(III)V" } : Jvm.MethodName)) ∈ WT := wt_tab 325 (by decide +kernel) (by decide +kernel)
theorem wt_326 : (Jvm.Cond.code ({ cls := "CollectionsEngine$Bill", name := "<init>", desc := "(III)V" } : Jvm.MethodName) prog_2_method_1_code (4 : Nat) (Option.none : Option Jvm.ClassFile.FieldType)) ∈ WT := wt_tab 326 (by decide +kernel) (by decide +kernel)
theorem wt_327 : (Jvm.Cond.methodLink "CollectionsEngine$Bill" (3 : Nat) ({ cls := "java/lang/Object", name := "<init>", desc := "()V" } : Jvm.MethodName)) ∈ WT := wt_tab 327 (by decide +kernel) (by decide +kernel)
theorem wt_328 : (Jvm.Cond.fieldLink "CollectionsEngine$Bill" (9 : Nat) "CollectionsEngine$Bill" "number" "I") ∈ WT := wt_tab 328 (by decide +kernel) (by decide +kernel)
theorem wt_329 : (Jvm.Cond.fieldLink "CollectionsEngine" (231 : Nat) "CollectionsEngine$Bill" "number" "I") ∈ WT := wt_tab 329 (by decide +kernel) (by decide +kernel)
theorem wt_330 : (Jvm.Cond.fieldLink "CollectionsEngine$Bill" (15 : Nat) "CollectionsEngine$Bill" "account" "I") ∈ WT := wt_tab 330 (by decide +kernel) (by decide +kernel)
theorem wt_331 : (Jvm.Cond.fieldLink "CollectionsEngine" (184 : Nat) "CollectionsEngine$Bill" "account" "I") ∈ WT := wt_tab 331 (by decide +kernel) (by decide +kernel)
theorem wt_332 : (Jvm.Cond.fieldLink "CollectionsEngine$Bill" (21 : Nat) "CollectionsEngine$Bill" "failures" "[I") ∈ WT := wt_tab 332 (by decide +kernel) (by decide +kernel)
theorem wt_333 : (Jvm.Cond.fieldLink "CollectionsEngine" (178 : Nat) "CollectionsEngine$Bill" "failures" "[I") ∈ WT := wt_tab 333 (by decide +kernel) (by decide +kernel)
theorem wt_334 : (Jvm.Cond.fieldLink "CollectionsEngine$Bill" (18 : Nat) "CollectionsEngine$Bill" "left" "I") ∈ WT := wt_tab 334 (by decide +kernel) (by decide +kernel)
theorem wt_335 : (Jvm.Cond.fieldLink "CollectionsEngine" (138 : Nat) "CollectionsEngine$Bill" "left" "I") ∈ WT := wt_tab 335 (by decide +kernel) (by decide +kernel)
theorem wt_336 : (Jvm.Cond.fieldLink "CollectionsEngine" (133 : Nat) "CollectionsEngine$Bill" "state" "I") ∈ WT := wt_tab 336 (by decide +kernel) (by decide +kernel)
theorem wt_337 : (Jvm.Cond.fieldLink "CollectionsEngine" (158 : Nat) "CollectionsEngine$Bill" "waitDay" "I") ∈ WT := wt_tab 337 (by decide +kernel) (by decide +kernel)
theorem wt_338 : (Jvm.Cond.fieldLink "CollectionsEngine" (175 : Nat) "CollectionsEngine$Bill" "tries" "I") ∈ WT := wt_tab 338 (by decide +kernel) (by decide +kernel)
theorem wt_339 : (Jvm.Cond.fieldLink "CollectionsEngine" (150 : Nat) "CollectionsEngine$Bill" "promises" "I") ∈ WT := wt_tab 339 (by decide +kernel) (by decide +kernel)
theorem wt_340 : (Jvm.Cond.fieldLink "CollectionsEngine" (181 : Nat) "CollectionsEngine$Bill" "brokenPromises" "I") ∈ WT := wt_tab 340 (by decide +kernel) (by decide +kernel)
theorem wt_341 : (Jvm.Cond.fieldLink "CollectionsEngine" (155 : Nat) "CollectionsEngine$Bill" "stateAhead" "I") ∈ WT := wt_tab 341 (by decide +kernel) (by decide +kernel)
theorem wt_342 : (Jvm.Cond.fieldLink "CollectionsEngine" (161 : Nat) "CollectionsEngine$Bill" "daysAhead" "I") ∈ WT := wt_tab 342 (by decide +kernel) (by decide +kernel)
theorem wt_343 : (Jvm.Cond.laysFinal "CollectionsEngine$Bill" "CollectionsEngine$Bill" "number" "I") ∈ WT := wt_tab 343 (by decide +kernel) (by decide +kernel)
theorem wt_344 : (Jvm.Cond.soleField "CollectionsEngine$Bill" "number") ∈ WT := wt_tab 344 (by decide +kernel) (by decide +kernel)
theorem wt_345 : (Jvm.Cond.laysFinal "CollectionsEngine$Bill" "CollectionsEngine$Bill" "account" "I") ∈ WT := wt_tab 345 (by decide +kernel) (by decide +kernel)
theorem wt_346 : (Jvm.Cond.soleField "CollectionsEngine$Bill" "account") ∈ WT := wt_tab 346 (by decide +kernel) (by decide +kernel)
theorem wt_347 : (Jvm.Cond.laysFinal "CollectionsEngine$Bill" "CollectionsEngine$Bill" "failures" "[I") ∈ WT := wt_tab 347 (by decide +kernel) (by decide +kernel)
theorem wt_348 : (Jvm.Cond.soleField "CollectionsEngine$Bill" "failures") ∈ WT := wt_tab 348 (by decide +kernel) (by decide +kernel)
theorem wt_349 : (Jvm.Cond.lays "CollectionsEngine$Bill" "CollectionsEngine$Bill" "left" "I") ∈ WT := wt_tab 349 (by decide +kernel) (by decide +kernel)
theorem wt_350 : (Jvm.Cond.soleField "CollectionsEngine$Bill" "left") ∈ WT := wt_tab 350 (by decide +kernel) (by decide +kernel)
theorem wt_351 : (Jvm.Cond.lays "CollectionsEngine$Bill" "CollectionsEngine$Bill" "state" "I") ∈ WT := wt_tab 351 (by decide +kernel) (by decide +kernel)
theorem wt_352 : (Jvm.Cond.soleField "CollectionsEngine$Bill" "state") ∈ WT := wt_tab 352 (by decide +kernel) (by decide +kernel)
theorem wt_353 : (Jvm.Cond.lays "CollectionsEngine$Bill" "CollectionsEngine$Bill" "waitDay" "I") ∈ WT := wt_tab 353 (by decide +kernel) (by decide +kernel)
theorem wt_354 : (Jvm.Cond.soleField "CollectionsEngine$Bill" "waitDay") ∈ WT := wt_tab 354 (by decide +kernel) (by decide +kernel)
theorem wt_355 : (Jvm.Cond.lays "CollectionsEngine$Bill" "CollectionsEngine$Bill" "tries" "I") ∈ WT := wt_tab 355 (by decide +kernel) (by decide +kernel)
theorem wt_356 : (Jvm.Cond.soleField "CollectionsEngine$Bill" "tries") ∈ WT := wt_tab 356 (by decide +kernel) (by decide +kernel)
theorem wt_357 : (Jvm.Cond.lays "CollectionsEngine$Bill" "CollectionsEngine$Bill" "promises" "I") ∈ WT := wt_tab 357 (by decide +kernel) (by decide +kernel)
theorem wt_358 : (Jvm.Cond.soleField "CollectionsEngine$Bill" "promises") ∈ WT := wt_tab 358 (by decide +kernel) (by decide +kernel)
theorem wt_359 : (Jvm.Cond.lays "CollectionsEngine$Bill" "CollectionsEngine$Bill" "brokenPromises" "I") ∈ WT := wt_tab 359 (by decide +kernel) (by decide +kernel)
theorem wt_360 : (Jvm.Cond.soleField "CollectionsEngine$Bill" "brokenPromises") ∈ WT := wt_tab 360 (by decide +kernel) (by decide +kernel)
theorem wt_361 : (Jvm.Cond.lays "CollectionsEngine$Bill" "CollectionsEngine$Bill" "stateAhead" "I") ∈ WT := wt_tab 361 (by decide +kernel) (by decide +kernel)
theorem wt_362 : (Jvm.Cond.soleField "CollectionsEngine$Bill" "stateAhead") ∈ WT := wt_tab 362 (by decide +kernel) (by decide +kernel)
theorem wt_363 : (Jvm.Cond.lays "CollectionsEngine$Bill" "CollectionsEngine$Bill" "daysAhead" "I") ∈ WT := wt_tab 363 (by decide +kernel) (by decide +kernel)
theorem wt_364 : (Jvm.Cond.soleField "CollectionsEngine$Bill" "daysAhead") ∈ WT := wt_tab 364 (by decide +kernel) (by decide +kernel)
theorem wt_365 : (Jvm.Cond.superclass "CollectionsEngine$Bill" "java/lang/Object") ∈ WT := wt_tab 365 (by decide +kernel) (by decide +kernel)
theorem wt_366 : (Jvm.Cond.methodLink "CollectionsEngine" (122 : Nat) ({ cls := "CollectionsEngine$Calendar", name := "firstChargingFrom", desc := "(I)I" } : Jvm.MethodName)) ∈ WT := wt_tab 366 (by decide +kernel) (by decide +kernel)
theorem wt_367 : (Jvm.Cond.instanceMethod ({ cls := "CollectionsEngine$Calendar", name := "firstChargingFrom", desc := "(I)I" } : Jvm.MethodName)) ∈ WT := wt_tab 367 (by decide +kernel) (by decide +kernel)
theorem wt_368 : (Jvm.Cond.selects "CollectionsEngine$Calendar" ({ cls := "CollectionsEngine$Calendar", name := "firstChargingFrom", desc := "(I)I" } : Jvm.MethodName) ({ cls := "CollectionsEngine$Calendar", name := "firstChargingFrom", desc := "(I)I" } : Jvm.MethodName)) ∈ WT := wt_tab 368 (by decide +kernel) (by decide +kernel)
theorem wt_369 : (Jvm.Cond.code ({ cls := "CollectionsEngine$Calendar", name := "firstChargingFrom", desc := "(I)I" } : Jvm.MethodName) prog_3_method_6_code (4 : Nat) (Option.some Jvm.ClassFile.FieldType.int)) ∈ WT := wt_tab 369 (by decide +kernel) (by decide +kernel)
theorem wt_370 : (Jvm.Cond.methodLink "CollectionsEngine$Calendar" (27 : Nat) ({ cls := "CollectionsEngine$Calendar", name := "allowsCharging", desc := "(I)Z" } : Jvm.MethodName)) ∈ WT := wt_tab 370 (by decide +kernel) (by decide +kernel)
theorem wt_371 : (Jvm.Cond.instanceMethod ({ cls := "CollectionsEngine$Calendar", name := "allowsCharging", desc := "(I)Z" } : Jvm.MethodName)) ∈ WT := wt_tab 371 (by decide +kernel) (by decide +kernel)
theorem wt_372 : (Jvm.Cond.selects "CollectionsEngine$Calendar" ({ cls := "CollectionsEngine$Calendar", name := "allowsCharging", desc := "(I)Z" } : Jvm.MethodName) ({ cls := "CollectionsEngine$Calendar", name := "allowsCharging", desc := "(I)Z" } : Jvm.MethodName)) ∈ WT := wt_tab 372 (by decide +kernel) (by decide +kernel)
theorem wt_373 : (Jvm.Cond.code ({ cls := "CollectionsEngine$Calendar", name := "allowsCharging", desc := "(I)Z" } : Jvm.MethodName) prog_3_method_5_code (3 : Nat) (Option.some Jvm.ClassFile.FieldType.boolean)) ∈ WT := wt_tab 373 (by decide +kernel) (by decide +kernel)
theorem wt_374 : (Jvm.Cond.methodLink "CollectionsEngine$Calendar" (17 : Nat) ({ cls := "java/lang/Math", name := "floorMod", desc := "(II)I" } : Jvm.MethodName)) ∈ WT := wt_tab 374 (by decide +kernel) (by decide +kernel)
theorem wt_375 : (Jvm.Cond.static ({ cls := "java/lang/Math", name := "floorMod", desc := "(II)I" } : Jvm.MethodName)) ∈ WT := wt_tab 375 (by decide +kernel) (by decide +kernel)
theorem wt_376 : (Jvm.Cond.code ({ cls := "java/lang/Math", name := "floorMod", desc := "(II)I" } : Jvm.MethodName) prog_13_method_50_code (3 : Nat) (Option.some Jvm.ClassFile.FieldType.int)) ∈ WT := wt_tab 376 (by decide +kernel) (by decide +kernel)
theorem wt_377 : (Jvm.Cond.methodLink "CollectionsEngine$Calendar" (23 : Nat) ({ cls := "CollectionsEngine$Calendar", name := "isHoliday", desc := "(I)Z" } : Jvm.MethodName)) ∈ WT := wt_tab 377 (by decide +kernel) (by decide +kernel)
theorem wt_378 : (Jvm.Cond.methodLink "CollectionsEngine" (125 : Nat) ({ cls := "CollectionsEngine", name := "enter", desc := "(LCollectionsEngine$Bill;II)V" } : Jvm.MethodName)) ∈ WT := wt_tab 378 (by decide +kernel) (by decide +kernel)
theorem wt_380 : (Jvm.Cond.instanceMethod ({ cls := "CollectionsEngine", name := "enter", desc := "(LCollectionsEngine$Bill;II)V" } : Jvm.MethodName)) ∈ WT := wt_tab 380 (by decide +kernel) (by decide +kernel)
theorem wt_381 : (Jvm.Cond.code ({ cls := "CollectionsEngine", name := "enter", desc := "(LCollectionsEngine$Bill;II)V" } : Jvm.MethodName) prog_1_method_34_code (4 : Nat) (Option.none : Option Jvm.ClassFile.FieldType)) ∈ WT := wt_tab 381 (by decide +kernel) (by decide +kernel)
theorem wt_382 : (Jvm.Cond.methodLink "CollectionsEngine" (234 : Nat) ({ cls := "CollectionsEngine$EventLog", name := "add", desc := "(III)V" } : Jvm.MethodName)) ∈ WT := wt_tab 382 (by decide +kernel) (by decide +kernel)
theorem wt_383 : (Jvm.Cond.instanceMethod ({ cls := "CollectionsEngine$EventLog", name := "add", desc := "(III)V" } : Jvm.MethodName)) ∈ WT := wt_tab 383 (by decide +kernel) (by decide +kernel)
theorem wt_384 : (Jvm.Cond.selects "CollectionsEngine$EventLog" ({ cls := "CollectionsEngine$EventLog", name := "add", desc := "(III)V" } : Jvm.MethodName) ({ cls := "CollectionsEngine$EventLog", name := "add", desc := "(III)V" } : Jvm.MethodName)) ∈ WT := wt_tab 384 (by decide +kernel) (by decide +kernel)
theorem wt_385 : (Jvm.Cond.code ({ cls := "CollectionsEngine$EventLog", name := "add", desc := "(III)V" } : Jvm.MethodName) prog_4_method_2_code (4 : Nat) (Option.none : Option Jvm.ClassFile.FieldType)) ∈ WT := wt_tab 385 (by decide +kernel) (by decide +kernel)
theorem wt_386 : (Jvm.Cond.methodLink "CollectionsEngine$EventLog" (19 : Nat) ({ cls := "java/lang/Math", name := "floorMod", desc := "(II)I" } : Jvm.MethodName)) ∈ WT := wt_tab 386 (by decide +kernel) (by decide +kernel)
theorem wt_387 : (Jvm.Cond.methodLink "CollectionsEngineLaw" (113 : Nat) ({ cls := "CollectionsEngineLaw", name := "outcome", desc := "(LCollectionsEngine;II[J)I" } : Jvm.MethodName)) ∈ WT := wt_tab 387 (by decide +kernel) (by decide +kernel)
theorem wt_388 : (Jvm.Cond.static ({ cls := "CollectionsEngineLaw", name := "outcome", desc := "(LCollectionsEngine;II[J)I" } : Jvm.MethodName)) ∈ WT := wt_tab 388 (by decide +kernel) (by decide +kernel)
theorem wt_389 : (Jvm.Cond.codeWith ({ cls := "CollectionsEngineLaw", name := "outcome", desc := "(LCollectionsEngine;II[J)I" } : Jvm.MethodName) method_9_code (5 : Nat) (Option.some Jvm.ClassFile.FieldType.int) [((0 : Nat), (10 : Nat), (13 : Nat), (13 : Nat)), ((0 : Nat), (10 : Nat), (17 : Nat), (21 : Nat)), ((0 : Nat), (10 : Nat), (21 : Nat), (15 : Nat))]) ∈ WT := wt_tab 389 (by decide +kernel) (by decide +kernel)
theorem wt_390 : (Jvm.Cond.methodLink "CollectionsEngineLaw" (37 : Nat) ({ cls := "CollectionsEngine", name := "outcome", desc := "(II)I" } : Jvm.MethodName)) ∈ WT := wt_tab 390 (by decide +kernel) (by decide +kernel)
theorem wt_391 : (Jvm.Cond.instanceMethod ({ cls := "CollectionsEngine", name := "outcome", desc := "(II)I" } : Jvm.MethodName)) ∈ WT := wt_tab 391 (by decide +kernel) (by decide +kernel)
theorem wt_392 : (Jvm.Cond.selects "CollectionsEngine" ({ cls := "CollectionsEngine", name := "outcome", desc := "(II)I" } : Jvm.MethodName) ({ cls := "CollectionsEngine", name := "outcome", desc := "(II)I" } : Jvm.MethodName)) ∈ WT := wt_tab 392 (by decide +kernel) (by decide +kernel)
theorem wt_393 : (Jvm.Cond.code ({ cls := "CollectionsEngine", name := "outcome", desc := "(II)I" } : Jvm.MethodName) prog_1_method_8_code (4 : Nat) (Option.some Jvm.ClassFile.FieldType.int)) ∈ WT := wt_tab 393 (by decide +kernel) (by decide +kernel)
theorem wt_394 : (Jvm.Cond.methodLink "CollectionsEngine" (129 : Nat) ({ cls := "CollectionsEngine", name := "findBill", desc := "(I)LCollectionsEngine$Bill;" } : Jvm.MethodName)) ∈ WT := wt_tab 394 (by decide +kernel) (by decide +kernel)
theorem wt_396 : (Jvm.Cond.instanceMethod ({ cls := "CollectionsEngine", name := "findBill", desc := "(I)LCollectionsEngine$Bill;" } : Jvm.MethodName)) ∈ WT := wt_tab 396 (by decide +kernel) (by decide +kernel)
theorem wt_397 : (Jvm.Cond.code ({ cls := "CollectionsEngine", name := "findBill", desc := "(I)LCollectionsEngine$Bill;" } : Jvm.MethodName) prog_1_method_33_code (3 : Nat) (Option.some (Jvm.ClassFile.FieldType.object "CollectionsEngine$Bill"))) ∈ WT := wt_tab 397 (by decide +kernel) (by decide +kernel)
theorem wt_400 : (Jvm.Cond.methodLink "CollectionsEngine" (141 : Nat) ({ cls := "CollectionsEngine", name := "takePayment", desc := "(LCollectionsEngine$Bill;I)V" } : Jvm.MethodName)) ∈ WT := wt_tab 400 (by decide +kernel) (by decide +kernel)
theorem wt_402 : (Jvm.Cond.instanceMethod ({ cls := "CollectionsEngine", name := "takePayment", desc := "(LCollectionsEngine$Bill;I)V" } : Jvm.MethodName)) ∈ WT := wt_tab 402 (by decide +kernel) (by decide +kernel)
theorem wt_403 : (Jvm.Cond.code ({ cls := "CollectionsEngine", name := "takePayment", desc := "(LCollectionsEngine$Bill;I)V" } : Jvm.MethodName) prog_1_method_35_code (3 : Nat) (Option.none : Option Jvm.ClassFile.FieldType)) ∈ WT := wt_tab 403 (by decide +kernel) (by decide +kernel)
theorem wt_404 : (Jvm.Cond.methodLink "CollectionsEngine" (145 : Nat) ({ cls := "CollectionsEngine", name := "fail", desc := "(LCollectionsEngine$Bill;I)V" } : Jvm.MethodName)) ∈ WT := wt_tab 404 (by decide +kernel) (by decide +kernel)
theorem wt_406 : (Jvm.Cond.instanceMethod ({ cls := "CollectionsEngine", name := "fail", desc := "(LCollectionsEngine$Bill;I)V" } : Jvm.MethodName)) ∈ WT := wt_tab 406 (by decide +kernel) (by decide +kernel)
theorem wt_407 : (Jvm.Cond.code ({ cls := "CollectionsEngine", name := "fail", desc := "(LCollectionsEngine$Bill;I)V" } : Jvm.MethodName) prog_1_method_36_code (5 : Nat) (Option.none : Option Jvm.ClassFile.FieldType)) ∈ WT := wt_tab 407 (by decide +kernel) (by decide +kernel)
theorem wt_408 : (Jvm.Cond.methodLink "CollectionsEngine" (237 : Nat) ({ cls := "CollectionsEngine$Gaps", name := "daysBehind", desc := "(I)I" } : Jvm.MethodName)) ∈ WT := wt_tab 408 (by decide +kernel) (by decide +kernel)
theorem wt_409 : (Jvm.Cond.instanceMethod ({ cls := "CollectionsEngine$Gaps", name := "daysBehind", desc := "(I)I" } : Jvm.MethodName)) ∈ WT := wt_tab 409 (by decide +kernel) (by decide +kernel)
theorem wt_410 : (Jvm.Cond.selects "CollectionsEngine$Gaps" ({ cls := "CollectionsEngine$Gaps", name := "daysBehind", desc := "(I)I" } : Jvm.MethodName) ({ cls := "CollectionsEngine$Gaps", name := "daysBehind", desc := "(I)I" } : Jvm.MethodName)) ∈ WT := wt_tab 410 (by decide +kernel) (by decide +kernel)
theorem wt_411 : (Jvm.Cond.code ({ cls := "CollectionsEngine$Gaps", name := "daysBehind", desc := "(I)I" } : Jvm.MethodName) prog_5_method_3_code (3 : Nat) (Option.some Jvm.ClassFile.FieldType.int)) ∈ WT := wt_tab 411 (by decide +kernel) (by decide +kernel)
theorem wt_412 : (Jvm.Cond.methodLink "CollectionsEngineLaw" (116 : Nat) ({ cls := "CollectionsEngineLaw", name := "pay", desc := "(LCollectionsEngine;II[J)I" } : Jvm.MethodName)) ∈ WT := wt_tab 412 (by decide +kernel) (by decide +kernel)
theorem wt_413 : (Jvm.Cond.static ({ cls := "CollectionsEngineLaw", name := "pay", desc := "(LCollectionsEngine;II[J)I" } : Jvm.MethodName)) ∈ WT := wt_tab 413 (by decide +kernel) (by decide +kernel)
theorem wt_414 : (Jvm.Cond.codeWith ({ cls := "CollectionsEngineLaw", name := "pay", desc := "(LCollectionsEngine;II[J)I" } : Jvm.MethodName) method_10_code (5 : Nat) (Option.some Jvm.ClassFile.FieldType.int) [((0 : Nat), (10 : Nat), (13 : Nat), (13 : Nat)), ((0 : Nat), (10 : Nat), (17 : Nat), (21 : Nat)), ((0 : Nat), (10 : Nat), (21 : Nat), (15 : Nat))]) ∈ WT := wt_tab 414 (by decide +kernel) (by decide +kernel)
theorem wt_415 : (Jvm.Cond.methodLink "CollectionsEngineLaw" (40 : Nat) ({ cls := "CollectionsEngine", name := "pay", desc := "(II)I" } : Jvm.MethodName)) ∈ WT := wt_tab 415 (by decide +kernel) (by decide +kernel)
theorem wt_416 : (Jvm.Cond.instanceMethod ({ cls := "CollectionsEngine", name := "pay", desc := "(II)I" } : Jvm.MethodName)) ∈ WT := wt_tab 416 (by decide +kernel) (by decide +kernel)
theorem wt_417 : (Jvm.Cond.selects "CollectionsEngine" ({ cls := "CollectionsEngine", name := "pay", desc := "(II)I" } : Jvm.MethodName) ({ cls := "CollectionsEngine", name := "pay", desc := "(II)I" } : Jvm.MethodName)) ∈ WT := wt_tab 417 (by decide +kernel) (by decide +kernel)
theorem wt_418 : (Jvm.Cond.code ({ cls := "CollectionsEngine", name := "pay", desc := "(II)I" } : Jvm.MethodName) prog_1_method_9_code (4 : Nat) (Option.some Jvm.ClassFile.FieldType.int)) ∈ WT := wt_tab 418 (by decide +kernel) (by decide +kernel)
theorem wt_420 : (Jvm.Cond.methodLink "CollectionsEngineLaw" (119 : Nat) ({ cls := "CollectionsEngineLaw", name := "promise", desc := "(LCollectionsEngine;II[J)I" } : Jvm.MethodName)) ∈ WT := wt_tab 420 (by decide +kernel) (by decide +kernel)
theorem wt_421 : (Jvm.Cond.static ({ cls := "CollectionsEngineLaw", name := "promise", desc := "(LCollectionsEngine;II[J)I" } : Jvm.MethodName)) ∈ WT := wt_tab 421 (by decide +kernel) (by decide +kernel)
theorem wt_422 : (Jvm.Cond.codeWith ({ cls := "CollectionsEngineLaw", name := "promise", desc := "(LCollectionsEngine;II[J)I" } : Jvm.MethodName) method_11_code (5 : Nat) (Option.some Jvm.ClassFile.FieldType.int) [((0 : Nat), (10 : Nat), (13 : Nat), (13 : Nat)), ((0 : Nat), (10 : Nat), (17 : Nat), (21 : Nat)), ((0 : Nat), (10 : Nat), (21 : Nat), (15 : Nat))]) ∈ WT := wt_tab 422 (by decide +kernel) (by decide +kernel)
theorem wt_423 : (Jvm.Cond.methodLink "CollectionsEngineLaw" (43 : Nat) ({ cls := "CollectionsEngine", name := "promise", desc := "(II)I" } : Jvm.MethodName)) ∈ WT := wt_tab 423 (by decide +kernel) (by decide +kernel)
theorem wt_424 : (Jvm.Cond.instanceMethod ({ cls := "CollectionsEngine", name := "promise", desc := "(II)I" } : Jvm.MethodName)) ∈ WT := wt_tab 424 (by decide +kernel) (by decide +kernel)
theorem wt_425 : (Jvm.Cond.selects "CollectionsEngine" ({ cls := "CollectionsEngine", name := "promise", desc := "(II)I" } : Jvm.MethodName) ({ cls := "CollectionsEngine", name := "promise", desc := "(II)I" } : Jvm.MethodName)) ∈ WT := wt_tab 425 (by decide +kernel) (by decide +kernel)
theorem wt_426 : (Jvm.Cond.code ({ cls := "CollectionsEngine", name := "promise", desc := "(II)I" } : Jvm.MethodName) prog_1_method_10_code (5 : Nat) (Option.some Jvm.ClassFile.FieldType.int)) ∈ WT := wt_tab 426 (by decide +kernel) (by decide +kernel)
theorem wt_428 : (Jvm.Cond.methodLink "CollectionsEngineLaw" (122 : Nat) ({ cls := "CollectionsEngineLaw", name := "pass", desc := "(LCollectionsEngine;I[J)I" } : Jvm.MethodName)) ∈ WT := wt_tab 428 (by decide +kernel) (by decide +kernel)
theorem wt_429 : (Jvm.Cond.static ({ cls := "CollectionsEngineLaw", name := "pass", desc := "(LCollectionsEngine;I[J)I" } : Jvm.MethodName)) ∈ WT := wt_tab 429 (by decide +kernel) (by decide +kernel)
theorem wt_430 : (Jvm.Cond.codeWith ({ cls := "CollectionsEngineLaw", name := "pass", desc := "(LCollectionsEngine;I[J)I" } : Jvm.MethodName) method_12_code (4 : Nat) (Option.some Jvm.ClassFile.FieldType.int) [((0 : Nat), (9 : Nat), (12 : Nat), (21 : Nat))]) ∈ WT := wt_tab 430 (by decide +kernel) (by decide +kernel)
theorem wt_431 : (Jvm.Cond.methodLink "CollectionsEngineLaw" (46 : Nat) ({ cls := "CollectionsEngine", name := "pass", desc := "(I)I" } : Jvm.MethodName)) ∈ WT := wt_tab 431 (by decide +kernel) (by decide +kernel)
theorem wt_432 : (Jvm.Cond.instanceMethod ({ cls := "CollectionsEngine", name := "pass", desc := "(I)I" } : Jvm.MethodName)) ∈ WT := wt_tab 432 (by decide +kernel) (by decide +kernel)
theorem wt_433 : (Jvm.Cond.selects "CollectionsEngine" ({ cls := "CollectionsEngine", name := "pass", desc := "(I)I" } : Jvm.MethodName) ({ cls := "CollectionsEngine", name := "pass", desc := "(I)I" } : Jvm.MethodName)) ∈ WT := wt_tab 433 (by decide +kernel) (by decide +kernel)
theorem wt_434 : (Jvm.Cond.code ({ cls := "CollectionsEngine", name := "pass", desc := "(I)I" } : Jvm.MethodName) prog_1_method_11_code (4 : Nat) (Option.some Jvm.ClassFile.FieldType.int)) ∈ WT := wt_tab 434 (by decide +kernel) (by decide +kernel)
theorem wt_435 : (Jvm.Cond.methodLink "CollectionsEngine" (164 : Nat) ({ cls := "CollectionsEngine", name := "failUnansweredTries", desc := "()V" } : Jvm.MethodName)) ∈ WT := wt_tab 435 (by decide +kernel) (by decide +kernel)
theorem wt_437 : (Jvm.Cond.instanceMethod ({ cls := "CollectionsEngine", name := "failUnansweredTries", desc := "()V" } : Jvm.MethodName)) ∈ WT := wt_tab 437 (by decide +kernel) (by decide +kernel)
theorem wt_438 : (Jvm.Cond.code ({ cls := "CollectionsEngine", name := "failUnansweredTries", desc := "()V" } : Jvm.MethodName) prog_1_method_37_code (3 : Nat) (Option.none : Option Jvm.ClassFile.FieldType)) ∈ WT := wt_tab 438 (by decide +kernel) (by decide +kernel)
theorem wt_439 : (Jvm.Cond.methodLink "CollectionsEngine" (167 : Nat) ({ cls := "CollectionsEngine", name := "lookAtBills", desc := "()I" } : Jvm.MethodName)) ∈ WT := wt_tab 439 (by decide +kernel) (by decide +kernel)
theorem wt_441 : (Jvm.Cond.instanceMethod ({ cls := "CollectionsEngine", name := "lookAtBills", desc := "()I" } : Jvm.MethodName)) ∈ WT := wt_tab 441 (by decide +kernel) (by decide +kernel)
theorem wt_442 : (Jvm.Cond.code ({ cls := "CollectionsEngine", name := "lookAtBills", desc := "()I" } : Jvm.MethodName) prog_1_method_38_code (4 : Nat) (Option.some Jvm.ClassFile.FieldType.int)) ∈ WT := wt_tab 442 (by decide +kernel) (by decide +kernel)
theorem wt_443 : (Jvm.Cond.methodLink "CollectionsEngine" (240 : Nat) ({ cls := "CollectionsEngine", name := "lookAt", desc := "(LCollectionsEngine$Bill;)Z" } : Jvm.MethodName)) ∈ WT := wt_tab 443 (by decide +kernel) (by decide +kernel)
theorem wt_445 : (Jvm.Cond.instanceMethod ({ cls := "CollectionsEngine", name := "lookAt", desc := "(LCollectionsEngine$Bill;)Z" } : Jvm.MethodName)) ∈ WT := wt_tab 445 (by decide +kernel) (by decide +kernel)
theorem wt_446 : (Jvm.Cond.code ({ cls := "CollectionsEngine", name := "lookAt", desc := "(LCollectionsEngine$Bill;)Z" } : Jvm.MethodName) prog_1_method_39_code (2 : Nat) (Option.some Jvm.ClassFile.FieldType.boolean)) ∈ WT := wt_tab 446 (by decide +kernel) (by decide +kernel)
theorem wt_447 : (Jvm.Cond.methodLink "CollectionsEngine" (244 : Nat) ({ cls := "CollectionsEngine", name := "beginTry", desc := "(LCollectionsEngine$Bill;)Z" } : Jvm.MethodName)) ∈ WT := wt_tab 447 (by decide +kernel) (by decide +kernel)
theorem wt_449 : (Jvm.Cond.instanceMethod ({ cls := "CollectionsEngine", name := "beginTry", desc := "(LCollectionsEngine$Bill;)Z" } : Jvm.MethodName)) ∈ WT := wt_tab 449 (by decide +kernel) (by decide +kernel)
theorem wt_450 : (Jvm.Cond.code ({ cls := "CollectionsEngine", name := "beginTry", desc := "(LCollectionsEngine$Bill;)Z" } : Jvm.MethodName) prog_1_method_40_code (2 : Nat) (Option.some Jvm.ClassFile.FieldType.boolean)) ∈ WT := wt_tab 450 (by decide +kernel) (by decide +kernel)
theorem wt_451 : (Jvm.Cond.methodLink "CollectionsEngine" (172 : Nat) ({ cls := "CollectionsEngine$Calendar", name := "allowsCharging", desc := "(I)Z" } : Jvm.MethodName)) ∈ WT := wt_tab 451 (by decide +kernel) (by decide +kernel)
theorem wt_452 : (Jvm.Cond.methodLink "CollectionsEngine" (247 : Nat) ({ cls := "CollectionsEngine", name := "breakPromise", desc := "(LCollectionsEngine$Bill;)V" } : Jvm.MethodName)) ∈ WT := wt_tab 452 (by decide +kernel) (by decide +kernel)
theorem wt_454 : (Jvm.Cond.instanceMethod ({ cls := "CollectionsEngine", name := "breakPromise", desc := "(LCollectionsEngine$Bill;)V" } : Jvm.MethodName)) ∈ WT := wt_tab 454 (by decide +kernel) (by decide +kernel)
theorem wt_455 : (Jvm.Cond.code ({ cls := "CollectionsEngine", name := "breakPromise", desc := "(LCollectionsEngine$Bill;)V" } : Jvm.MethodName) prog_1_method_41_code (2 : Nat) (Option.none : Option Jvm.ClassFile.FieldType)) ∈ WT := wt_tab 455 (by decide +kernel) (by decide +kernel)
theorem wt_456 : (Jvm.Cond.methodLink "CollectionsEngineLaw" (129 : Nat) ({ cls := "CollectionsEngineLaw", name := "isCharging", desc := "(LCollectionsEngine;I[J)I" } : Jvm.MethodName)) ∈ WT := wt_tab 456 (by decide +kernel) (by decide +kernel)
theorem wt_457 : (Jvm.Cond.static ({ cls := "CollectionsEngineLaw", name := "isCharging", desc := "(LCollectionsEngine;I[J)I" } : Jvm.MethodName)) ∈ WT := wt_tab 457 (by decide +kernel) (by decide +kernel)
theorem wt_458 : (Jvm.Cond.codeWith ({ cls := "CollectionsEngineLaw", name := "isCharging", desc := "(LCollectionsEngine;I[J)I" } : Jvm.MethodName) method_13_code (4 : Nat) (Option.some Jvm.ClassFile.FieldType.int) [((0 : Nat), (16 : Nat), (19 : Nat), (21 : Nat))]) ∈ WT := wt_tab 458 (by decide +kernel) (by decide +kernel)
theorem wt_459 : (Jvm.Cond.methodLink "CollectionsEngineLaw" (49 : Nat) ({ cls := "CollectionsEngine", name := "isCharging", desc := "(I)Z" } : Jvm.MethodName)) ∈ WT := wt_tab 459 (by decide +kernel) (by decide +kernel)
theorem wt_460 : (Jvm.Cond.instanceMethod ({ cls := "CollectionsEngine", name := "isCharging", desc := "(I)Z" } : Jvm.MethodName)) ∈ WT := wt_tab 460 (by decide +kernel) (by decide +kernel)
theorem wt_461 : (Jvm.Cond.selects "CollectionsEngine" ({ cls := "CollectionsEngine", name := "isCharging", desc := "(I)Z" } : Jvm.MethodName) ({ cls := "CollectionsEngine", name := "isCharging", desc := "(I)Z" } : Jvm.MethodName)) ∈ WT := wt_tab 461 (by decide +kernel) (by decide +kernel)
theorem wt_462 : (Jvm.Cond.code ({ cls := "CollectionsEngine", name := "isCharging", desc := "(I)Z" } : Jvm.MethodName) prog_1_method_13_code (2 : Nat) (Option.some Jvm.ClassFile.FieldType.boolean)) ∈ WT := wt_tab 462 (by decide +kernel) (by decide +kernel)
theorem wt_463 : (Jvm.Cond.constant "CollectionsEngine" (171 : Nat) (1000000 : Int32)) ∈ WT := wt_tab 463 (by decide +kernel) (by decide +kernel)
theorem wt_464 : (Jvm.Cond.methodLink "CollectionsEngineLaw" (136 : Nat) ({ cls := "CollectionsEngineLaw", name := "stateOf", desc := "(LCollectionsEngine;I[J)I" } : Jvm.MethodName)) ∈ WT := wt_tab 464 (by decide +kernel) (by decide +kernel)
theorem wt_465 : (Jvm.Cond.static ({ cls := "CollectionsEngineLaw", name := "stateOf", desc := "(LCollectionsEngine;I[J)I" } : Jvm.MethodName)) ∈ WT := wt_tab 465 (by decide +kernel) (by decide +kernel)
theorem wt_466 : (Jvm.Cond.codeWith ({ cls := "CollectionsEngineLaw", name := "stateOf", desc := "(LCollectionsEngine;I[J)I" } : Jvm.MethodName) method_14_code (4 : Nat) (Option.some Jvm.ClassFile.FieldType.int) [((0 : Nat), (9 : Nat), (12 : Nat), (13 : Nat))]) ∈ WT := wt_tab 466 (by decide +kernel) (by decide +kernel)
theorem wt_467 : (Jvm.Cond.methodLink "CollectionsEngineLaw" (52 : Nat) ({ cls := "CollectionsEngine", name := "stateOf", desc := "(I)I" } : Jvm.MethodName)) ∈ WT := wt_tab 467 (by decide +kernel) (by decide +kernel)
theorem wt_468 : (Jvm.Cond.instanceMethod ({ cls := "CollectionsEngine", name := "stateOf", desc := "(I)I" } : Jvm.MethodName)) ∈ WT := wt_tab 468 (by decide +kernel) (by decide +kernel)
theorem wt_469 : (Jvm.Cond.selects "CollectionsEngine" ({ cls := "CollectionsEngine", name := "stateOf", desc := "(I)I" } : Jvm.MethodName) ({ cls := "CollectionsEngine", name := "stateOf", desc := "(I)I" } : Jvm.MethodName)) ∈ WT := wt_tab 469 (by decide +kernel) (by decide +kernel)
theorem wt_470 : (Jvm.Cond.code ({ cls := "CollectionsEngine", name := "stateOf", desc := "(I)I" } : Jvm.MethodName) prog_1_method_15_code (2 : Nat) (Option.some Jvm.ClassFile.FieldType.int)) ∈ WT := wt_tab 470 (by decide +kernel) (by decide +kernel)
theorem wt_471 : (Jvm.Cond.methodLink "CollectionsEngineLaw" (139 : Nat) ({ cls := "CollectionsEngineLaw", name := "left", desc := "(LCollectionsEngine;I[J)I" } : Jvm.MethodName)) ∈ WT := wt_tab 471 (by decide +kernel) (by decide +kernel)
theorem wt_472 : (Jvm.Cond.static ({ cls := "CollectionsEngineLaw", name := "left", desc := "(LCollectionsEngine;I[J)I" } : Jvm.MethodName)) ∈ WT := wt_tab 472 (by decide +kernel) (by decide +kernel)
theorem wt_473 : (Jvm.Cond.codeWith ({ cls := "CollectionsEngineLaw", name := "left", desc := "(LCollectionsEngine;I[J)I" } : Jvm.MethodName) method_15_code (4 : Nat) (Option.some Jvm.ClassFile.FieldType.int) [((0 : Nat), (9 : Nat), (12 : Nat), (13 : Nat))]) ∈ WT := wt_tab 473 (by decide +kernel) (by decide +kernel)
theorem wt_474 : (Jvm.Cond.methodLink "CollectionsEngineLaw" (55 : Nat) ({ cls := "CollectionsEngine", name := "left", desc := "(I)I" } : Jvm.MethodName)) ∈ WT := wt_tab 474 (by decide +kernel) (by decide +kernel)
theorem wt_475 : (Jvm.Cond.instanceMethod ({ cls := "CollectionsEngine", name := "left", desc := "(I)I" } : Jvm.MethodName)) ∈ WT := wt_tab 475 (by decide +kernel) (by decide +kernel)
theorem wt_476 : (Jvm.Cond.selects "CollectionsEngine" ({ cls := "CollectionsEngine", name := "left", desc := "(I)I" } : Jvm.MethodName) ({ cls := "CollectionsEngine", name := "left", desc := "(I)I" } : Jvm.MethodName)) ∈ WT := wt_tab 476 (by decide +kernel) (by decide +kernel)
theorem wt_477 : (Jvm.Cond.code ({ cls := "CollectionsEngine", name := "left", desc := "(I)I" } : Jvm.MethodName) prog_1_method_16_code (2 : Nat) (Option.some Jvm.ClassFile.FieldType.int)) ∈ WT := wt_tab 477 (by decide +kernel) (by decide +kernel)
theorem wt_478 : (Jvm.Cond.methodLink "CollectionsEngineLaw" (142 : Nat) ({ cls := "CollectionsEngineLaw", name := "tries", desc := "(LCollectionsEngine;I[J)I" } : Jvm.MethodName)) ∈ WT := wt_tab 478 (by decide +kernel) (by decide +kernel)
theorem wt_479 : (Jvm.Cond.static ({ cls := "CollectionsEngineLaw", name := "tries", desc := "(LCollectionsEngine;I[J)I" } : Jvm.MethodName)) ∈ WT := wt_tab 479 (by decide +kernel) (by decide +kernel)
theorem wt_480 : (Jvm.Cond.codeWith ({ cls := "CollectionsEngineLaw", name := "tries", desc := "(LCollectionsEngine;I[J)I" } : Jvm.MethodName) method_16_code (4 : Nat) (Option.some Jvm.ClassFile.FieldType.int) [((0 : Nat), (9 : Nat), (12 : Nat), (13 : Nat))]) ∈ WT := wt_tab 480 (by decide +kernel) (by decide +kernel)
theorem wt_481 : (Jvm.Cond.methodLink "CollectionsEngineLaw" (58 : Nat) ({ cls := "CollectionsEngine", name := "tries", desc := "(I)I" } : Jvm.MethodName)) ∈ WT := wt_tab 481 (by decide +kernel) (by decide +kernel)
theorem wt_482 : (Jvm.Cond.instanceMethod ({ cls := "CollectionsEngine", name := "tries", desc := "(I)I" } : Jvm.MethodName)) ∈ WT := wt_tab 482 (by decide +kernel) (by decide +kernel)
theorem wt_483 : (Jvm.Cond.selects "CollectionsEngine" ({ cls := "CollectionsEngine", name := "tries", desc := "(I)I" } : Jvm.MethodName) ({ cls := "CollectionsEngine", name := "tries", desc := "(I)I" } : Jvm.MethodName)) ∈ WT := wt_tab 483 (by decide +kernel) (by decide +kernel)
theorem wt_484 : (Jvm.Cond.code ({ cls := "CollectionsEngine", name := "tries", desc := "(I)I" } : Jvm.MethodName) prog_1_method_17_code (2 : Nat) (Option.some Jvm.ClassFile.FieldType.int)) ∈ WT := wt_tab 484 (by decide +kernel) (by decide +kernel)
theorem wt_485 : (Jvm.Cond.methodLink "CollectionsEngineLaw" (145 : Nat) ({ cls := "CollectionsEngineLaw", name := "failures", desc := "(LCollectionsEngine;II[J)I" } : Jvm.MethodName)) ∈ WT := wt_tab 485 (by decide +kernel) (by decide +kernel)
theorem wt_486 : (Jvm.Cond.static ({ cls := "CollectionsEngineLaw", name := "failures", desc := "(LCollectionsEngine;II[J)I" } : Jvm.MethodName)) ∈ WT := wt_tab 486 (by decide +kernel) (by decide +kernel)
theorem wt_487 : (Jvm.Cond.codeWith ({ cls := "CollectionsEngineLaw", name := "failures", desc := "(LCollectionsEngine;II[J)I" } : Jvm.MethodName) method_17_code (5 : Nat) (Option.some Jvm.ClassFile.FieldType.int) [((0 : Nat), (10 : Nat), (13 : Nat), (13 : Nat))]) ∈ WT := wt_tab 487 (by decide +kernel) (by decide +kernel)
theorem wt_488 : (Jvm.Cond.methodLink "CollectionsEngineLaw" (61 : Nat) ({ cls := "CollectionsEngine", name := "failures", desc := "(II)I" } : Jvm.MethodName)) ∈ WT := wt_tab 488 (by decide +kernel) (by decide +kernel)
theorem wt_489 : (Jvm.Cond.instanceMethod ({ cls := "CollectionsEngine", name := "failures", desc := "(II)I" } : Jvm.MethodName)) ∈ WT := wt_tab 489 (by decide +kernel) (by decide +kernel)
theorem wt_490 : (Jvm.Cond.selects "CollectionsEngine" ({ cls := "CollectionsEngine", name := "failures", desc := "(II)I" } : Jvm.MethodName) ({ cls := "CollectionsEngine", name := "failures", desc := "(II)I" } : Jvm.MethodName)) ∈ WT := wt_tab 490 (by decide +kernel) (by decide +kernel)
theorem wt_491 : (Jvm.Cond.code ({ cls := "CollectionsEngine", name := "failures", desc := "(II)I" } : Jvm.MethodName) prog_1_method_18_code (4 : Nat) (Option.some Jvm.ClassFile.FieldType.int)) ∈ WT := wt_tab 491 (by decide +kernel) (by decide +kernel)
theorem wt_492 : (Jvm.Cond.methodLink "CollectionsEngineLaw" (148 : Nat) ({ cls := "CollectionsEngineLaw", name := "waitsFor", desc := "(LCollectionsEngine;I[J)I" } : Jvm.MethodName)) ∈ WT := wt_tab 492 (by decide +kernel) (by decide +kernel)
theorem wt_493 : (Jvm.Cond.static ({ cls := "CollectionsEngineLaw", name := "waitsFor", desc := "(LCollectionsEngine;I[J)I" } : Jvm.MethodName)) ∈ WT := wt_tab 493 (by decide +kernel) (by decide +kernel)
theorem wt_494 : (Jvm.Cond.codeWith ({ cls := "CollectionsEngineLaw", name := "waitsFor", desc := "(LCollectionsEngine;I[J)I" } : Jvm.MethodName) method_18_code (4 : Nat) (Option.some Jvm.ClassFile.FieldType.int) [((0 : Nat), (9 : Nat), (12 : Nat), (13 : Nat))]) ∈ WT := wt_tab 494 (by decide +kernel) (by decide +kernel)
theorem wt_495 : (Jvm.Cond.methodLink "CollectionsEngineLaw" (64 : Nat) ({ cls := "CollectionsEngine", name := "waitsFor", desc := "(I)I" } : Jvm.MethodName)) ∈ WT := wt_tab 495 (by decide +kernel) (by decide +kernel)
theorem wt_496 : (Jvm.Cond.instanceMethod ({ cls := "CollectionsEngine", name := "waitsFor", desc := "(I)I" } : Jvm.MethodName)) ∈ WT := wt_tab 496 (by decide +kernel) (by decide +kernel)
theorem wt_497 : (Jvm.Cond.selects "CollectionsEngine" ({ cls := "CollectionsEngine", name := "waitsFor", desc := "(I)I" } : Jvm.MethodName) ({ cls := "CollectionsEngine", name := "waitsFor", desc := "(I)I" } : Jvm.MethodName)) ∈ WT := wt_tab 497 (by decide +kernel) (by decide +kernel)
theorem wt_498 : (Jvm.Cond.code ({ cls := "CollectionsEngine", name := "waitsFor", desc := "(I)I" } : Jvm.MethodName) prog_1_method_19_code (2 : Nat) (Option.some Jvm.ClassFile.FieldType.int)) ∈ WT := wt_tab 498 (by decide +kernel) (by decide +kernel)
theorem wt_499 : (Jvm.Cond.methodLink "CollectionsEngineLaw" (151 : Nat) ({ cls := "CollectionsEngineLaw", name := "broken", desc := "(LCollectionsEngine;I[J)I" } : Jvm.MethodName)) ∈ WT := wt_tab 499 (by decide +kernel) (by decide +kernel)
theorem wt_500 : (Jvm.Cond.static ({ cls := "CollectionsEngineLaw", name := "broken", desc := "(LCollectionsEngine;I[J)I" } : Jvm.MethodName)) ∈ WT := wt_tab 500 (by decide +kernel) (by decide +kernel)
theorem wt_501 : (Jvm.Cond.codeWith ({ cls := "CollectionsEngineLaw", name := "broken", desc := "(LCollectionsEngine;I[J)I" } : Jvm.MethodName) method_19_code (4 : Nat) (Option.some Jvm.ClassFile.FieldType.int) [((0 : Nat), (9 : Nat), (12 : Nat), (13 : Nat))]) ∈ WT := wt_tab 501 (by decide +kernel) (by decide +kernel)
theorem wt_502 : (Jvm.Cond.methodLink "CollectionsEngineLaw" (67 : Nat) ({ cls := "CollectionsEngine", name := "broken", desc := "(I)I" } : Jvm.MethodName)) ∈ WT := wt_tab 502 (by decide +kernel) (by decide +kernel)
theorem wt_503 : (Jvm.Cond.instanceMethod ({ cls := "CollectionsEngine", name := "broken", desc := "(I)I" } : Jvm.MethodName)) ∈ WT := wt_tab 503 (by decide +kernel) (by decide +kernel)
theorem wt_504 : (Jvm.Cond.selects "CollectionsEngine" ({ cls := "CollectionsEngine", name := "broken", desc := "(I)I" } : Jvm.MethodName) ({ cls := "CollectionsEngine", name := "broken", desc := "(I)I" } : Jvm.MethodName)) ∈ WT := wt_tab 504 (by decide +kernel) (by decide +kernel)
theorem wt_505 : (Jvm.Cond.code ({ cls := "CollectionsEngine", name := "broken", desc := "(I)I" } : Jvm.MethodName) prog_1_method_20_code (2 : Nat) (Option.some Jvm.ClassFile.FieldType.int)) ∈ WT := wt_tab 505 (by decide +kernel) (by decide +kernel)
theorem wt_506 : (Jvm.Cond.methodLink "CollectionsEngineLaw" (154 : Nat) ({ cls := "CollectionsEngineLaw", name := "service", desc := "(LCollectionsEngine;I[J)I" } : Jvm.MethodName)) ∈ WT := wt_tab 506 (by decide +kernel) (by decide +kernel)
theorem wt_507 : (Jvm.Cond.static ({ cls := "CollectionsEngineLaw", name := "service", desc := "(LCollectionsEngine;I[J)I" } : Jvm.MethodName)) ∈ WT := wt_tab 507 (by decide +kernel) (by decide +kernel)
theorem wt_508 : (Jvm.Cond.codeWith ({ cls := "CollectionsEngineLaw", name := "service", desc := "(LCollectionsEngine;I[J)I" } : Jvm.MethodName) method_20_code (4 : Nat) (Option.some Jvm.ClassFile.FieldType.int) [((0 : Nat), (9 : Nat), (12 : Nat), (13 : Nat))]) ∈ WT := wt_tab 508 (by decide +kernel) (by decide +kernel)
theorem wt_509 : (Jvm.Cond.methodLink "CollectionsEngineLaw" (70 : Nat) ({ cls := "CollectionsEngine", name := "service", desc := "(I)I" } : Jvm.MethodName)) ∈ WT := wt_tab 509 (by decide +kernel) (by decide +kernel)
theorem wt_510 : (Jvm.Cond.instanceMethod ({ cls := "CollectionsEngine", name := "service", desc := "(I)I" } : Jvm.MethodName)) ∈ WT := wt_tab 510 (by decide +kernel) (by decide +kernel)
theorem wt_511 : (Jvm.Cond.selects "CollectionsEngine" ({ cls := "CollectionsEngine", name := "service", desc := "(I)I" } : Jvm.MethodName) ({ cls := "CollectionsEngine", name := "service", desc := "(I)I" } : Jvm.MethodName)) ∈ WT := wt_tab 511 (by decide +kernel) (by decide +kernel)
theorem wt_512 : (Jvm.Cond.code ({ cls := "CollectionsEngine", name := "service", desc := "(I)I" } : Jvm.MethodName) prog_1_method_21_code (5 : Nat) (Option.some Jvm.ClassFile.FieldType.int)) ∈ WT := wt_tab 512 (by decide +kernel) (by decide +kernel)
theorem wt_513 : (Jvm.Cond.methodLink "CollectionsEngine" (187 : Nat) ({ cls := "CollectionsEngine", name := "serviceWith", desc := "(LCollectionsEngine$Bill;)I" } : Jvm.MethodName)) ∈ WT := wt_tab 513 (by decide +kernel) (by decide +kernel)
theorem wt_514 : (Jvm.Cond.static ({ cls := "CollectionsEngine", name := "serviceWith", desc := "(LCollectionsEngine$Bill;)I" } : Jvm.MethodName)) ∈ WT := wt_tab 514 (by decide +kernel) (by decide +kernel)
theorem wt_515 : (Jvm.Cond.code ({ cls := "CollectionsEngine", name := "serviceWith", desc := "(LCollectionsEngine$Bill;)I" } : Jvm.MethodName) prog_1_method_42_code (2 : Nat) (Option.some Jvm.ClassFile.FieldType.int)) ∈ WT := wt_tab 515 (by decide +kernel) (by decide +kernel)
theorem wt_516 : (Jvm.Cond.methodLink "CollectionsEngine" (191 : Nat) ({ cls := "java/lang/Math", name := "min", desc := "(II)I" } : Jvm.MethodName)) ∈ WT := wt_tab 516 (by decide +kernel) (by decide +kernel)
theorem wt_517 : (Jvm.Cond.static ({ cls := "java/lang/Math", name := "min", desc := "(II)I" } : Jvm.MethodName)) ∈ WT := wt_tab 517 (by decide +kernel) (by decide +kernel)
theorem wt_518 : (Jvm.Cond.code ({ cls := "java/lang/Math", name := "min", desc := "(II)I" } : Jvm.MethodName) prog_13_method_69_code (2 : Nat) (Option.some Jvm.ClassFile.FieldType.int)) ∈ WT := wt_tab 518 (by decide +kernel) (by decide +kernel)
theorem wt_519 : (Jvm.Cond.methodLink "CollectionsEngineLaw" (173 : Nat) ({ cls := "CollectionsEngineLaw", name := "leftIn", desc := "(LCollectionsEngine;II[J)I" } : Jvm.MethodName)) ∈ WT := wt_tab 519 (by decide +kernel) (by decide +kernel)
theorem wt_520 : (Jvm.Cond.static ({ cls := "CollectionsEngineLaw", name := "leftIn", desc := "(LCollectionsEngine;II[J)I" } : Jvm.MethodName)) ∈ WT := wt_tab 520 (by decide +kernel) (by decide +kernel)
theorem wt_521 : (Jvm.Cond.codeWith ({ cls := "CollectionsEngineLaw", name := "leftIn", desc := "(LCollectionsEngine;II[J)I" } : Jvm.MethodName) method_21_code (5 : Nat) (Option.some Jvm.ClassFile.FieldType.int) [((0 : Nat), (10 : Nat), (13 : Nat), (13 : Nat)), ((0 : Nat), (10 : Nat), (17 : Nat), (21 : Nat))]) ∈ WT := wt_tab 521 (by decide +kernel) (by decide +kernel)
theorem wt_522 : (Jvm.Cond.methodLink "CollectionsEngineLaw" (73 : Nat) ({ cls := "CollectionsEngine", name := "leftIn", desc := "(II)I" } : Jvm.MethodName)) ∈ WT := wt_tab 522 (by decide +kernel) (by decide +kernel)
theorem wt_523 : (Jvm.Cond.instanceMethod ({ cls := "CollectionsEngine", name := "leftIn", desc := "(II)I" } : Jvm.MethodName)) ∈ WT := wt_tab 523 (by decide +kernel) (by decide +kernel)
theorem wt_524 : (Jvm.Cond.selects "CollectionsEngine" ({ cls := "CollectionsEngine", name := "leftIn", desc := "(II)I" } : Jvm.MethodName) ({ cls := "CollectionsEngine", name := "leftIn", desc := "(II)I" } : Jvm.MethodName)) ∈ WT := wt_tab 524 (by decide +kernel) (by decide +kernel)
theorem wt_525 : (Jvm.Cond.code ({ cls := "CollectionsEngine", name := "leftIn", desc := "(II)I" } : Jvm.MethodName) prog_1_method_26_code (6 : Nat) (Option.some Jvm.ClassFile.FieldType.int)) ∈ WT := wt_tab 525 (by decide +kernel) (by decide +kernel)
theorem wt_526 : (Jvm.Cond.methodLink "CollectionsEngineLaw" (180 : Nat) ({ cls := "CollectionsEngineLaw", name := "event", desc := "(LCollectionsEngine;I[J)I" } : Jvm.MethodName)) ∈ WT := wt_tab 526 (by decide +kernel) (by decide +kernel)
theorem wt_527 : (Jvm.Cond.static ({ cls := "CollectionsEngineLaw", name := "event", desc := "(LCollectionsEngine;I[J)I" } : Jvm.MethodName)) ∈ WT := wt_tab 527 (by decide +kernel) (by decide +kernel)
theorem wt_528 : (Jvm.Cond.codeWith ({ cls := "CollectionsEngineLaw", name := "event", desc := "(LCollectionsEngine;I[J)I" } : Jvm.MethodName) method_22_code (4 : Nat) (Option.some Jvm.ClassFile.FieldType.int) [((0 : Nat), (9 : Nat), (12 : Nat), (13 : Nat))]) ∈ WT := wt_tab 528 (by decide +kernel) (by decide +kernel)
theorem wt_529 : (Jvm.Cond.methodLink "CollectionsEngineLaw" (76 : Nat) ({ cls := "CollectionsEngine", name := "event", desc := "(I)I" } : Jvm.MethodName)) ∈ WT := wt_tab 529 (by decide +kernel) (by decide +kernel)
theorem wt_530 : (Jvm.Cond.instanceMethod ({ cls := "CollectionsEngine", name := "event", desc := "(I)I" } : Jvm.MethodName)) ∈ WT := wt_tab 530 (by decide +kernel) (by decide +kernel)
theorem wt_531 : (Jvm.Cond.selects "CollectionsEngine" ({ cls := "CollectionsEngine", name := "event", desc := "(I)I" } : Jvm.MethodName) ({ cls := "CollectionsEngine", name := "event", desc := "(I)I" } : Jvm.MethodName)) ∈ WT := wt_tab 531 (by decide +kernel) (by decide +kernel)
theorem wt_532 : (Jvm.Cond.code ({ cls := "CollectionsEngine", name := "event", desc := "(I)I" } : Jvm.MethodName) prog_1_method_28_code (2 : Nat) (Option.some Jvm.ClassFile.FieldType.int)) ∈ WT := wt_tab 532 (by decide +kernel) (by decide +kernel)
theorem wt_533 : (Jvm.Cond.methodLink "CollectionsEngine" (209 : Nat) ({ cls := "CollectionsEngine$EventLog", name := "told", desc := "()I" } : Jvm.MethodName)) ∈ WT := wt_tab 533 (by decide +kernel) (by decide +kernel)
theorem wt_534 : (Jvm.Cond.instanceMethod ({ cls := "CollectionsEngine$EventLog", name := "told", desc := "()I" } : Jvm.MethodName)) ∈ WT := wt_tab 534 (by decide +kernel) (by decide +kernel)
theorem wt_535 : (Jvm.Cond.selects "CollectionsEngine$EventLog" ({ cls := "CollectionsEngine$EventLog", name := "told", desc := "()I" } : Jvm.MethodName) ({ cls := "CollectionsEngine$EventLog", name := "told", desc := "()I" } : Jvm.MethodName)) ∈ WT := wt_tab 535 (by decide +kernel) (by decide +kernel)
theorem wt_536 : (Jvm.Cond.code ({ cls := "CollectionsEngine$EventLog", name := "told", desc := "()I" } : Jvm.MethodName) prog_4_method_3_code (1 : Nat) (Option.some Jvm.ClassFile.FieldType.int)) ∈ WT := wt_tab 536 (by decide +kernel) (by decide +kernel)
theorem wt_537 : (Jvm.Cond.methodLink "CollectionsEngine$EventLog" (25 : Nat) ({ cls := "java/lang/Math", name := "min", desc := "(II)I" } : Jvm.MethodName)) ∈ WT := wt_tab 537 (by decide +kernel) (by decide +kernel)
theorem wt_539 : (Jvm.Cond.methodLink "CollectionsEngine" (214 : Nat) ({ cls := "CollectionsEngine$EventLog", name := "codeAt", desc := "(I)I" } : Jvm.MethodName)) ∈ WT := wt_tab 539 (by decide +kernel) (by decide +kernel)
theorem wt_540 : (Jvm.Cond.instanceMethod ({ cls := "CollectionsEngine$EventLog", name := "codeAt", desc := "(I)I" } : Jvm.MethodName)) ∈ WT := wt_tab 540 (by decide +kernel) (by decide +kernel)
theorem wt_541 : (Jvm.Cond.selects "CollectionsEngine$EventLog" ({ cls := "CollectionsEngine$EventLog", name := "codeAt", desc := "(I)I" } : Jvm.MethodName) ({ cls := "CollectionsEngine$EventLog", name := "codeAt", desc := "(I)I" } : Jvm.MethodName)) ∈ WT := wt_tab 541 (by decide +kernel) (by decide +kernel)
theorem wt_542 : (Jvm.Cond.code ({ cls := "CollectionsEngine$EventLog", name := "codeAt", desc := "(I)I" } : Jvm.MethodName) prog_4_method_4_code (2 : Nat) (Option.some Jvm.ClassFile.FieldType.int)) ∈ WT := wt_tab 542 (by decide +kernel) (by decide +kernel)
theorem wt_543 : (Jvm.Cond.methodLink "CollectionsEngineLaw" (183 : Nat) ({ cls := "CollectionsEngineLaw", name := "stateAt", desc := "(LCollectionsEngine;II[J)I" } : Jvm.MethodName)) ∈ WT := wt_tab 543 (by decide +kernel) (by decide +kernel)
theorem wt_544 : (Jvm.Cond.static ({ cls := "CollectionsEngineLaw", name := "stateAt", desc := "(LCollectionsEngine;II[J)I" } : Jvm.MethodName)) ∈ WT := wt_tab 544 (by decide +kernel) (by decide +kernel)
theorem wt_545 : (Jvm.Cond.codeWith ({ cls := "CollectionsEngineLaw", name := "stateAt", desc := "(LCollectionsEngine;II[J)I" } : Jvm.MethodName) method_23_code (5 : Nat) (Option.some Jvm.ClassFile.FieldType.int) [((0 : Nat), (10 : Nat), (13 : Nat), (13 : Nat)), ((0 : Nat), (10 : Nat), (17 : Nat), (21 : Nat))]) ∈ WT := wt_tab 545 (by decide +kernel) (by decide +kernel)
theorem wt_546 : (Jvm.Cond.methodLink "CollectionsEngineLaw" (79 : Nat) ({ cls := "CollectionsEngine", name := "stateAt", desc := "(II)I" } : Jvm.MethodName)) ∈ WT := wt_tab 546 (by decide +kernel) (by decide +kernel)
theorem wt_547 : (Jvm.Cond.instanceMethod ({ cls := "CollectionsEngine", name := "stateAt", desc := "(II)I" } : Jvm.MethodName)) ∈ WT := wt_tab 547 (by decide +kernel) (by decide +kernel)
theorem wt_548 : (Jvm.Cond.selects "CollectionsEngine" ({ cls := "CollectionsEngine", name := "stateAt", desc := "(II)I" } : Jvm.MethodName) ({ cls := "CollectionsEngine", name := "stateAt", desc := "(II)I" } : Jvm.MethodName)) ∈ WT := wt_tab 548 (by decide +kernel) (by decide +kernel)
theorem wt_549 : (Jvm.Cond.code ({ cls := "CollectionsEngine", name := "stateAt", desc := "(II)I" } : Jvm.MethodName) prog_1_method_29_code (3 : Nat) (Option.some Jvm.ClassFile.FieldType.int)) ∈ WT := wt_tab 549 (by decide +kernel) (by decide +kernel)
theorem wt_550 : (Jvm.Cond.methodLink "CollectionsEngine" (217 : Nat) ({ cls := "CollectionsEngine$EventLog", name := "lastStateOf", desc := "(II)I" } : Jvm.MethodName)) ∈ WT := wt_tab 550 (by decide +kernel) (by decide +kernel)
theorem wt_551 : (Jvm.Cond.instanceMethod ({ cls := "CollectionsEngine$EventLog", name := "lastStateOf", desc := "(II)I" } : Jvm.MethodName)) ∈ WT := wt_tab 551 (by decide +kernel) (by decide +kernel)
theorem wt_552 : (Jvm.Cond.selects "CollectionsEngine$EventLog" ({ cls := "CollectionsEngine$EventLog", name := "lastStateOf", desc := "(II)I" } : Jvm.MethodName) ({ cls := "CollectionsEngine$EventLog", name := "lastStateOf", desc := "(II)I" } : Jvm.MethodName)) ∈ WT := wt_tab 552 (by decide +kernel) (by decide +kernel)
theorem wt_553 : (Jvm.Cond.code ({ cls := "CollectionsEngine$EventLog", name := "lastStateOf", desc := "(II)I" } : Jvm.MethodName) prog_4_method_5_code (7 : Nat) (Option.some Jvm.ClassFile.FieldType.int)) ∈ WT := wt_tab 553 (by decide +kernel) (by decide +kernel)
theorem wt_554 : (Jvm.Cond.methodLink "CollectionsEngine$EventLog" (28 : Nat) ({ cls := "CollectionsEngine$EventLog", name := "told", desc := "()I" } : Jvm.MethodName)) ∈ WT := wt_tab 554 (by decide +kernel) (by decide +kernel)
theorem wt_555 : (Jvm.Cond.methodLink "CollectionsEngine$EventLog" (32 : Nat) ({ cls := "CollectionsEngine$EventLog", name := "codeAt", desc := "(I)I" } : Jvm.MethodName)) ∈ WT := wt_tab 555 (by decide +kernel) (by decide +kernel)
theorem wt_556 : (Jvm.Cond.classLink "CollectionsEngineLaw" (83 : Nat) "CollectionsEngineModel") ∈ WT := wt_tab 556 (by decide +kernel) (by decide +kernel)
theorem wt_557 : (Jvm.Cond.instantiable "CollectionsEngineModel" (26 : Nat)) ∈ WT := wt_tab 557 (by decide +kernel) (by decide +kernel)
theorem wt_558 : (Jvm.Cond.methodLink "CollectionsEngineLaw" (85 : Nat) ({ cls := "CollectionsEngineModel", name := "<init>", desc := "()V" } : Jvm.MethodName)) ∈ WT := wt_tab 558 (by decide +kernel) (by decide +kernel)
theorem wt_559 : (Jvm.Cond.instanceMethod ({ cls := "CollectionsEngineModel", name := "<init>", desc := "()V" } : Jvm.MethodName)) ∈ WT := wt_tab 559 (by decide +kernel) (by decide +kernel)
theorem wt_560 : (Jvm.Cond.code ({ cls := "CollectionsEngineModel", name := "<init>", desc := "()V" } : Jvm.MethodName) prog_7_method_1_code (2 : Nat) (Option.none : Option Jvm.ClassFile.FieldType)) ∈ WT := wt_tab 560 (by decide +kernel) (by decide +kernel)
theorem wt_561 : (Jvm.Cond.methodLink "CollectionsEngineModel" (1 : Nat) ({ cls := "java/lang/Object", name := "<init>", desc := "()V" } : Jvm.MethodName)) ∈ WT := wt_tab 561 (by decide +kernel) (by decide +kernel)
theorem wt_562 : (Jvm.Cond.methodLink "CollectionsEngineModel" (59 : Nat) ({ cls := "CollectionsEngineModel", name := "addGaps", desc := "(IIII)V" } : Jvm.MethodName)) ∈ WT := wt_tab 562 (by decide +kernel) (by decide +kernel)
theorem wt_564 : (Jvm.Cond.instanceMethod ({ cls := "CollectionsEngineModel", name := "addGaps", desc := "(IIII)V" } : Jvm.MethodName)) ∈ WT := wt_tab 564 (by decide +kernel) (by decide +kernel)
theorem wt_565 : (Jvm.Cond.code ({ cls := "CollectionsEngineModel", name := "addGaps", desc := "(IIII)V" } : Jvm.MethodName) prog_7_method_2_code (5 : Nat) (Option.none : Option Jvm.ClassFile.FieldType)) ∈ WT := wt_tab 565 (by decide +kernel) (by decide +kernel)
theorem wt_566 : (Jvm.Cond.fieldLink "CollectionsEngineModel" (87 : Nat) "CollectionsEngineModel" "now" "I") ∈ WT := wt_tab 566 (by decide +kernel) (by decide +kernel)
theorem wt_567 : (Jvm.Cond.fieldLink "CollectionsEngineModel" (7 : Nat) "CollectionsEngineModel" "isWeekday" "[Z") ∈ WT := wt_tab 567 (by decide +kernel) (by decide +kernel)
theorem wt_568 : (Jvm.Cond.fieldLink "CollectionsEngineModel" (13 : Nat) "CollectionsEngineModel" "holidays" "[I") ∈ WT := wt_tab 568 (by decide +kernel) (by decide +kernel)
theorem wt_569 : (Jvm.Cond.fieldLink "CollectionsEngineModel" (73 : Nat) "CollectionsEngineModel" "holidayMany" "I") ∈ WT := wt_tab 569 (by decide +kernel) (by decide +kernel)
theorem wt_570 : (Jvm.Cond.fieldLink "CollectionsEngineModel" (17 : Nat) "CollectionsEngineModel" "gaps" "[I") ∈ WT := wt_tab 570 (by decide +kernel) (by decide +kernel)
theorem wt_571 : (Jvm.Cond.fieldLink "CollectionsEngineModel" (20 : Nat) "CollectionsEngineModel" "gapMany" "[I") ∈ WT := wt_tab 571 (by decide +kernel) (by decide +kernel)
theorem wt_572 : (Jvm.Cond.fieldLink "CollectionsEngineModel" (63 : Nat) "CollectionsEngineModel" "graceTime" "I") ∈ WT := wt_tab 572 (by decide +kernel) (by decide +kernel)
theorem wt_573 : (Jvm.Cond.fieldLink "CollectionsEngineModel" (67 : Nat) "CollectionsEngineModel" "overdueTime" "I") ∈ WT := wt_tab 573 (by decide +kernel) (by decide +kernel)
theorem wt_574 : (Jvm.Cond.fieldLink "CollectionsEngineModel" (93 : Nat) "CollectionsEngineModel" "billMany" "I") ∈ WT := wt_tab 574 (by decide +kernel) (by decide +kernel)
theorem wt_575 : (Jvm.Cond.fieldLink "CollectionsEngineModel" (23 : Nat) "CollectionsEngineModel" "accounts" "[I") ∈ WT := wt_tab 575 (by decide +kernel) (by decide +kernel)
theorem wt_576 : (Jvm.Cond.fieldLink "CollectionsEngineModel" (26 : Nat) "CollectionsEngineModel" "amounts" "[I") ∈ WT := wt_tab 576 (by decide +kernel) (by decide +kernel)
theorem wt_577 : (Jvm.Cond.fieldLink "CollectionsEngineModel" (29 : Nat) "CollectionsEngineModel" "lefts" "[I") ∈ WT := wt_tab 577 (by decide +kernel) (by decide +kernel)
theorem wt_578 : (Jvm.Cond.fieldLink "CollectionsEngineModel" (32 : Nat) "CollectionsEngineModel" "states" "[I") ∈ WT := wt_tab 578 (by decide +kernel) (by decide +kernel)
theorem wt_579 : (Jvm.Cond.fieldLink "CollectionsEngineModel" (35 : Nat) "CollectionsEngineModel" "waits" "[I") ∈ WT := wt_tab 579 (by decide +kernel) (by decide +kernel)
theorem wt_580 : (Jvm.Cond.fieldLink "CollectionsEngineModel" (38 : Nat) "CollectionsEngineModel" "tryMany" "[I") ∈ WT := wt_tab 580 (by decide +kernel) (by decide +kernel)
theorem wt_581 : (Jvm.Cond.fieldLink "CollectionsEngineModel" (41 : Nat) "CollectionsEngineModel" "failed" "[I") ∈ WT := wt_tab 581 (by decide +kernel) (by decide +kernel)
theorem wt_582 : (Jvm.Cond.fieldLink "CollectionsEngineModel" (44 : Nat) "CollectionsEngineModel" "promises" "[I") ∈ WT := wt_tab 582 (by decide +kernel) (by decide +kernel)
theorem wt_583 : (Jvm.Cond.fieldLink "CollectionsEngineModel" (47 : Nat) "CollectionsEngineModel" "brokenMany" "[I") ∈ WT := wt_tab 583 (by decide +kernel) (by decide +kernel)
theorem wt_584 : (Jvm.Cond.fieldLink "CollectionsEngineModel" (50 : Nat) "CollectionsEngineModel" "keptStates" "[I") ∈ WT := wt_tab 584 (by decide +kernel) (by decide +kernel)
theorem wt_585 : (Jvm.Cond.fieldLink "CollectionsEngineModel" (53 : Nat) "CollectionsEngineModel" "keptDays" "[I") ∈ WT := wt_tab 585 (by decide +kernel) (by decide +kernel)
theorem wt_586 : (Jvm.Cond.fieldLink "CollectionsEngineModel" (104 : Nat) "CollectionsEngineModel" "paidSum" "I") ∈ WT := wt_tab 586 (by decide +kernel) (by decide +kernel)
theorem wt_587 : (Jvm.Cond.fieldLink "CollectionsEngineModel" (119 : Nat) "CollectionsEngineModel" "offSum" "I") ∈ WT := wt_tab 587 (by decide +kernel) (by decide +kernel)
theorem wt_588 : (Jvm.Cond.fieldLink "CollectionsEngineModel" (116 : Nat) "CollectionsEngineModel" "backSum" "I") ∈ WT := wt_tab 588 (by decide +kernel) (by decide +kernel)
theorem wt_589 : (Jvm.Cond.fieldLink "CollectionsEngineModel" (56 : Nat) "CollectionsEngineModel" "told" "[I") ∈ WT := wt_tab 589 (by decide +kernel) (by decide +kernel)
theorem wt_590 : (Jvm.Cond.fieldLink "CollectionsEngineModel" (90 : Nat) "CollectionsEngineModel" "eventMany" "I") ∈ WT := wt_tab 590 (by decide +kernel) (by decide +kernel)
theorem wt_591 : (Jvm.Cond.fieldLink "CollectionsEngineModel" (70 : Nat) "CollectionsEngineModel" "thrown" "I") ∈ WT := wt_tab 591 (by decide +kernel) (by decide +kernel)
theorem wt_592 : (Jvm.Cond.lays "CollectionsEngineModel" "CollectionsEngineModel" "now" "I") ∈ WT := wt_tab 592 (by decide +kernel) (by decide +kernel)
theorem wt_593 : (Jvm.Cond.soleField "CollectionsEngineModel" "now") ∈ WT := wt_tab 593 (by decide +kernel) (by decide +kernel)
theorem wt_594 : (Jvm.Cond.laysFinal "CollectionsEngineModel" "CollectionsEngineModel" "isWeekday" "[Z") ∈ WT := wt_tab 594 (by decide +kernel) (by decide +kernel)
theorem wt_595 : (Jvm.Cond.soleField "CollectionsEngineModel" "isWeekday") ∈ WT := wt_tab 595 (by decide +kernel) (by decide +kernel)
theorem wt_596 : (Jvm.Cond.laysFinal "CollectionsEngineModel" "CollectionsEngineModel" "holidays" "[I") ∈ WT := wt_tab 596 (by decide +kernel) (by decide +kernel)
theorem wt_597 : (Jvm.Cond.soleField "CollectionsEngineModel" "holidays") ∈ WT := wt_tab 597 (by decide +kernel) (by decide +kernel)
theorem wt_598 : (Jvm.Cond.lays "CollectionsEngineModel" "CollectionsEngineModel" "holidayMany" "I") ∈ WT := wt_tab 598 (by decide +kernel) (by decide +kernel)
theorem wt_599 : (Jvm.Cond.soleField "CollectionsEngineModel" "holidayMany") ∈ WT := wt_tab 599 (by decide +kernel) (by decide +kernel)
theorem wt_600 : (Jvm.Cond.laysFinal "CollectionsEngineModel" "CollectionsEngineModel" "gaps" "[I") ∈ WT := wt_tab 600 (by decide +kernel) (by decide +kernel)
theorem wt_601 : (Jvm.Cond.soleField "CollectionsEngineModel" "gaps") ∈ WT := wt_tab 601 (by decide +kernel) (by decide +kernel)
theorem wt_602 : (Jvm.Cond.laysFinal "CollectionsEngineModel" "CollectionsEngineModel" "gapMany" "[I") ∈ WT := wt_tab 602 (by decide +kernel) (by decide +kernel)
theorem wt_603 : (Jvm.Cond.soleField "CollectionsEngineModel" "gapMany") ∈ WT := wt_tab 603 (by decide +kernel) (by decide +kernel)
theorem wt_604 : (Jvm.Cond.lays "CollectionsEngineModel" "CollectionsEngineModel" "graceTime" "I") ∈ WT := wt_tab 604 (by decide +kernel) (by decide +kernel)
theorem wt_605 : (Jvm.Cond.soleField "CollectionsEngineModel" "graceTime") ∈ WT := wt_tab 605 (by decide +kernel) (by decide +kernel)
theorem wt_606 : (Jvm.Cond.lays "CollectionsEngineModel" "CollectionsEngineModel" "overdueTime" "I") ∈ WT := wt_tab 606 (by decide +kernel) (by decide +kernel)
theorem wt_607 : (Jvm.Cond.soleField "CollectionsEngineModel" "overdueTime") ∈ WT := wt_tab 607 (by decide +kernel) (by decide +kernel)
theorem wt_608 : (Jvm.Cond.lays "CollectionsEngineModel" "CollectionsEngineModel" "billMany" "I") ∈ WT := wt_tab 608 (by decide +kernel) (by decide +kernel)
theorem wt_609 : (Jvm.Cond.soleField "CollectionsEngineModel" "billMany") ∈ WT := wt_tab 609 (by decide +kernel) (by decide +kernel)
theorem wt_610 : (Jvm.Cond.laysFinal "CollectionsEngineModel" "CollectionsEngineModel" "accounts" "[I") ∈ WT := wt_tab 610 (by decide +kernel) (by decide +kernel)
theorem wt_611 : (Jvm.Cond.soleField "CollectionsEngineModel" "accounts") ∈ WT := wt_tab 611 (by decide +kernel) (by decide +kernel)
theorem wt_612 : (Jvm.Cond.laysFinal "CollectionsEngineModel" "CollectionsEngineModel" "amounts" "[I") ∈ WT := wt_tab 612 (by decide +kernel) (by decide +kernel)
theorem wt_613 : (Jvm.Cond.soleField "CollectionsEngineModel" "amounts") ∈ WT := wt_tab 613 (by decide +kernel) (by decide +kernel)
theorem wt_614 : (Jvm.Cond.laysFinal "CollectionsEngineModel" "CollectionsEngineModel" "lefts" "[I") ∈ WT := wt_tab 614 (by decide +kernel) (by decide +kernel)
theorem wt_615 : (Jvm.Cond.soleField "CollectionsEngineModel" "lefts") ∈ WT := wt_tab 615 (by decide +kernel) (by decide +kernel)
theorem wt_616 : (Jvm.Cond.laysFinal "CollectionsEngineModel" "CollectionsEngineModel" "states" "[I") ∈ WT := wt_tab 616 (by decide +kernel) (by decide +kernel)
theorem wt_617 : (Jvm.Cond.soleField "CollectionsEngineModel" "states") ∈ WT := wt_tab 617 (by decide +kernel) (by decide +kernel)
theorem wt_618 : (Jvm.Cond.laysFinal "CollectionsEngineModel" "CollectionsEngineModel" "waits" "[I") ∈ WT := wt_tab 618 (by decide +kernel) (by decide +kernel)
theorem wt_619 : (Jvm.Cond.soleField "CollectionsEngineModel" "waits") ∈ WT := wt_tab 619 (by decide +kernel) (by decide +kernel)
theorem wt_620 : (Jvm.Cond.laysFinal "CollectionsEngineModel" "CollectionsEngineModel" "tryMany" "[I") ∈ WT := wt_tab 620 (by decide +kernel) (by decide +kernel)
theorem wt_621 : (Jvm.Cond.soleField "CollectionsEngineModel" "tryMany") ∈ WT := wt_tab 621 (by decide +kernel) (by decide +kernel)
theorem wt_622 : (Jvm.Cond.laysFinal "CollectionsEngineModel" "CollectionsEngineModel" "failed" "[I") ∈ WT := wt_tab 622 (by decide +kernel) (by decide +kernel)
theorem wt_623 : (Jvm.Cond.soleField "CollectionsEngineModel" "failed") ∈ WT := wt_tab 623 (by decide +kernel) (by decide +kernel)
theorem wt_624 : (Jvm.Cond.laysFinal "CollectionsEngineModel" "CollectionsEngineModel" "promises" "[I") ∈ WT := wt_tab 624 (by decide +kernel) (by decide +kernel)
theorem wt_625 : (Jvm.Cond.soleField "CollectionsEngineModel" "promises") ∈ WT := wt_tab 625 (by decide +kernel) (by decide +kernel)
theorem wt_626 : (Jvm.Cond.laysFinal "CollectionsEngineModel" "CollectionsEngineModel" "brokenMany" "[I") ∈ WT := wt_tab 626 (by decide +kernel) (by decide +kernel)
theorem wt_627 : (Jvm.Cond.soleField "CollectionsEngineModel" "brokenMany") ∈ WT := wt_tab 627 (by decide +kernel) (by decide +kernel)
theorem wt_628 : (Jvm.Cond.laysFinal "CollectionsEngineModel" "CollectionsEngineModel" "keptStates" "[I") ∈ WT := wt_tab 628 (by decide +kernel) (by decide +kernel)
theorem wt_629 : (Jvm.Cond.soleField "CollectionsEngineModel" "keptStates") ∈ WT := wt_tab 629 (by decide +kernel) (by decide +kernel)
theorem wt_630 : (Jvm.Cond.laysFinal "CollectionsEngineModel" "CollectionsEngineModel" "keptDays" "[I") ∈ WT := wt_tab 630 (by decide +kernel) (by decide +kernel)
theorem wt_631 : (Jvm.Cond.soleField "CollectionsEngineModel" "keptDays") ∈ WT := wt_tab 631 (by decide +kernel) (by decide +kernel)
theorem wt_632 : (Jvm.Cond.lays "CollectionsEngineModel" "CollectionsEngineModel" "paidSum" "I") ∈ WT := wt_tab 632 (by decide +kernel) (by decide +kernel)
theorem wt_633 : (Jvm.Cond.soleField "CollectionsEngineModel" "paidSum") ∈ WT := wt_tab 633 (by decide +kernel) (by decide +kernel)
theorem wt_634 : (Jvm.Cond.lays "CollectionsEngineModel" "CollectionsEngineModel" "offSum" "I") ∈ WT := wt_tab 634 (by decide +kernel) (by decide +kernel)
theorem wt_635 : (Jvm.Cond.soleField "CollectionsEngineModel" "offSum") ∈ WT := wt_tab 635 (by decide +kernel) (by decide +kernel)
theorem wt_636 : (Jvm.Cond.lays "CollectionsEngineModel" "CollectionsEngineModel" "backSum" "I") ∈ WT := wt_tab 636 (by decide +kernel) (by decide +kernel)
theorem wt_637 : (Jvm.Cond.soleField "CollectionsEngineModel" "backSum") ∈ WT := wt_tab 637 (by decide +kernel) (by decide +kernel)
theorem wt_638 : (Jvm.Cond.laysFinal "CollectionsEngineModel" "CollectionsEngineModel" "told" "[I") ∈ WT := wt_tab 638 (by decide +kernel) (by decide +kernel)
theorem wt_639 : (Jvm.Cond.soleField "CollectionsEngineModel" "told") ∈ WT := wt_tab 639 (by decide +kernel) (by decide +kernel)
theorem wt_640 : (Jvm.Cond.lays "CollectionsEngineModel" "CollectionsEngineModel" "eventMany" "I") ∈ WT := wt_tab 640 (by decide +kernel) (by decide +kernel)
theorem wt_641 : (Jvm.Cond.soleField "CollectionsEngineModel" "eventMany") ∈ WT := wt_tab 641 (by decide +kernel) (by decide +kernel)
theorem wt_642 : (Jvm.Cond.lays "CollectionsEngineModel" "CollectionsEngineModel" "thrown" "I") ∈ WT := wt_tab 642 (by decide +kernel) (by decide +kernel)
theorem wt_643 : (Jvm.Cond.soleField "CollectionsEngineModel" "thrown") ∈ WT := wt_tab 643 (by decide +kernel) (by decide +kernel)
theorem wt_644 : (Jvm.Cond.superclass "CollectionsEngineModel" "java/lang/Object") ∈ WT := wt_tab 644 (by decide +kernel) (by decide +kernel)
theorem wt_645 : (Jvm.Cond.arrayClass Jvm.ClassFile.FieldType.boolean) ∈ WT := wt_tab 645 (by decide +kernel) (by decide +kernel)
theorem wt_646 : (Jvm.Cond.methodLink "CollectionsEngineLaw" (92 : Nat) ({ cls := "CollectionsEngineModel", name := "thrown", desc := "()I" } : Jvm.MethodName)) ∈ WT := wt_tab 646 (by decide +kernel) (by decide +kernel)
theorem wt_647 : (Jvm.Cond.instanceMethod ({ cls := "CollectionsEngineModel", name := "thrown", desc := "()I" } : Jvm.MethodName)) ∈ WT := wt_tab 647 (by decide +kernel) (by decide +kernel)
theorem wt_648 : (Jvm.Cond.selects "CollectionsEngineModel" ({ cls := "CollectionsEngineModel", name := "thrown", desc := "()I" } : Jvm.MethodName) ({ cls := "CollectionsEngineModel", name := "thrown", desc := "()I" } : Jvm.MethodName)) ∈ WT := wt_tab 648 (by decide +kernel) (by decide +kernel)
theorem wt_649 : (Jvm.Cond.code ({ cls := "CollectionsEngineModel", name := "thrown", desc := "()I" } : Jvm.MethodName) prog_7_method_3_code (1 : Nat) (Option.some Jvm.ClassFile.FieldType.int)) ∈ WT := wt_tab 649 (by decide +kernel) (by decide +kernel)
theorem wt_650 : (Jvm.Cond.methodLink "CollectionsEngineLaw" (91 : Nat) ({ cls := "CollectionsEngineModel", name := "setWeekday", desc := "(IZ)I" } : Jvm.MethodName)) ∈ WT := wt_tab 650 (by decide +kernel) (by decide +kernel)
theorem wt_651 : (Jvm.Cond.instanceMethod ({ cls := "CollectionsEngineModel", name := "setWeekday", desc := "(IZ)I" } : Jvm.MethodName)) ∈ WT := wt_tab 651 (by decide +kernel) (by decide +kernel)
theorem wt_652 : (Jvm.Cond.selects "CollectionsEngineModel" ({ cls := "CollectionsEngineModel", name := "setWeekday", desc := "(IZ)I" } : Jvm.MethodName) ({ cls := "CollectionsEngineModel", name := "setWeekday", desc := "(IZ)I" } : Jvm.MethodName)) ∈ WT := wt_tab 652 (by decide +kernel) (by decide +kernel)
theorem wt_653 : (Jvm.Cond.code ({ cls := "CollectionsEngineModel", name := "setWeekday", desc := "(IZ)I" } : Jvm.MethodName) prog_7_method_8_code (5 : Nat) (Option.some Jvm.ClassFile.FieldType.int)) ∈ WT := wt_tab 653 (by decide +kernel) (by decide +kernel)
theorem wt_654 : (Jvm.Cond.methodLink "CollectionsEngineModel" (83 : Nat) ({ cls := "CollectionsEngineModel", name := "in", desc := "(III)Z" } : Jvm.MethodName)) ∈ WT := wt_tab 654 (by decide +kernel) (by decide +kernel)
theorem wt_655 : (Jvm.Cond.static ({ cls := "CollectionsEngineModel", name := "in", desc := "(III)Z" } : Jvm.MethodName)) ∈ WT := wt_tab 655 (by decide +kernel) (by decide +kernel)
theorem wt_656 : (Jvm.Cond.code ({ cls := "CollectionsEngineModel", name := "in", desc := "(III)Z" } : Jvm.MethodName) prog_7_method_4_code (3 : Nat) (Option.some Jvm.ClassFile.FieldType.boolean)) ∈ WT := wt_tab 656 (by decide +kernel) (by decide +kernel)
theorem wt_657 : (Jvm.Cond.methodLink "CollectionsEngineLaw" (99 : Nat) ({ cls := "CollectionsEngineModel", name := "addHoliday", desc := "(I)Z" } : Jvm.MethodName)) ∈ WT := wt_tab 657 (by decide +kernel) (by decide +kernel)
theorem wt_658 : (Jvm.Cond.instanceMethod ({ cls := "CollectionsEngineModel", name := "addHoliday", desc := "(I)Z" } : Jvm.MethodName)) ∈ WT := wt_tab 658 (by decide +kernel) (by decide +kernel)
theorem wt_659 : (Jvm.Cond.selects "CollectionsEngineModel" ({ cls := "CollectionsEngineModel", name := "addHoliday", desc := "(I)Z" } : Jvm.MethodName) ({ cls := "CollectionsEngineModel", name := "addHoliday", desc := "(I)Z" } : Jvm.MethodName)) ∈ WT := wt_tab 659 (by decide +kernel) (by decide +kernel)
theorem wt_660 : (Jvm.Cond.code ({ cls := "CollectionsEngineModel", name := "addHoliday", desc := "(I)Z" } : Jvm.MethodName) prog_7_method_9_code (2 : Nat) (Option.some Jvm.ClassFile.FieldType.boolean)) ∈ WT := wt_tab 660 (by decide +kernel) (by decide +kernel)
theorem wt_661 : (Jvm.Cond.methodLink "CollectionsEngineModel" (76 : Nat) ({ cls := "CollectionsEngineModel", name := "isHoliday", desc := "(I)Z" } : Jvm.MethodName)) ∈ WT := wt_tab 661 (by decide +kernel) (by decide +kernel)
theorem wt_663 : (Jvm.Cond.instanceMethod ({ cls := "CollectionsEngineModel", name := "isHoliday", desc := "(I)Z" } : Jvm.MethodName)) ∈ WT := wt_tab 663 (by decide +kernel) (by decide +kernel)
theorem wt_664 : (Jvm.Cond.code ({ cls := "CollectionsEngineModel", name := "isHoliday", desc := "(I)Z" } : Jvm.MethodName) prog_7_method_5_code (4 : Nat) (Option.some Jvm.ClassFile.FieldType.boolean)) ∈ WT := wt_tab 664 (by decide +kernel) (by decide +kernel)
theorem wt_665 : (Jvm.Cond.methodLink "CollectionsEngineLaw" (103 : Nat) ({ cls := "CollectionsEngineModel", name := "addGap", desc := "(II)I" } : Jvm.MethodName)) ∈ WT := wt_tab 665 (by decide +kernel) (by decide +kernel)
theorem wt_666 : (Jvm.Cond.instanceMethod ({ cls := "CollectionsEngineModel", name := "addGap", desc := "(II)I" } : Jvm.MethodName)) ∈ WT := wt_tab 666 (by decide +kernel) (by decide +kernel)
theorem wt_667 : (Jvm.Cond.selects "CollectionsEngineModel" ({ cls := "CollectionsEngineModel", name := "addGap", desc := "(II)I" } : Jvm.MethodName) ({ cls := "CollectionsEngineModel", name := "addGap", desc := "(II)I" } : Jvm.MethodName)) ∈ WT := wt_tab 667 (by decide +kernel) (by decide +kernel)
theorem wt_668 : (Jvm.Cond.code ({ cls := "CollectionsEngineModel", name := "addGap", desc := "(II)I" } : Jvm.MethodName) prog_7_method_10_code (3 : Nat) (Option.some Jvm.ClassFile.FieldType.int)) ∈ WT := wt_tab 668 (by decide +kernel) (by decide +kernel)
theorem wt_669 : (Jvm.Cond.methodLink "CollectionsEngineLaw" (106 : Nat) ({ cls := "CollectionsEngineModel", name := "clearGaps", desc := "(I)I" } : Jvm.MethodName)) ∈ WT := wt_tab 669 (by decide +kernel) (by decide +kernel)
theorem wt_670 : (Jvm.Cond.instanceMethod ({ cls := "CollectionsEngineModel", name := "clearGaps", desc := "(I)I" } : Jvm.MethodName)) ∈ WT := wt_tab 670 (by decide +kernel) (by decide +kernel)
theorem wt_671 : (Jvm.Cond.selects "CollectionsEngineModel" ({ cls := "CollectionsEngineModel", name := "clearGaps", desc := "(I)I" } : Jvm.MethodName) ({ cls := "CollectionsEngineModel", name := "clearGaps", desc := "(I)I" } : Jvm.MethodName)) ∈ WT := wt_tab 671 (by decide +kernel) (by decide +kernel)
theorem wt_672 : (Jvm.Cond.code ({ cls := "CollectionsEngineModel", name := "clearGaps", desc := "(I)I" } : Jvm.MethodName) prog_7_method_11_code (3 : Nat) (Option.some Jvm.ClassFile.FieldType.int)) ∈ WT := wt_tab 672 (by decide +kernel) (by decide +kernel)
theorem wt_673 : (Jvm.Cond.methodLink "CollectionsEngineLaw" (109 : Nat) ({ cls := "CollectionsEngineModel", name := "setTimes", desc := "(II)I" } : Jvm.MethodName)) ∈ WT := wt_tab 673 (by decide +kernel) (by decide +kernel)
theorem wt_674 : (Jvm.Cond.instanceMethod ({ cls := "CollectionsEngineModel", name := "setTimes", desc := "(II)I" } : Jvm.MethodName)) ∈ WT := wt_tab 674 (by decide +kernel) (by decide +kernel)
theorem wt_675 : (Jvm.Cond.selects "CollectionsEngineModel" ({ cls := "CollectionsEngineModel", name := "setTimes", desc := "(II)I" } : Jvm.MethodName) ({ cls := "CollectionsEngineModel", name := "setTimes", desc := "(II)I" } : Jvm.MethodName)) ∈ WT := wt_tab 675 (by decide +kernel) (by decide +kernel)
theorem wt_676 : (Jvm.Cond.code ({ cls := "CollectionsEngineModel", name := "setTimes", desc := "(II)I" } : Jvm.MethodName) prog_7_method_12_code (4 : Nat) (Option.some Jvm.ClassFile.FieldType.int)) ∈ WT := wt_tab 676 (by decide +kernel) (by decide +kernel)
theorem wt_677 : (Jvm.Cond.methodLink "CollectionsEngineLaw" (112 : Nat) ({ cls := "CollectionsEngineModel", name := "bill", desc := "(II)I" } : Jvm.MethodName)) ∈ WT := wt_tab 677 (by decide +kernel) (by decide +kernel)
theorem wt_678 : (Jvm.Cond.instanceMethod ({ cls := "CollectionsEngineModel", name := "bill", desc := "(II)I" } : Jvm.MethodName)) ∈ WT := wt_tab 678 (by decide +kernel) (by decide +kernel)
theorem wt_679 : (Jvm.Cond.selects "CollectionsEngineModel" ({ cls := "CollectionsEngineModel", name := "bill", desc := "(II)I" } : Jvm.MethodName) ({ cls := "CollectionsEngineModel", name := "bill", desc := "(II)I" } : Jvm.MethodName)) ∈ WT := wt_tab 679 (by decide +kernel) (by decide +kernel)
theorem wt_680 : (Jvm.Cond.code ({ cls := "CollectionsEngineModel", name := "bill", desc := "(II)I" } : Jvm.MethodName) prog_7_method_14_code (4 : Nat) (Option.some Jvm.ClassFile.FieldType.int)) ∈ WT := wt_tab 680 (by decide +kernel) (by decide +kernel)
theorem wt_681 : (Jvm.Cond.methodLink "CollectionsEngineModel" (96 : Nat) ({ cls := "CollectionsEngineModel", name := "chargingFrom", desc := "(I)I" } : Jvm.MethodName)) ∈ WT := wt_tab 681 (by decide +kernel) (by decide +kernel)
theorem wt_683 : (Jvm.Cond.instanceMethod ({ cls := "CollectionsEngineModel", name := "chargingFrom", desc := "(I)I" } : Jvm.MethodName)) ∈ WT := wt_tab 683 (by decide +kernel) (by decide +kernel)
theorem wt_684 : (Jvm.Cond.code ({ cls := "CollectionsEngineModel", name := "chargingFrom", desc := "(I)I" } : Jvm.MethodName) prog_7_method_7_code (3 : Nat) (Option.some Jvm.ClassFile.FieldType.int)) ∈ WT := wt_tab 684 (by decide +kernel) (by decide +kernel)
theorem wt_685 : (Jvm.Cond.methodLink "CollectionsEngineModel" (80 : Nat) ({ cls := "CollectionsEngineModel", name := "charges", desc := "(I)Z" } : Jvm.MethodName)) ∈ WT := wt_tab 685 (by decide +kernel) (by decide +kernel)
theorem wt_687 : (Jvm.Cond.instanceMethod ({ cls := "CollectionsEngineModel", name := "charges", desc := "(I)Z" } : Jvm.MethodName)) ∈ WT := wt_tab 687 (by decide +kernel) (by decide +kernel)
theorem wt_688 : (Jvm.Cond.code ({ cls := "CollectionsEngineModel", name := "charges", desc := "(I)Z" } : Jvm.MethodName) prog_7_method_6_code (2 : Nat) (Option.some Jvm.ClassFile.FieldType.boolean)) ∈ WT := wt_tab 688 (by decide +kernel) (by decide +kernel)
theorem wt_689 : (Jvm.Cond.methodLink "CollectionsEngineModel" (100 : Nat) ({ cls := "CollectionsEngineModel", name := "enter", desc := "(II)V" } : Jvm.MethodName)) ∈ WT := wt_tab 689 (by decide +kernel) (by decide +kernel)
theorem wt_691 : (Jvm.Cond.instanceMethod ({ cls := "CollectionsEngineModel", name := "enter", desc := "(II)V" } : Jvm.MethodName)) ∈ WT := wt_tab 691 (by decide +kernel) (by decide +kernel)
theorem wt_692 : (Jvm.Cond.code ({ cls := "CollectionsEngineModel", name := "enter", desc := "(II)V" } : Jvm.MethodName) prog_7_method_13_code (3 : Nat) (Option.none : Option Jvm.ClassFile.FieldType)) ∈ WT := wt_tab 692 (by decide +kernel) (by decide +kernel)
theorem wt_693 : (Jvm.Cond.methodLink "CollectionsEngineLaw" (115 : Nat) ({ cls := "CollectionsEngineModel", name := "outcome", desc := "(II)I" } : Jvm.MethodName)) ∈ WT := wt_tab 693 (by decide +kernel) (by decide +kernel)
theorem wt_694 : (Jvm.Cond.instanceMethod ({ cls := "CollectionsEngineModel", name := "outcome", desc := "(II)I" } : Jvm.MethodName)) ∈ WT := wt_tab 694 (by decide +kernel) (by decide +kernel)
theorem wt_695 : (Jvm.Cond.selects "CollectionsEngineModel" ({ cls := "CollectionsEngineModel", name := "outcome", desc := "(II)I" } : Jvm.MethodName) ({ cls := "CollectionsEngineModel", name := "outcome", desc := "(II)I" } : Jvm.MethodName)) ∈ WT := wt_tab 695 (by decide +kernel) (by decide +kernel)
theorem wt_696 : (Jvm.Cond.code ({ cls := "CollectionsEngineModel", name := "outcome", desc := "(II)I" } : Jvm.MethodName) prog_7_method_18_code (3 : Nat) (Option.some Jvm.ClassFile.FieldType.int)) ∈ WT := wt_tab 696 (by decide +kernel) (by decide +kernel)
theorem wt_697 : (Jvm.Cond.methodLink "CollectionsEngineModel" (107 : Nat) ({ cls := "CollectionsEngineModel", name := "isBill", desc := "(I)Z" } : Jvm.MethodName)) ∈ WT := wt_tab 697 (by decide +kernel) (by decide +kernel)
theorem wt_699 : (Jvm.Cond.instanceMethod ({ cls := "CollectionsEngineModel", name := "isBill", desc := "(I)Z" } : Jvm.MethodName)) ∈ WT := wt_tab 699 (by decide +kernel) (by decide +kernel)
theorem wt_700 : (Jvm.Cond.code ({ cls := "CollectionsEngineModel", name := "isBill", desc := "(I)Z" } : Jvm.MethodName) prog_7_method_17_code (2 : Nat) (Option.some Jvm.ClassFile.FieldType.boolean)) ∈ WT := wt_tab 700 (by decide +kernel) (by decide +kernel)
theorem wt_701 : (Jvm.Cond.methodLink "CollectionsEngineModel" (110 : Nat) ({ cls := "CollectionsEngineModel", name := "receive", desc := "(II)V" } : Jvm.MethodName)) ∈ WT := wt_tab 701 (by decide +kernel) (by decide +kernel)
theorem wt_703 : (Jvm.Cond.instanceMethod ({ cls := "CollectionsEngineModel", name := "receive", desc := "(II)V" } : Jvm.MethodName)) ∈ WT := wt_tab 703 (by decide +kernel) (by decide +kernel)
theorem wt_704 : (Jvm.Cond.code ({ cls := "CollectionsEngineModel", name := "receive", desc := "(II)V" } : Jvm.MethodName) prog_7_method_16_code (3 : Nat) (Option.none : Option Jvm.ClassFile.FieldType)) ∈ WT := wt_tab 704 (by decide +kernel) (by decide +kernel)
theorem wt_705 : (Jvm.Cond.methodLink "CollectionsEngineModel" (113 : Nat) ({ cls := "CollectionsEngineModel", name := "fail", desc := "(II)V" } : Jvm.MethodName)) ∈ WT := wt_tab 705 (by decide +kernel) (by decide +kernel)
theorem wt_707 : (Jvm.Cond.instanceMethod ({ cls := "CollectionsEngineModel", name := "fail", desc := "(II)V" } : Jvm.MethodName)) ∈ WT := wt_tab 707 (by decide +kernel) (by decide +kernel)
theorem wt_708 : (Jvm.Cond.code ({ cls := "CollectionsEngineModel", name := "fail", desc := "(II)V" } : Jvm.MethodName) prog_7_method_15_code (4 : Nat) (Option.none : Option Jvm.ClassFile.FieldType)) ∈ WT := wt_tab 708 (by decide +kernel) (by decide +kernel)
theorem wt_709 : (Jvm.Cond.methodLink "CollectionsEngineLaw" (118 : Nat) ({ cls := "CollectionsEngineModel", name := "pay", desc := "(II)I" } : Jvm.MethodName)) ∈ WT := wt_tab 709 (by decide +kernel) (by decide +kernel)
theorem wt_710 : (Jvm.Cond.instanceMethod ({ cls := "CollectionsEngineModel", name := "pay", desc := "(II)I" } : Jvm.MethodName)) ∈ WT := wt_tab 710 (by decide +kernel) (by decide +kernel)
theorem wt_711 : (Jvm.Cond.selects "CollectionsEngineModel" ({ cls := "CollectionsEngineModel", name := "pay", desc := "(II)I" } : Jvm.MethodName) ({ cls := "CollectionsEngineModel", name := "pay", desc := "(II)I" } : Jvm.MethodName)) ∈ WT := wt_tab 711 (by decide +kernel) (by decide +kernel)
theorem wt_712 : (Jvm.Cond.code ({ cls := "CollectionsEngineModel", name := "pay", desc := "(II)I" } : Jvm.MethodName) prog_7_method_19_code (3 : Nat) (Option.some Jvm.ClassFile.FieldType.int)) ∈ WT := wt_tab 712 (by decide +kernel) (by decide +kernel)
theorem wt_713 : (Jvm.Cond.methodLink "CollectionsEngineLaw" (121 : Nat) ({ cls := "CollectionsEngineModel", name := "promise", desc := "(II)I" } : Jvm.MethodName)) ∈ WT := wt_tab 713 (by decide +kernel) (by decide +kernel)
theorem wt_714 : (Jvm.Cond.instanceMethod ({ cls := "CollectionsEngineModel", name := "promise", desc := "(II)I" } : Jvm.MethodName)) ∈ WT := wt_tab 714 (by decide +kernel) (by decide +kernel)
theorem wt_715 : (Jvm.Cond.selects "CollectionsEngineModel" ({ cls := "CollectionsEngineModel", name := "promise", desc := "(II)I" } : Jvm.MethodName) ({ cls := "CollectionsEngineModel", name := "promise", desc := "(II)I" } : Jvm.MethodName)) ∈ WT := wt_tab 715 (by decide +kernel) (by decide +kernel)
theorem wt_716 : (Jvm.Cond.code ({ cls := "CollectionsEngineModel", name := "promise", desc := "(II)I" } : Jvm.MethodName) prog_7_method_20_code (4 : Nat) (Option.some Jvm.ClassFile.FieldType.int)) ∈ WT := wt_tab 716 (by decide +kernel) (by decide +kernel)
theorem wt_717 : (Jvm.Cond.methodLink "CollectionsEngineLaw" (124 : Nat) ({ cls := "CollectionsEngineModel", name := "pass", desc := "(I)I" } : Jvm.MethodName)) ∈ WT := wt_tab 717 (by decide +kernel) (by decide +kernel)
theorem wt_718 : (Jvm.Cond.instanceMethod ({ cls := "CollectionsEngineModel", name := "pass", desc := "(I)I" } : Jvm.MethodName)) ∈ WT := wt_tab 718 (by decide +kernel) (by decide +kernel)
theorem wt_719 : (Jvm.Cond.selects "CollectionsEngineModel" ({ cls := "CollectionsEngineModel", name := "pass", desc := "(I)I" } : Jvm.MethodName) ({ cls := "CollectionsEngineModel", name := "pass", desc := "(I)I" } : Jvm.MethodName)) ∈ WT := wt_tab 719 (by decide +kernel) (by decide +kernel)
theorem wt_720 : (Jvm.Cond.code ({ cls := "CollectionsEngineModel", name := "pass", desc := "(I)I" } : Jvm.MethodName) prog_7_method_24_code (4 : Nat) (Option.some Jvm.ClassFile.FieldType.int)) ∈ WT := wt_tab 720 (by decide +kernel) (by decide +kernel)
theorem wt_721 : (Jvm.Cond.methodLink "CollectionsEngineModel" (129 : Nat) ({ cls := "CollectionsEngineModel", name := "passDay", desc := "()I" } : Jvm.MethodName)) ∈ WT := wt_tab 721 (by decide +kernel) (by decide +kernel)
theorem wt_723 : (Jvm.Cond.instanceMethod ({ cls := "CollectionsEngineModel", name := "passDay", desc := "()I" } : Jvm.MethodName)) ∈ WT := wt_tab 723 (by decide +kernel) (by decide +kernel)
theorem wt_724 : (Jvm.Cond.code ({ cls := "CollectionsEngineModel", name := "passDay", desc := "()I" } : Jvm.MethodName) prog_7_method_23_code (3 : Nat) (Option.some Jvm.ClassFile.FieldType.int)) ∈ WT := wt_tab 724 (by decide +kernel) (by decide +kernel)
theorem wt_725 : (Jvm.Cond.methodLink "CollectionsEngineModel" (126 : Nat) ({ cls := "CollectionsEngineModel", name := "look", desc := "(I)Z" } : Jvm.MethodName)) ∈ WT := wt_tab 725 (by decide +kernel) (by decide +kernel)
theorem wt_727 : (Jvm.Cond.instanceMethod ({ cls := "CollectionsEngineModel", name := "look", desc := "(I)Z" } : Jvm.MethodName)) ∈ WT := wt_tab 727 (by decide +kernel) (by decide +kernel)
theorem wt_728 : (Jvm.Cond.code ({ cls := "CollectionsEngineModel", name := "look", desc := "(I)Z" } : Jvm.MethodName) prog_7_method_22_code (3 : Nat) (Option.some Jvm.ClassFile.FieldType.boolean)) ∈ WT := wt_tab 728 (by decide +kernel) (by decide +kernel)
theorem wt_729 : (Jvm.Cond.methodLink "CollectionsEngineModel" (122 : Nat) ({ cls := "CollectionsEngineModel", name := "breakPromise", desc := "(I)V" } : Jvm.MethodName)) ∈ WT := wt_tab 729 (by decide +kernel) (by decide +kernel)
theorem wt_731 : (Jvm.Cond.instanceMethod ({ cls := "CollectionsEngineModel", name := "breakPromise", desc := "(I)V" } : Jvm.MethodName)) ∈ WT := wt_tab 731 (by decide +kernel) (by decide +kernel)
theorem wt_732 : (Jvm.Cond.code ({ cls := "CollectionsEngineModel", name := "breakPromise", desc := "(I)V" } : Jvm.MethodName) prog_7_method_21_code (2 : Nat) (Option.none : Option Jvm.ClassFile.FieldType)) ∈ WT := wt_tab 732 (by decide +kernel) (by decide +kernel)
theorem wt_733 : (Jvm.Cond.methodLink "CollectionsEngineLaw" (128 : Nat) ({ cls := "CollectionsEngineModel", name := "today", desc := "()I" } : Jvm.MethodName)) ∈ WT := wt_tab 733 (by decide +kernel) (by decide +kernel)
theorem wt_734 : (Jvm.Cond.instanceMethod ({ cls := "CollectionsEngineModel", name := "today", desc := "()I" } : Jvm.MethodName)) ∈ WT := wt_tab 734 (by decide +kernel) (by decide +kernel)
theorem wt_735 : (Jvm.Cond.selects "CollectionsEngineModel" ({ cls := "CollectionsEngineModel", name := "today", desc := "()I" } : Jvm.MethodName) ({ cls := "CollectionsEngineModel", name := "today", desc := "()I" } : Jvm.MethodName)) ∈ WT := wt_tab 735 (by decide +kernel) (by decide +kernel)
theorem wt_736 : (Jvm.Cond.code ({ cls := "CollectionsEngineModel", name := "today", desc := "()I" } : Jvm.MethodName) prog_7_method_25_code (1 : Nat) (Option.some Jvm.ClassFile.FieldType.int)) ∈ WT := wt_tab 736 (by decide +kernel) (by decide +kernel)
theorem wt_737 : (Jvm.Cond.methodLink "CollectionsEngineLaw" (131 : Nat) ({ cls := "CollectionsEngineModel", name := "isCharging", desc := "(I)Z" } : Jvm.MethodName)) ∈ WT := wt_tab 737 (by decide +kernel) (by decide +kernel)
theorem wt_738 : (Jvm.Cond.instanceMethod ({ cls := "CollectionsEngineModel", name := "isCharging", desc := "(I)Z" } : Jvm.MethodName)) ∈ WT := wt_tab 738 (by decide +kernel) (by decide +kernel)
theorem wt_739 : (Jvm.Cond.selects "CollectionsEngineModel" ({ cls := "CollectionsEngineModel", name := "isCharging", desc := "(I)Z" } : Jvm.MethodName) ({ cls := "CollectionsEngineModel", name := "isCharging", desc := "(I)Z" } : Jvm.MethodName)) ∈ WT := wt_tab 739 (by decide +kernel) (by decide +kernel)
theorem wt_740 : (Jvm.Cond.code ({ cls := "CollectionsEngineModel", name := "isCharging", desc := "(I)Z" } : Jvm.MethodName) prog_7_method_26_code (2 : Nat) (Option.some Jvm.ClassFile.FieldType.boolean)) ∈ WT := wt_tab 740 (by decide +kernel) (by decide +kernel)
theorem wt_741 : (Jvm.Cond.constant "CollectionsEngineModel" (133 : Nat) (1000000 : Int32)) ∈ WT := wt_tab 741 (by decide +kernel) (by decide +kernel)
theorem wt_742 : (Jvm.Cond.methodLink "CollectionsEngineLaw" (135 : Nat) ({ cls := "CollectionsEngineModel", name := "bills", desc := "()I" } : Jvm.MethodName)) ∈ WT := wt_tab 742 (by decide +kernel) (by decide +kernel)
theorem wt_743 : (Jvm.Cond.instanceMethod ({ cls := "CollectionsEngineModel", name := "bills", desc := "()I" } : Jvm.MethodName)) ∈ WT := wt_tab 743 (by decide +kernel) (by decide +kernel)
theorem wt_744 : (Jvm.Cond.selects "CollectionsEngineModel" ({ cls := "CollectionsEngineModel", name := "bills", desc := "()I" } : Jvm.MethodName) ({ cls := "CollectionsEngineModel", name := "bills", desc := "()I" } : Jvm.MethodName)) ∈ WT := wt_tab 744 (by decide +kernel) (by decide +kernel)
theorem wt_745 : (Jvm.Cond.code ({ cls := "CollectionsEngineModel", name := "bills", desc := "()I" } : Jvm.MethodName) prog_7_method_27_code (1 : Nat) (Option.some Jvm.ClassFile.FieldType.int)) ∈ WT := wt_tab 745 (by decide +kernel) (by decide +kernel)
theorem wt_746 : (Jvm.Cond.methodLink "CollectionsEngineLaw" (138 : Nat) ({ cls := "CollectionsEngineModel", name := "stateOf", desc := "(I)I" } : Jvm.MethodName)) ∈ WT := wt_tab 746 (by decide +kernel) (by decide +kernel)
theorem wt_747 : (Jvm.Cond.instanceMethod ({ cls := "CollectionsEngineModel", name := "stateOf", desc := "(I)I" } : Jvm.MethodName)) ∈ WT := wt_tab 747 (by decide +kernel) (by decide +kernel)
theorem wt_748 : (Jvm.Cond.selects "CollectionsEngineModel" ({ cls := "CollectionsEngineModel", name := "stateOf", desc := "(I)I" } : Jvm.MethodName) ({ cls := "CollectionsEngineModel", name := "stateOf", desc := "(I)I" } : Jvm.MethodName)) ∈ WT := wt_tab 748 (by decide +kernel) (by decide +kernel)
theorem wt_749 : (Jvm.Cond.code ({ cls := "CollectionsEngineModel", name := "stateOf", desc := "(I)I" } : Jvm.MethodName) prog_7_method_28_code (2 : Nat) (Option.some Jvm.ClassFile.FieldType.int)) ∈ WT := wt_tab 749 (by decide +kernel) (by decide +kernel)
theorem wt_750 : (Jvm.Cond.methodLink "CollectionsEngineLaw" (141 : Nat) ({ cls := "CollectionsEngineModel", name := "left", desc := "(I)I" } : Jvm.MethodName)) ∈ WT := wt_tab 750 (by decide +kernel) (by decide +kernel)
theorem wt_751 : (Jvm.Cond.instanceMethod ({ cls := "CollectionsEngineModel", name := "left", desc := "(I)I" } : Jvm.MethodName)) ∈ WT := wt_tab 751 (by decide +kernel) (by decide +kernel)
theorem wt_752 : (Jvm.Cond.selects "CollectionsEngineModel" ({ cls := "CollectionsEngineModel", name := "left", desc := "(I)I" } : Jvm.MethodName) ({ cls := "CollectionsEngineModel", name := "left", desc := "(I)I" } : Jvm.MethodName)) ∈ WT := wt_tab 752 (by decide +kernel) (by decide +kernel)
theorem wt_753 : (Jvm.Cond.code ({ cls := "CollectionsEngineModel", name := "left", desc := "(I)I" } : Jvm.MethodName) prog_7_method_29_code (2 : Nat) (Option.some Jvm.ClassFile.FieldType.int)) ∈ WT := wt_tab 753 (by decide +kernel) (by decide +kernel)
theorem wt_754 : (Jvm.Cond.methodLink "CollectionsEngineLaw" (144 : Nat) ({ cls := "CollectionsEngineModel", name := "tries", desc := "(I)I" } : Jvm.MethodName)) ∈ WT := wt_tab 754 (by decide +kernel) (by decide +kernel)
theorem wt_755 : (Jvm.Cond.instanceMethod ({ cls := "CollectionsEngineModel", name := "tries", desc := "(I)I" } : Jvm.MethodName)) ∈ WT := wt_tab 755 (by decide +kernel) (by decide +kernel)
theorem wt_756 : (Jvm.Cond.selects "CollectionsEngineModel" ({ cls := "CollectionsEngineModel", name := "tries", desc := "(I)I" } : Jvm.MethodName) ({ cls := "CollectionsEngineModel", name := "tries", desc := "(I)I" } : Jvm.MethodName)) ∈ WT := wt_tab 756 (by decide +kernel) (by decide +kernel)
theorem wt_757 : (Jvm.Cond.code ({ cls := "CollectionsEngineModel", name := "tries", desc := "(I)I" } : Jvm.MethodName) prog_7_method_30_code (2 : Nat) (Option.some Jvm.ClassFile.FieldType.int)) ∈ WT := wt_tab 757 (by decide +kernel) (by decide +kernel)
theorem wt_758 : (Jvm.Cond.methodLink "CollectionsEngineLaw" (147 : Nat) ({ cls := "CollectionsEngineModel", name := "failures", desc := "(II)I" } : Jvm.MethodName)) ∈ WT := wt_tab 758 (by decide +kernel) (by decide +kernel)
theorem wt_759 : (Jvm.Cond.instanceMethod ({ cls := "CollectionsEngineModel", name := "failures", desc := "(II)I" } : Jvm.MethodName)) ∈ WT := wt_tab 759 (by decide +kernel) (by decide +kernel)
theorem wt_760 : (Jvm.Cond.selects "CollectionsEngineModel" ({ cls := "CollectionsEngineModel", name := "failures", desc := "(II)I" } : Jvm.MethodName) ({ cls := "CollectionsEngineModel", name := "failures", desc := "(II)I" } : Jvm.MethodName)) ∈ WT := wt_tab 760 (by decide +kernel) (by decide +kernel)
theorem wt_761 : (Jvm.Cond.code ({ cls := "CollectionsEngineModel", name := "failures", desc := "(II)I" } : Jvm.MethodName) prog_7_method_31_code (3 : Nat) (Option.some Jvm.ClassFile.FieldType.int)) ∈ WT := wt_tab 761 (by decide +kernel) (by decide +kernel)
theorem wt_762 : (Jvm.Cond.methodLink "CollectionsEngineLaw" (150 : Nat) ({ cls := "CollectionsEngineModel", name := "waitsFor", desc := "(I)I" } : Jvm.MethodName)) ∈ WT := wt_tab 762 (by decide +kernel) (by decide +kernel)
theorem wt_763 : (Jvm.Cond.instanceMethod ({ cls := "CollectionsEngineModel", name := "waitsFor", desc := "(I)I" } : Jvm.MethodName)) ∈ WT := wt_tab 763 (by decide +kernel) (by decide +kernel)
theorem wt_764 : (Jvm.Cond.selects "CollectionsEngineModel" ({ cls := "CollectionsEngineModel", name := "waitsFor", desc := "(I)I" } : Jvm.MethodName) ({ cls := "CollectionsEngineModel", name := "waitsFor", desc := "(I)I" } : Jvm.MethodName)) ∈ WT := wt_tab 764 (by decide +kernel) (by decide +kernel)
theorem wt_765 : (Jvm.Cond.code ({ cls := "CollectionsEngineModel", name := "waitsFor", desc := "(I)I" } : Jvm.MethodName) prog_7_method_32_code (2 : Nat) (Option.some Jvm.ClassFile.FieldType.int)) ∈ WT := wt_tab 765 (by decide +kernel) (by decide +kernel)
theorem wt_766 : (Jvm.Cond.methodLink "CollectionsEngineLaw" (153 : Nat) ({ cls := "CollectionsEngineModel", name := "broken", desc := "(I)I" } : Jvm.MethodName)) ∈ WT := wt_tab 766 (by decide +kernel) (by decide +kernel)
theorem wt_767 : (Jvm.Cond.instanceMethod ({ cls := "CollectionsEngineModel", name := "broken", desc := "(I)I" } : Jvm.MethodName)) ∈ WT := wt_tab 767 (by decide +kernel) (by decide +kernel)
theorem wt_768 : (Jvm.Cond.selects "CollectionsEngineModel" ({ cls := "CollectionsEngineModel", name := "broken", desc := "(I)I" } : Jvm.MethodName) ({ cls := "CollectionsEngineModel", name := "broken", desc := "(I)I" } : Jvm.MethodName)) ∈ WT := wt_tab 768 (by decide +kernel) (by decide +kernel)
theorem wt_769 : (Jvm.Cond.code ({ cls := "CollectionsEngineModel", name := "broken", desc := "(I)I" } : Jvm.MethodName) prog_7_method_33_code (2 : Nat) (Option.some Jvm.ClassFile.FieldType.int)) ∈ WT := wt_tab 769 (by decide +kernel) (by decide +kernel)
theorem wt_770 : (Jvm.Cond.methodLink "CollectionsEngineLaw" (156 : Nat) ({ cls := "CollectionsEngineModel", name := "service", desc := "(I)I" } : Jvm.MethodName)) ∈ WT := wt_tab 770 (by decide +kernel) (by decide +kernel)
theorem wt_771 : (Jvm.Cond.instanceMethod ({ cls := "CollectionsEngineModel", name := "service", desc := "(I)I" } : Jvm.MethodName)) ∈ WT := wt_tab 771 (by decide +kernel) (by decide +kernel)
theorem wt_772 : (Jvm.Cond.selects "CollectionsEngineModel" ({ cls := "CollectionsEngineModel", name := "service", desc := "(I)I" } : Jvm.MethodName) ({ cls := "CollectionsEngineModel", name := "service", desc := "(I)I" } : Jvm.MethodName)) ∈ WT := wt_tab 772 (by decide +kernel) (by decide +kernel)
theorem wt_773 : (Jvm.Cond.code ({ cls := "CollectionsEngineModel", name := "service", desc := "(I)I" } : Jvm.MethodName) prog_7_method_34_code (7 : Nat) (Option.some Jvm.ClassFile.FieldType.int)) ∈ WT := wt_tab 773 (by decide +kernel) (by decide +kernel)
theorem wt_774 : (Jvm.Cond.methodLink "CollectionsEngineLaw" (160 : Nat) ({ cls := "CollectionsEngineModel", name := "billed", desc := "()I" } : Jvm.MethodName)) ∈ WT := wt_tab 774 (by decide +kernel) (by decide +kernel)
theorem wt_775 : (Jvm.Cond.instanceMethod ({ cls := "CollectionsEngineModel", name := "billed", desc := "()I" } : Jvm.MethodName)) ∈ WT := wt_tab 775 (by decide +kernel) (by decide +kernel)
theorem wt_776 : (Jvm.Cond.selects "CollectionsEngineModel" ({ cls := "CollectionsEngineModel", name := "billed", desc := "()I" } : Jvm.MethodName) ({ cls := "CollectionsEngineModel", name := "billed", desc := "()I" } : Jvm.MethodName)) ∈ WT := wt_tab 776 (by decide +kernel) (by decide +kernel)
theorem wt_777 : (Jvm.Cond.code ({ cls := "CollectionsEngineModel", name := "billed", desc := "()I" } : Jvm.MethodName) prog_7_method_35_code (3 : Nat) (Option.some Jvm.ClassFile.FieldType.int)) ∈ WT := wt_tab 777 (by decide +kernel) (by decide +kernel)
theorem wt_778 : (Jvm.Cond.methodLink "CollectionsEngineLaw" (164 : Nat) ({ cls := "CollectionsEngineModel", name := "paid", desc := "()I" } : Jvm.MethodName)) ∈ WT := wt_tab 778 (by decide +kernel) (by decide +kernel)
theorem wt_779 : (Jvm.Cond.instanceMethod ({ cls := "CollectionsEngineModel", name := "paid", desc := "()I" } : Jvm.MethodName)) ∈ WT := wt_tab 779 (by decide +kernel) (by decide +kernel)
theorem wt_780 : (Jvm.Cond.selects "CollectionsEngineModel" ({ cls := "CollectionsEngineModel", name := "paid", desc := "()I" } : Jvm.MethodName) ({ cls := "CollectionsEngineModel", name := "paid", desc := "()I" } : Jvm.MethodName)) ∈ WT := wt_tab 780 (by decide +kernel) (by decide +kernel)
theorem wt_781 : (Jvm.Cond.code ({ cls := "CollectionsEngineModel", name := "paid", desc := "()I" } : Jvm.MethodName) prog_7_method_36_code (1 : Nat) (Option.some Jvm.ClassFile.FieldType.int)) ∈ WT := wt_tab 781 (by decide +kernel) (by decide +kernel)
theorem wt_782 : (Jvm.Cond.methodLink "CollectionsEngineLaw" (168 : Nat) ({ cls := "CollectionsEngineModel", name := "writtenOff", desc := "()I" } : Jvm.MethodName)) ∈ WT := wt_tab 782 (by decide +kernel) (by decide +kernel)
theorem wt_783 : (Jvm.Cond.instanceMethod ({ cls := "CollectionsEngineModel", name := "writtenOff", desc := "()I" } : Jvm.MethodName)) ∈ WT := wt_tab 783 (by decide +kernel) (by decide +kernel)
theorem wt_784 : (Jvm.Cond.selects "CollectionsEngineModel" ({ cls := "CollectionsEngineModel", name := "writtenOff", desc := "()I" } : Jvm.MethodName) ({ cls := "CollectionsEngineModel", name := "writtenOff", desc := "()I" } : Jvm.MethodName)) ∈ WT := wt_tab 784 (by decide +kernel) (by decide +kernel)
theorem wt_785 : (Jvm.Cond.code ({ cls := "CollectionsEngineModel", name := "writtenOff", desc := "()I" } : Jvm.MethodName) prog_7_method_37_code (1 : Nat) (Option.some Jvm.ClassFile.FieldType.int)) ∈ WT := wt_tab 785 (by decide +kernel) (by decide +kernel)
theorem wt_786 : (Jvm.Cond.methodLink "CollectionsEngineLaw" (172 : Nat) ({ cls := "CollectionsEngineModel", name := "broughtBack", desc := "()I" } : Jvm.MethodName)) ∈ WT := wt_tab 786 (by decide +kernel) (by decide +kernel)
theorem wt_787 : (Jvm.Cond.instanceMethod ({ cls := "CollectionsEngineModel", name := "broughtBack", desc := "()I" } : Jvm.MethodName)) ∈ WT := wt_tab 787 (by decide +kernel) (by decide +kernel)
theorem wt_788 : (Jvm.Cond.selects "CollectionsEngineModel" ({ cls := "CollectionsEngineModel", name := "broughtBack", desc := "()I" } : Jvm.MethodName) ({ cls := "CollectionsEngineModel", name := "broughtBack", desc := "()I" } : Jvm.MethodName)) ∈ WT := wt_tab 788 (by decide +kernel) (by decide +kernel)
theorem wt_789 : (Jvm.Cond.code ({ cls := "CollectionsEngineModel", name := "broughtBack", desc := "()I" } : Jvm.MethodName) prog_7_method_38_code (1 : Nat) (Option.some Jvm.ClassFile.FieldType.int)) ∈ WT := wt_tab 789 (by decide +kernel) (by decide +kernel)
theorem wt_790 : (Jvm.Cond.methodLink "CollectionsEngineLaw" (175 : Nat) ({ cls := "CollectionsEngineModel", name := "leftIn", desc := "(II)I" } : Jvm.MethodName)) ∈ WT := wt_tab 790 (by decide +kernel) (by decide +kernel)
theorem wt_791 : (Jvm.Cond.instanceMethod ({ cls := "CollectionsEngineModel", name := "leftIn", desc := "(II)I" } : Jvm.MethodName)) ∈ WT := wt_tab 791 (by decide +kernel) (by decide +kernel)
theorem wt_792 : (Jvm.Cond.selects "CollectionsEngineModel" ({ cls := "CollectionsEngineModel", name := "leftIn", desc := "(II)I" } : Jvm.MethodName) ({ cls := "CollectionsEngineModel", name := "leftIn", desc := "(II)I" } : Jvm.MethodName)) ∈ WT := wt_tab 792 (by decide +kernel) (by decide +kernel)
theorem wt_793 : (Jvm.Cond.code ({ cls := "CollectionsEngineModel", name := "leftIn", desc := "(II)I" } : Jvm.MethodName) prog_7_method_39_code (5 : Nat) (Option.some Jvm.ClassFile.FieldType.int)) ∈ WT := wt_tab 793 (by decide +kernel) (by decide +kernel)
theorem wt_794 : (Jvm.Cond.methodLink "CollectionsEngineLaw" (179 : Nat) ({ cls := "CollectionsEngineModel", name := "events", desc := "()I" } : Jvm.MethodName)) ∈ WT := wt_tab 794 (by decide +kernel) (by decide +kernel)
theorem wt_795 : (Jvm.Cond.instanceMethod ({ cls := "CollectionsEngineModel", name := "events", desc := "()I" } : Jvm.MethodName)) ∈ WT := wt_tab 795 (by decide +kernel) (by decide +kernel)
theorem wt_796 : (Jvm.Cond.selects "CollectionsEngineModel" ({ cls := "CollectionsEngineModel", name := "events", desc := "()I" } : Jvm.MethodName) ({ cls := "CollectionsEngineModel", name := "events", desc := "()I" } : Jvm.MethodName)) ∈ WT := wt_tab 796 (by decide +kernel) (by decide +kernel)
theorem wt_797 : (Jvm.Cond.code ({ cls := "CollectionsEngineModel", name := "events", desc := "()I" } : Jvm.MethodName) prog_7_method_40_code (1 : Nat) (Option.some Jvm.ClassFile.FieldType.int)) ∈ WT := wt_tab 797 (by decide +kernel) (by decide +kernel)
theorem wt_798 : (Jvm.Cond.methodLink "CollectionsEngineLaw" (182 : Nat) ({ cls := "CollectionsEngineModel", name := "event", desc := "(I)I" } : Jvm.MethodName)) ∈ WT := wt_tab 798 (by decide +kernel) (by decide +kernel)
theorem wt_799 : (Jvm.Cond.instanceMethod ({ cls := "CollectionsEngineModel", name := "event", desc := "(I)I" } : Jvm.MethodName)) ∈ WT := wt_tab 799 (by decide +kernel) (by decide +kernel)
theorem wt_800 : (Jvm.Cond.selects "CollectionsEngineModel" ({ cls := "CollectionsEngineModel", name := "event", desc := "(I)I" } : Jvm.MethodName) ({ cls := "CollectionsEngineModel", name := "event", desc := "(I)I" } : Jvm.MethodName)) ∈ WT := wt_tab 800 (by decide +kernel) (by decide +kernel)
theorem wt_801 : (Jvm.Cond.code ({ cls := "CollectionsEngineModel", name := "event", desc := "(I)I" } : Jvm.MethodName) prog_7_method_41_code (2 : Nat) (Option.some Jvm.ClassFile.FieldType.int)) ∈ WT := wt_tab 801 (by decide +kernel) (by decide +kernel)
theorem wt_802 : (Jvm.Cond.methodLink "CollectionsEngineLaw" (185 : Nat) ({ cls := "CollectionsEngineModel", name := "stateAt", desc := "(II)I" } : Jvm.MethodName)) ∈ WT := wt_tab 802 (by decide +kernel) (by decide +kernel)
theorem wt_803 : (Jvm.Cond.instanceMethod ({ cls := "CollectionsEngineModel", name := "stateAt", desc := "(II)I" } : Jvm.MethodName)) ∈ WT := wt_tab 803 (by decide +kernel) (by decide +kernel)
theorem wt_804 : (Jvm.Cond.selects "CollectionsEngineModel" ({ cls := "CollectionsEngineModel", name := "stateAt", desc := "(II)I" } : Jvm.MethodName) ({ cls := "CollectionsEngineModel", name := "stateAt", desc := "(II)I" } : Jvm.MethodName)) ∈ WT := wt_tab 804 (by decide +kernel) (by decide +kernel)
theorem wt_805 : (Jvm.Cond.code ({ cls := "CollectionsEngineModel", name := "stateAt", desc := "(II)I" } : Jvm.MethodName) prog_7_method_42_code (5 : Nat) (Option.some Jvm.ClassFile.FieldType.int)) ∈ WT := wt_tab 805 (by decide +kernel) (by decide +kernel)
theorem wt_806 : (Jvm.Cond.sameMethod "java/lang/Throwable" "java/lang/Throwable" "fillInStackTrace" "(I)Ljava/lang/Throwable;") ∈ WT := wt_tab 806 (by decide +kernel) (by decide +kernel)
theorem wts_0 : (Cond.selects "java/lang/Throwable" ⟨"java/lang/Throwable", "fillInStackTrace", "(I)Ljava/lang/Throwable;"⟩ ⟨"java/lang/Throwable", "fillInStackTrace", "(I)Ljava/lang/Throwable;"⟩) ∈ WT := wt_sel 0 (by decide +kernel) (by decide +kernel)
theorem wts_1 : (Cond.selects "CollectionsEngine" ⟨"CollectionsEngine", "enter", "(LCollectionsEngine$Bill;II)V"⟩ ⟨"CollectionsEngine", "enter", "(LCollectionsEngine$Bill;II)V"⟩) ∈ WT := wt_sel 1 (by decide +kernel) (by decide +kernel)
theorem wts_2 : (Cond.selects "CollectionsEngine" ⟨"CollectionsEngine", "findBill", "(I)LCollectionsEngine$Bill;"⟩ ⟨"CollectionsEngine", "findBill", "(I)LCollectionsEngine$Bill;"⟩) ∈ WT := wt_sel 2 (by decide +kernel) (by decide +kernel)
theorem wts_3 : (Cond.selects "CollectionsEngine" ⟨"CollectionsEngine", "takePayment", "(LCollectionsEngine$Bill;I)V"⟩ ⟨"CollectionsEngine", "takePayment", "(LCollectionsEngine$Bill;I)V"⟩) ∈ WT := wt_sel 3 (by decide +kernel) (by decide +kernel)
theorem wts_4 : (Cond.selects "CollectionsEngine" ⟨"CollectionsEngine", "fail", "(LCollectionsEngine$Bill;I)V"⟩ ⟨"CollectionsEngine", "fail", "(LCollectionsEngine$Bill;I)V"⟩) ∈ WT := wt_sel 4 (by decide +kernel) (by decide +kernel)
theorem wts_5 : (Cond.selects "CollectionsEngine" ⟨"CollectionsEngine", "failUnansweredTries", "()V"⟩ ⟨"CollectionsEngine", "failUnansweredTries", "()V"⟩) ∈ WT := wt_sel 5 (by decide +kernel) (by decide +kernel)
theorem wts_6 : (Cond.selects "CollectionsEngine" ⟨"CollectionsEngine", "lookAtBills", "()I"⟩ ⟨"CollectionsEngine", "lookAtBills", "()I"⟩) ∈ WT := wt_sel 6 (by decide +kernel) (by decide +kernel)
theorem wts_7 : (Cond.selects "CollectionsEngine" ⟨"CollectionsEngine", "lookAt", "(LCollectionsEngine$Bill;)Z"⟩ ⟨"CollectionsEngine", "lookAt", "(LCollectionsEngine$Bill;)Z"⟩) ∈ WT := wt_sel 7 (by decide +kernel) (by decide +kernel)
theorem wts_8 : (Cond.selects "CollectionsEngine" ⟨"CollectionsEngine", "beginTry", "(LCollectionsEngine$Bill;)Z"⟩ ⟨"CollectionsEngine", "beginTry", "(LCollectionsEngine$Bill;)Z"⟩) ∈ WT := wt_sel 8 (by decide +kernel) (by decide +kernel)
theorem wts_9 : (Cond.selects "CollectionsEngine" ⟨"CollectionsEngine", "breakPromise", "(LCollectionsEngine$Bill;)V"⟩ ⟨"CollectionsEngine", "breakPromise", "(LCollectionsEngine$Bill;)V"⟩) ∈ WT := wt_sel 9 (by decide +kernel) (by decide +kernel)
theorem wts_10 : (Cond.selects "CollectionsEngineModel" ⟨"CollectionsEngineModel", "addGaps", "(IIII)V"⟩ ⟨"CollectionsEngineModel", "addGaps", "(IIII)V"⟩) ∈ WT := wt_sel 10 (by decide +kernel) (by decide +kernel)
theorem wts_11 : (Cond.selects "CollectionsEngineModel" ⟨"CollectionsEngineModel", "isHoliday", "(I)Z"⟩ ⟨"CollectionsEngineModel", "isHoliday", "(I)Z"⟩) ∈ WT := wt_sel 11 (by decide +kernel) (by decide +kernel)
theorem wts_12 : (Cond.selects "CollectionsEngineModel" ⟨"CollectionsEngineModel", "chargingFrom", "(I)I"⟩ ⟨"CollectionsEngineModel", "chargingFrom", "(I)I"⟩) ∈ WT := wt_sel 12 (by decide +kernel) (by decide +kernel)
theorem wts_13 : (Cond.selects "CollectionsEngineModel" ⟨"CollectionsEngineModel", "charges", "(I)Z"⟩ ⟨"CollectionsEngineModel", "charges", "(I)Z"⟩) ∈ WT := wt_sel 13 (by decide +kernel) (by decide +kernel)
theorem wts_14 : (Cond.selects "CollectionsEngineModel" ⟨"CollectionsEngineModel", "enter", "(II)V"⟩ ⟨"CollectionsEngineModel", "enter", "(II)V"⟩) ∈ WT := wt_sel 14 (by decide +kernel) (by decide +kernel)
theorem wts_15 : (Cond.selects "CollectionsEngineModel" ⟨"CollectionsEngineModel", "isBill", "(I)Z"⟩ ⟨"CollectionsEngineModel", "isBill", "(I)Z"⟩) ∈ WT := wt_sel 15 (by decide +kernel) (by decide +kernel)
theorem wts_16 : (Cond.selects "CollectionsEngineModel" ⟨"CollectionsEngineModel", "receive", "(II)V"⟩ ⟨"CollectionsEngineModel", "receive", "(II)V"⟩) ∈ WT := wt_sel 16 (by decide +kernel) (by decide +kernel)
theorem wts_17 : (Cond.selects "CollectionsEngineModel" ⟨"CollectionsEngineModel", "fail", "(II)V"⟩ ⟨"CollectionsEngineModel", "fail", "(II)V"⟩) ∈ WT := wt_sel 17 (by decide +kernel) (by decide +kernel)
theorem wts_18 : (Cond.selects "CollectionsEngineModel" ⟨"CollectionsEngineModel", "passDay", "()I"⟩ ⟨"CollectionsEngineModel", "passDay", "()I"⟩) ∈ WT := wt_sel 18 (by decide +kernel) (by decide +kernel)
theorem wts_19 : (Cond.selects "CollectionsEngineModel" ⟨"CollectionsEngineModel", "look", "(I)Z"⟩ ⟨"CollectionsEngineModel", "look", "(I)Z"⟩) ∈ WT := wt_sel 19 (by decide +kernel) (by decide +kernel)
theorem wts_20 : (Cond.selects "CollectionsEngineModel" ⟨"CollectionsEngineModel", "breakPromise", "(I)V"⟩ ⟨"CollectionsEngineModel", "breakPromise", "(I)V"⟩) ∈ WT := wt_sel 20 (by decide +kernel) (by decide +kernel)
end
section
def tysW (cs : Nat → ClassId) : List (ClassId × FieldType) := [(cs 0, .int), (cs 1, .long), (cs 2, .boolean), (cs 3, .object RX0), (cs 4, .object RX3)]
def sInit (X : String) : MethodName := ⟨X, "<init>", "(Ljava/lang/String;)V"⟩
def sInit0 (X : String) : MethodName := ⟨X, "<init>", "()V"⟩
def nwD : List MethodName := [sInit0 "java/lang/RuntimeException", sInit "java/lang/RuntimeException", sInit0 "java/lang/Exception", sInit "java/lang/Exception", sInit0 "java/lang/Throwable", sInit "java/lang/Throwable"]
def xIO : String := "java/lang/IndexOutOfBoundsException"
def xIA : String := "java/lang/IllegalArgumentException"
def xIS : String := "java/lang/IllegalStateException"
def nwC : List String := [xIO, xIA, xIS]
def strs : List (Nat × String) := [(60, "no such weekday"), (71, "no weekday would be left for charging"), (222, "an argument is out of range"), (227, "no such reason"), (104, "the row of gaps is full"), (225, "no such account"), (115, "there are as many bills as there can be"), (229, "no such bill"), (136, "the bill is not being tried"), (148, "the bill takes no such payment"), (153, "the bill takes no promise"), (212, "no such event")]
def ncs : List (String × String) := [(xIO, xIA), (xIO, xIS), (xIA, xIO), (xIA, xIS), (xIS, xIO), (xIS, xIA)]
/-- what the throws, the texts and the tables of handlers rest on -/
def ST (sa : Nat → Nat) (A : Nat → Prop) (U : State) (H : Heap) : Prop :=
  vx_Zq Bundle.tN "UNASSIGNED_STACK" Bundle.steD A U H ∧ vx_Zq Bundle.tN "SUPPRESSED_SENTINEL" Bundle.listD A U H ∧ (∀ x ∈ nwD, va_Nw (.declares x) U) ∧ (∀ x ∈ nwC, va_Nw (.castable x x) U) ∧ (∀ q ∈ strs, vk_R RX4 q.1 q.2 (sa q.1) U) ∧ ∀ q ∈ ncs, va_Nc q.1 q.2 U
theorem ST.blind {sa : Nat → Nat} {A : Nat → Prop} {U : State} {g : JFrame} {mk : MethodId} {a : Array Value} (h : ST sa A U U.heap) : ST sa A (U.calling g mk a) (U.calling g mk a).heap := by
  obtain ⟨h1, h2, h3, h4, h5, h6⟩ := h
  exact ⟨vx_Zq.moved (u := U) (U := U.calling g mk a) (Vm.Alike.refl U.vm) h1, vx_Zq.moved (u := U) (U := U.calling g mk a) (Vm.Alike.refl U.vm) h2, fun x hx => va_Nw.same rfl (u := U) (U := U.calling g mk a) rfl (h3 x hx), fun x hx => va_Nw.same rfl (u := U) (U := U.calling g mk a) rfl (h4 x hx), fun q hq => vk_R.same (u := U) (U := U.calling g mk a) rfl (h5 q hq), fun q hq => va_Nc.moved (u := U) (U := U.calling g mk a) (Vm.Alike.refl U.vm) (h6 q hq)⟩
theorem ST.call {sa : Nat → Nat} {A B : Nat → Prop} {s U : State} {H : Heap} {locs : List Loc} (h : ST sa A s s.heap) (hS : va_S A s.heap H locs) (hB : ∀ q, B q → A q) (hU : U.heap = H) (hW : s.WarmedH U.vm) : ST sa B U U.heap := by
  obtain ⟨h1, h2, h3, h4, h5, h6⟩ := h
  subst hU
  exact ⟨((h1.moved hW.alike).kept hS.2.1).narrow hB, ((h2.moved hW.alike).kept hS.2.1).narrow hB, fun x hx => va_Nw.warmD hW (h3 x hx), fun x hx => va_Nw.warmC hW (h4 x hx), fun q hq => vk_R.warm hW (h5 q hq), fun q hq => va_Nc.moved hW.alike (h6 q hq)⟩
/-- the facts that hold throughout a method's body -/
def CX (p : Program) (l : Launch) (e : Env) (R : Room) (s : State) (m : MethodId) (args : Array Value) (below : List Frame) (meth : Method) (c : Code) (D : va_G) (cs : Nat → ClassId) (sa : Nat → Nat) (A : Nat → Prop) (cc : ByteArray) (nL : Nat) (own : String) (ret : Option FieldType) : Prop :=
  CallFix p m c cc nL s args WT own ∧ meth.sig.returnType = ret ∧ meth.locks = false ∧ va_K D vwCl (tysW cs) s ∧ (∀ q, s.heap.size ≤ q → A q) ∧ ST sa A s s.heap ∧ l.stackTraces = false
/-- from here, with this world, these numbered places and this stack, Q is reached -/
def J (p : Program) (l : Launch) (e : Env) (R : Room) (s : State) (m : MethodId) (args : Array Value) (below : List Frame) (meth : Method) (c : Code) (D : va_G) (A : Nat → Prop) (nL cells slots : Nat) (Q : State → Prop) (w : va_W) (pc : Nat) (lv : List (Nat × Value)) (st : List Value) : Prop :=
  ∀ (H : Heap) (locs : List Loc) (ls : Array Slot), va_P D vwCl w H → va_D A w → va_S A s.heap H locs → lv_has ls nL lv → W p l e R s m args below meth c H locs cells slots Q (F0 m pc ls st)
def JX (p : Program) (l : Launch) (e : Env) (R : Room) (s : State) (m : MethodId) (args : Array Value) (below : List Frame) (meth : Method) (c : Code) (D : va_G) (A : Nat → Prop) (nL cells slots : Nat) (Q : State → Prop) (w : va_W) (pc : Nat) (lv : List (Nat × Value)) (rest : List Value) (E : String) : Prop :=
  ∀ (H : Heap) (locs : List Loc) (ls : Array Slot) (ce : Cell) (q : Addr), va_P D vwCl w H → va_D A w → va_S A s.heap H locs → lv_has ls nL lv → H[q]? = some ce → ce.vm = .none → s.vm.findClass E = some ce.cls → vx_W p l e R s m args below meth c H locs cells slots Q (F0 m pc ls rest) q
def lgt : List (Nat × Value) → Nat → Option Value
  | [], _ => none
  | (j, v) :: r, k => match Nat.beq j k with
    | true => some v
    | false => lgt r k
theorem lgt_mem : ∀ {lv : List (Nat × Value)} {k : Nat} {v : Value}, lgt lv k = some v → (k, v) ∈ lv
  | [], _, _, h => by simp [lgt] at h
  | (j, x) :: r, k, v, h => by
    unfold lgt at h
    cases hb : Nat.beq j k with
    | true =>
      rw [hb] at h
      have := Nat.eq_of_beq_eq_true hb
      subst this
      cases h
      exact List.mem_cons_self
    | false =>
      rw [hb] at h
      exact List.mem_cons_of_mem _ (lgt_mem h)
theorem lgt_at {ls : Array Slot} {nL : Nat} {lv : List (Nat × Value)} {k : Nat} {v : Value} (h : lv_has ls nL lv) (hk : lgt lv k = some v) : ls[k]? = some (.val v) := h.2.2 _ (lgt_mem hk)
abbrev lst (lv : List (Nat × Value)) (i : Nat) (v : Value) : List (Nat × Value) := (i, v) :: lv.filter (fun q => !(q.1 == i) && !(q.1 + 1 == i && q.2.category == 2))
/-- what a call says: thrown, answered, the world behind it -/
abbrev Rs : Type := Option String × Option Value × va_W
def PO (D : va_G) (w : va_W) (A : Nat → Prop) (t : State) : Prop := va_P D vwCl w t.heap ∧ va_D A w
def PR (D : va_G) (cs : Nat → ClassId) (sa : Nat → Nat) (w : va_W) (sz : Nat) (U : State) : Prop := U.heap.size = sz ∧ va_P D vwCl w U.heap ∧ va_K D vwCl (tysW cs) U ∧ va_D (fun _ => True) w ∧ ST sa (va_A w sz) U U.heap
def QC (D : va_G) (r : Rs) (A : Nat → Prop) : Array Value → State → Outcome → State → Prop := fun _ st oc t => (r.1 = none ∧ oc = .returned r.2.1 ∧ PO D r.2.2 A t) ∧ va_F A st t
def XQ (D : va_G) (w : va_W) (r : Rs) (A : Nat → Prop) : String → State → State → Prop := fun E st t => (r.1 = some E ∧ PO D w A t) ∧ va_F A st t
abbrev QE (below : List Frame) (args : Array Value) (s : State) (D : va_G) (A : Nat → Prop) (mc ms : Nat) (w : va_W) (r : Rs) : State → Prop := vx_MQ below (QC D r A) (XQ D w r A) args s mc ms A
/-- A CONTRACT: from the world w the method throws or answers, and leaves, what r says -/
def CM (l : Launch) (D : va_G) (cs : Nat → ClassId) (sa : Nat → Nat) (y : MethodName) (cc : ByteArray) (maxL : Nat) (ret : Option FieldType) (rm : Room) (mc ms : Nat) (av : List Value) (w : va_W) (r : Rs) : Prop :=
  ∀ sz : Nat, vx_Met l y (.code y cc maxL ret :: WT) rm (va_Pc av (PR D cs sa w sz)) (QC D r (va_A w sz)) (XQ D w r (va_A w sz)) mc ms (va_A w sz)
/-- the same of a method with a table of handlers -/
def CH (l : Launch) (D : va_G) (cs : Nat → ClassId) (sa : Nat → Nat) (y : MethodName) (cc : ByteArray) (maxL : Nat) (ret : Option FieldType) (hh : List (Nat × Nat × Nat × Nat)) (rm : Room) (mc ms : Nat) (av : List Value) (w : va_W) (r : Rs) : Prop :=
  ∀ sz : Nat, vx_Met l y (.codeWith y cc maxL ret hh :: WT) rm (va_Pc av (PR D cs sa w sz)) (QC D r (va_A w sz)) (XQ D w r (va_A w sz)) mc ms (va_A w sz)
theorem PR.blind {D : va_G} {cs : Nat → ClassId} {sa : Nat → Nat} {w : va_W} {sz : Nat} {av : List Value} : FrameBlind (va_Pc av (PR D cs sa w sz)) := fun a U g mk h => ⟨h.1, h.2.1, h.2.2.1, va_K.moved (u := U) (U := U.calling g mk a) (Vm.Alike.refl U.vm) h.2.2.2.1, h.2.2.2.2.1, ST.blind h.2.2.2.2.2⟩
theorem CM.of {l : Launch} {D : va_G} {cs : Nat → ClassId} {sa : Nat → Nat} {y : MethodName} {cc : ByteArray} {maxL : Nat} {ret : Option FieldType} {rm : Room} {mc ms : Nat} {av : List Value} {w : va_W} {r : Rs} (own : String) (hl : l.stackTraces = false) (hy : plainName y.cls = true) (ho : y.cls = own) (hn : (lg_sl av).length ≤ maxL)
    (body : ∀ (p : Program) (e : Env) (s : State) (m : MethodId) (args : Array Value) (below : List Frame) (meth : Method) (c : Code) (A : Nat → Prop), CX p l e rm s m args below meth c D cs sa A cc maxL own ret → (∀ x ∈ c.exceptionTable.toList, False) → meth.name = y.name → J p l e rm s m args below meth c D A maxL 0 0 (QE below args s D A mc ms w r) w 0 (lv_args 0 av) []) : CM l D cs sa y cc maxL ret rm mc ms av w r := by
  intro sz
  refine vx_ofW hy rfl ?_
  intro p e s m args below meth c s₁ B hml hx hv
  obtain ⟨rfl, hsz, hP, hK, hD, hST⟩ := hv
  subst hsz
  rw [lg_entry_eq]
  have hts := atoms_spec (ws := .code y cc maxL ret :: WT) B.pre
  exact body p e s m _ below meth c _ ⟨⟨B.exec, B.bytes, hml, by rw [← ho]; exact findClass_of_methodNamed B.named, fun w hw => hts w (List.mem_cons_of_mem _ hw)⟩, B.returns, B.notSynchronized, hK, fun q h => Or.inr h, hST, hl⟩ hx (name_of_methodNamed B.named B.method).1 s.heap [] _ hP hD.self va_S.rf (lv_entry av hn)
theorem CM.ofF {l : Launch} {D : va_G} {cs : Nat → ClassId} {sa : Nat → Nat} {y : MethodName} {cc : ByteArray} {maxL : Nat} {ret : Option FieldType} {rm : Room} {mc ms : Nat} {av : List Value} {w : va_W} {r : Rs} (own : String) (hl : l.stackTraces = false) (hy : plainFor y = true) (ho : y.cls = own) (hn : (lg_sl av).length ≤ maxL)
    (body : ∀ (p : Program) (e : Env) (s : State) (m : MethodId) (args : Array Value) (below : List Frame) (meth : Method) (c : Code) (A : Nat → Prop), CX p l e rm s m args below meth c D cs sa A cc maxL own ret → (∀ x ∈ c.exceptionTable.toList, False) → meth.name = y.name → J p l e rm s m args below meth c D A maxL 0 0 (QE below args s D A mc ms w r) w 0 (lv_args 0 av) []) : CM l D cs sa y cc maxL ret rm mc ms av w r := by
  intro sz
  refine MetFree.of_bodySF (code := cc) (maxLocals := maxL) (ret := ret) hy ?_ ?_
  · intro args s m h hn
    obtain ⟨meth, c, h1, h2, h3, h4, h5, h6, -, -⟩ := Cond.code_spec hn (atoms_spec (ws := .code y cc maxL ret :: WT) h _ List.mem_cons_self)
    exact ⟨meth, c, h1, h2, h3, h4, h5, h6⟩
  · intro p e s m args below meth c s₁ B hml hv _
    have hh0 : s₁.heap = s.heap := by rw [B.state]; rfl
    have ht : ∀ x ∈ c.exceptionTable.toList, False := by
      obtain ⟨meth9, c9, h1, h2, -, -, -, -, h7, -⟩ := Cond.code_spec B.named (atoms_spec (ws := .code y cc maxL ret :: WT) B.pre _ List.mem_cons_self)
      cases Option.some.inj (h1.symm.trans B.method)
      cases Option.some.inj (h2.symm.trans (Stand.of_body B).code)
      intro x hx
      rw [Array.isEmpty_iff.mp h7] at hx
      cases hx
    obtain ⟨rfl, hsz, hP, hK, hD, hST⟩ := hv
    subst hsz
    have hts := atoms_spec (ws := .code y cc maxL ret :: WT) B.pre
    have k := body p e s m _ below meth c _ ⟨⟨B.exec, B.bytes, hml, by rw [← ho]; exact findClass_of_methodNamed B.named, fun w hw => hts w (List.mem_cons_of_mem _ hw)⟩, B.returns, B.notSynchronized, hK, fun q h => Or.inr h, hST, hl⟩ ht (name_of_methodNamed B.named B.method).1 s.heap [] _ hP hD.self va_S.rf (lv_entry av hn)
    rw [← lg_entry_eq] at k
    obtain ⟨t, a1, o, b1, b2, b3⟩ := k s₁ hh0 (Stand.of_body B)
    exact ⟨t, o, a1, b1, b2, b3⟩
theorem CH.of {l : Launch} {D : va_G} {cs : Nat → ClassId} {sa : Nat → Nat} {y : MethodName} {cc : ByteArray} {maxL : Nat} {ret : Option FieldType} {hh : List (Nat × Nat × Nat × Nat)} {rm : Room} {mc ms : Nat} {av : List Value} {w : va_W} {r : Rs} (own : String) (hl : l.stackTraces = false) (hy : plainName y.cls = true) (ho : y.cls = own) (hn : (lg_sl av).length ≤ maxL)
    (body : ∀ (p : Program) (e : Env) (s : State) (m : MethodId) (args : Array Value) (below : List Frame) (meth : Method) (c : Code) (A : Nat → Prop), CX p l e rm s m args below meth c D cs sa A cc maxL own ret → c.exceptionTable.toList = tableOf hh → J p l e rm s m args below meth c D A maxL 0 0 (QE below args s D A mc ms w r) w 0 (lv_args 0 av) []) : CH l D cs sa y cc maxL ret hh rm mc ms av w r := by
  intro sz
  refine vx_ofWH hy rfl ?_
  intro p e s m args below meth c s₁ B hml hv
  obtain ⟨rfl, hsz, hP, hK, hD, hST⟩ := hv
  subst hsz
  rw [lg_entry_eq]
  have hts := atoms_spec (ws := .codeWith y cc maxL ret hh :: WT) B.pre
  exact body p e s m _ below meth c _ ⟨⟨B.exec, B.bytes, hml, by rw [← ho]; exact findClass_of_methodNamed B.named, fun w hw => hts w (List.mem_cons_of_mem _ hw)⟩, B.returns, B.notSynchronized, hK, fun q h => Or.inr h, hST, hl⟩ (vx_table (x := y) B (hts _ List.mem_cons_self)) s.heap [] _ hP hD.self va_S.rf (lv_entry av hn)
section JR
variable {p : Program} {l : Launch} {e : Env} {R : Room} {s : State} {m : MethodId} {args : Array Value} {below : List Frame} {meth : Method} {c : Code} {D : va_G} {cs : Nat → ClassId} {sa : Nat → Nat} {A : Nat → Prop} {cc : ByteArray} {nL : Nat} {own : String} {ret : Option FieldType} {cells slots : Nat} {Q : State → Prop} {w : va_W} {pc : Nat} {lv : List (Nat × Value)} {st : List Value}
theorem j_iconst (hc : CX p l e R s m args below meth c D cs sa A cc nL own ret) {n : Int} {v : Int32} (hdg : decode cc pc = .ok (.iconst n, 1)) (hv : Int32.ofInt n = v) (k : J p l e R s m args below meth c D A nL cells slots Q w (pc + 1) lv (.int v :: st)) : J p l e R s m args below meth c D A nL cells slots Q w pc lv st := fun H locs ls hP hD hS hl => lv_iconst hc.1.1 hc.1.2.1 hdg hv (k H locs ls hP hD hS hl)
theorem j_bipush (hc : CX p l e R s m args below meth c D cs sa A cc nL own ret) {n : Int} {v : Int32} (hdg : decode cc pc = .ok (.bipush n, 2)) (hv : (Int8.ofInt n).toInt32 = v) (k : J p l e R s m args below meth c D A nL cells slots Q w (pc + 2) lv (.int v :: st)) : J p l e R s m args below meth c D A nL cells slots Q w pc lv st := fun H locs ls hP hD hS hl => lv_bipush hc.1.1 hc.1.2.1 hdg hv (k H locs ls hP hD hS hl)
theorem j_sipush (hc : CX p l e R s m args below meth c D cs sa A cc nL own ret) {n : Int} {v : Int32} (hdg : decode cc pc = .ok (.sipush n, 3)) (hv : (Int16.ofInt n).toInt32 = v) (k : J p l e R s m args below meth c D A nL cells slots Q w (pc + 3) lv (.int v :: st)) : J p l e R s m args below meth c D A nL cells slots Q w pc lv st := fun H locs ls hP hD hS hl => lv_sipush hc.1.1 hc.1.2.1 hdg hv (k H locs ls hP hD hS hl)
theorem j_lconst (hc : CX p l e R s m args below meth c D cs sa A cc nL own ret) {n : Fin 2} {v : Int64} (hdg : decode cc pc = .ok (.lconst n, 1)) (hv : Int64.ofNat (n : Nat) = v) (k : J p l e R s m args below meth c D A nL cells slots Q w (pc + 1) lv (.long v :: st)) : J p l e R s m args below meth c D A nL cells slots Q w pc lv st := fun H locs ls hP hD hS hl => lv_lconst hc.1.1 hc.1.2.1 hdg hv (k H locs ls hP hD hS hl)
theorem j_iload_n (hc : CX p l e R s m args below meth c D cs sa A cc nL own ret) {k0 : Fin 4} {x : Int32} (hdg : decode cc pc = .ok (.iload_n k0, 1)) (hg : lgt lv (k0 : Nat) = some (.int x)) (k : J p l e R s m args below meth c D A nL cells slots Q w (pc + 1) lv (.int x :: st)) : J p l e R s m args below meth c D A nL cells slots Q w pc lv st := fun H locs ls hP hD hS hl => lv_iload_n hc.1.1 hc.1.2.1 hdg rfl (lgt_at hl hg) (k H locs ls hP hD hS hl)
theorem j_iload (hc : CX p l e R s m args below meth c D cs sa A cc nL own ret) {i : Nat} {x : Int32} (hdg : decode cc pc = .ok (.iload i, 2)) (hg : lgt lv i = some (.int x)) (k : J p l e R s m args below meth c D A nL cells slots Q w (pc + 2) lv (.int x :: st)) : J p l e R s m args below meth c D A nL cells slots Q w pc lv st := fun H locs ls hP hD hS hl => lv_iload hc.1.1 hc.1.2.1 hdg (lgt_at hl hg) (k H locs ls hP hD hS hl)
theorem j_aload_n (hc : CX p l e R s m args below meth c D cs sa A cc nL own ret) {k0 : Fin 4} {x : Nat} (hdg : decode cc pc = .ok (.aload_n k0, 1)) (hg : lgt lv (k0 : Nat) = some (.ref x)) (k : J p l e R s m args below meth c D A nL cells slots Q w (pc + 1) lv (.ref x :: st)) : J p l e R s m args below meth c D A nL cells slots Q w pc lv st := fun H locs ls hP hD hS hl => lv_aload_n hc.1.1 hc.1.2.1 hdg rfl (lgt_at hl hg) (k H locs ls hP hD hS hl)
theorem j_aload (hc : CX p l e R s m args below meth c D cs sa A cc nL own ret) {i : Nat} {x : Nat} (hdg : decode cc pc = .ok (.aload i, 2)) (hg : lgt lv i = some (.ref x)) (k : J p l e R s m args below meth c D A nL cells slots Q w (pc + 2) lv (.ref x :: st)) : J p l e R s m args below meth c D A nL cells slots Q w pc lv st := fun H locs ls hP hD hS hl => lv_aload hc.1.1 hc.1.2.1 hdg (lgt_at hl hg) (k H locs ls hP hD hS hl)
theorem j_aload_nN (hc : CX p l e R s m args below meth c D cs sa A cc nL own ret) {k0 : Fin 4} (hdg : decode cc pc = .ok (.aload_n k0, 1)) (hg : lgt lv (k0 : Nat) = some .null) (k : J p l e R s m args below meth c D A nL cells slots Q w (pc + 1) lv (.null :: st)) : J p l e R s m args below meth c D A nL cells slots Q w pc lv st := fun H locs ls hP hD hS hl => lv_aload_nN hc.1.1 hc.1.2.1 hdg rfl (lgt_at hl hg) (k H locs ls hP hD hS hl)
theorem j_aloadN (hc : CX p l e R s m args below meth c D cs sa A cc nL own ret) {i : Nat} (hdg : decode cc pc = .ok (.aload i, 2)) (hg : lgt lv i = some .null) (k : J p l e R s m args below meth c D A nL cells slots Q w (pc + 2) lv (.null :: st)) : J p l e R s m args below meth c D A nL cells slots Q w pc lv st := fun H locs ls hP hD hS hl => lv_aloadN hc.1.1 hc.1.2.1 hdg (lgt_at hl hg) (k H locs ls hP hD hS hl)
theorem j_istore_n (hc : CX p l e R s m args below meth c D cs sa A cc nL own ret) {k0 : Fin 4} {x : Int32} (hdg : decode cc pc = .ok (.istore_n k0, 1)) (hn : Nat.blt (k0 : Nat) nL = true) (k : J p l e R s m args below meth c D A nL cells slots Q w (pc + 1) (lst lv (k0 : Nat) (.int x)) st) : J p l e R s m args below meth c D A nL cells slots Q w pc lv ((.int x) :: st) := fun H locs ls hP hD hS hl => lv_istore_n hc.1.1 hc.1.2.1 hdg rfl hl (Nat.le_of_ble_eq_true hn) rfl (fun ls hl => k H locs ls hP hD hS hl)
theorem j_istore (hc : CX p l e R s m args below meth c D cs sa A cc nL own ret) {i : Nat} {x : Int32} (hdg : decode cc pc = .ok (.istore i, 2)) (hn : Nat.blt i nL = true) (k : J p l e R s m args below meth c D A nL cells slots Q w (pc + 2) (lst lv i (.int x)) st) : J p l e R s m args below meth c D A nL cells slots Q w pc lv ((.int x) :: st) := fun H locs ls hP hD hS hl => lv_istore hc.1.1 hc.1.2.1 hdg hl (Nat.le_of_ble_eq_true hn) rfl (fun ls hl => k H locs ls hP hD hS hl)
theorem j_astore_n (hc : CX p l e R s m args below meth c D cs sa A cc nL own ret) {k0 : Fin 4} {x : Nat} (hdg : decode cc pc = .ok (.astore_n k0, 1)) (hn : Nat.blt (k0 : Nat) nL = true) (k : J p l e R s m args below meth c D A nL cells slots Q w (pc + 1) (lst lv (k0 : Nat) (.ref x)) st) : J p l e R s m args below meth c D A nL cells slots Q w pc lv ((.ref x) :: st) := fun H locs ls hP hD hS hl => lv_astore_n hc.1.1 hc.1.2.1 hdg rfl hl (Nat.le_of_ble_eq_true hn) rfl (fun ls hl => k H locs ls hP hD hS hl)
theorem j_astore (hc : CX p l e R s m args below meth c D cs sa A cc nL own ret) {i : Nat} {x : Nat} (hdg : decode cc pc = .ok (.astore i, 2)) (hn : Nat.blt i nL = true) (k : J p l e R s m args below meth c D A nL cells slots Q w (pc + 2) (lst lv i (.ref x)) st) : J p l e R s m args below meth c D A nL cells slots Q w pc lv ((.ref x) :: st) := fun H locs ls hP hD hS hl => lv_astore hc.1.1 hc.1.2.1 hdg hl (Nat.le_of_ble_eq_true hn) rfl (fun ls hl => k H locs ls hP hD hS hl)
theorem j_astore_nN (hc : CX p l e R s m args below meth c D cs sa A cc nL own ret) {k0 : Fin 4} (hdg : decode cc pc = .ok (.astore_n k0, 1)) (hn : Nat.blt (k0 : Nat) nL = true) (k : J p l e R s m args below meth c D A nL cells slots Q w (pc + 1) (lst lv (k0 : Nat) .null) st) : J p l e R s m args below meth c D A nL cells slots Q w pc lv (.null :: st) := fun H locs ls hP hD hS hl => lv_astore_nN hc.1.1 hc.1.2.1 hdg rfl hl (Nat.le_of_ble_eq_true hn) rfl (fun ls hl => k H locs ls hP hD hS hl)
theorem j_astoreN (hc : CX p l e R s m args below meth c D cs sa A cc nL own ret) {i : Nat} (hdg : decode cc pc = .ok (.astore i, 2)) (hn : Nat.blt i nL = true) (k : J p l e R s m args below meth c D A nL cells slots Q w (pc + 2) (lst lv i .null) st) : J p l e R s m args below meth c D A nL cells slots Q w pc lv (.null :: st) := fun H locs ls hP hD hS hl => lv_astoreN hc.1.1 hc.1.2.1 hdg hl (Nat.le_of_ble_eq_true hn) rfl (fun ls hl => k H locs ls hP hD hS hl)
theorem lst_mem {i : Nat} {v : Value} (h : lgt lv i = some v) : ∃ k : Nat, lv[k]? = some (i, v) := List.getElem?_of_mem (lgt_mem h)
theorem j_iinc (hc : CX p l e R s m args below meth c D cs sa A cc nL own ret) {i : Nat} {n : Int} {x v : Int32} (hdg : decode cc pc = .ok (.iinc i n, 3)) (hg : lgt lv i = some (.int x)) (hv : x + Int32.ofInt n = v) (hn : Nat.blt i nL = true) (k : J p l e R s m args below meth c D A nL cells slots Q w (pc + 3) (lst lv i (.int v)) st) : J p l e R s m args below meth c D A nL cells slots Q w pc lv st := fun H locs ls hP hD hS hl => by
  obtain ⟨k9, h9⟩ := lst_mem hg
  exact lv_iinc hc.1.1 hc.1.2.1 hdg hl h9 hv (Nat.le_of_ble_eq_true hn) rfl (fun ls hl => k H locs ls hP hD hS hl)
theorem j_iadd (hc : CX p l e R s m args below meth c D cs sa A cc nL own ret) {x y : Int32} (hdg : decode cc pc = .ok (.iadd, 1)) (k : J p l e R s m args below meth c D A nL cells slots Q w (pc + 1) lv (.int (x + y) :: st)) : J p l e R s m args below meth c D A nL cells slots Q w pc lv (.int y :: .int x :: st) := fun H locs ls hP hD hS hl => lv_iadd hc.1.1 hc.1.2.1 hdg (k H locs ls hP hD hS hl)
theorem j_isub (hc : CX p l e R s m args below meth c D cs sa A cc nL own ret) {x y : Int32} (hdg : decode cc pc = .ok (.isub, 1)) (k : J p l e R s m args below meth c D A nL cells slots Q w (pc + 1) lv (.int (x - y) :: st)) : J p l e R s m args below meth c D A nL cells slots Q w pc lv (.int y :: .int x :: st) := fun H locs ls hP hD hS hl => lv_isub hc.1.1 hc.1.2.1 hdg (k H locs ls hP hD hS hl)
theorem j_imul (hc : CX p l e R s m args below meth c D cs sa A cc nL own ret) {x y : Int32} (hdg : decode cc pc = .ok (.imul, 1)) (k : J p l e R s m args below meth c D A nL cells slots Q w (pc + 1) lv (.int (x * y) :: st)) : J p l e R s m args below meth c D A nL cells slots Q w pc lv (.int y :: .int x :: st) := fun H locs ls hP hD hS hl => lv_imul hc.1.1 hc.1.2.1 hdg (k H locs ls hP hD hS hl)
theorem j_iand (hc : CX p l e R s m args below meth c D cs sa A cc nL own ret) {x y : Int32} (hdg : decode cc pc = .ok (.iand, 1)) (k : J p l e R s m args below meth c D A nL cells slots Q w (pc + 1) lv (.int (x &&& y) :: st)) : J p l e R s m args below meth c D A nL cells slots Q w pc lv (.int y :: .int x :: st) := fun H locs ls hP hD hS hl => lv_iand hc.1.1 hc.1.2.1 hdg (k H locs ls hP hD hS hl)
theorem j_ior (hc : CX p l e R s m args below meth c D cs sa A cc nL own ret) {x y : Int32} (hdg : decode cc pc = .ok (.ior, 1)) (k : J p l e R s m args below meth c D A nL cells slots Q w (pc + 1) lv (.int (x ||| y) :: st)) : J p l e R s m args below meth c D A nL cells slots Q w pc lv (.int y :: .int x :: st) := fun H locs ls hP hD hS hl => lv_ior hc.1.1 hc.1.2.1 hdg (k H locs ls hP hD hS hl)
theorem j_ixor (hc : CX p l e R s m args below meth c D cs sa A cc nL own ret) {x y : Int32} (hdg : decode cc pc = .ok (.ixor, 1)) (k : J p l e R s m args below meth c D A nL cells slots Q w (pc + 1) lv (.int (x ^^^ y) :: st)) : J p l e R s m args below meth c D A nL cells slots Q w pc lv (.int y :: .int x :: st) := fun H locs ls hP hD hS hl => lv_ixor hc.1.1 hc.1.2.1 hdg (k H locs ls hP hD hS hl)
theorem j_ishl (hc : CX p l e R s m args below meth c D cs sa A cc nL own ret) {x y : Int32} (hdg : decode cc pc = .ok (.ishl, 1)) (k : J p l e R s m args below meth c D A nL cells slots Q w (pc + 1) lv (.int (x <<< (y &&& 31)) :: st)) : J p l e R s m args below meth c D A nL cells slots Q w pc lv (.int y :: .int x :: st) := fun H locs ls hP hD hS hl => lv_ishl hc.1.1 hc.1.2.1 hdg (k H locs ls hP hD hS hl)
theorem j_ishr (hc : CX p l e R s m args below meth c D cs sa A cc nL own ret) {x y : Int32} (hdg : decode cc pc = .ok (.ishr, 1)) (k : J p l e R s m args below meth c D A nL cells slots Q w (pc + 1) lv (.int (x >>> (y &&& 31)) :: st)) : J p l e R s m args below meth c D A nL cells slots Q w pc lv (.int y :: .int x :: st) := fun H locs ls hP hD hS hl => lv_ishr hc.1.1 hc.1.2.1 hdg (k H locs ls hP hD hS hl)
theorem j_iushr (hc : CX p l e R s m args below meth c D cs sa A cc nL own ret) {x y : Int32} (hdg : decode cc pc = .ok (.iushr, 1)) (k : J p l e R s m args below meth c D A nL cells slots Q w (pc + 1) lv (.int (x.toUInt32 >>> (y.toUInt32 &&& Int32.toUInt32 31)).toInt32 :: st)) : J p l e R s m args below meth c D A nL cells slots Q w pc lv (.int y :: .int x :: st) := fun H locs ls hP hD hS hl => lv_iushr hc.1.1 hc.1.2.1 hdg rfl (k H locs ls hP hD hS hl)
theorem j_idiv (hc : CX p l e R s m args below meth c D cs sa A cc nL own ret) {x y : Int32} (hdg : decode cc pc = .ok (.idiv, 1)) (h0 : ¬ y = 0) (k : J p l e R s m args below meth c D A nL cells slots Q w (pc + 1) lv (.int (x / y) :: st)) : J p l e R s m args below meth c D A nL cells slots Q w pc lv (.int y :: .int x :: st) := fun H locs ls hP hD hS hl => lv_idiv hc.1.1 hc.1.2.1 hdg h0 (k H locs ls hP hD hS hl)
theorem j_irem (hc : CX p l e R s m args below meth c D cs sa A cc nL own ret) {x y : Int32} (hdg : decode cc pc = .ok (.irem, 1)) (h0 : ¬ y = 0) (k : J p l e R s m args below meth c D A nL cells slots Q w (pc + 1) lv (.int (x - x / y * y) :: st)) : J p l e R s m args below meth c D A nL cells slots Q w pc lv (.int y :: .int x :: st) := fun H locs ls hP hD hS hl => lv_irem hc.1.1 hc.1.2.1 hdg h0 (k H locs ls hP hD hS hl)
theorem j_i2l (hc : CX p l e R s m args below meth c D cs sa A cc nL own ret) {x : Int32} (hdg : decode cc pc = .ok (.i2l, 1)) (k : J p l e R s m args below meth c D A nL cells slots Q w (pc + 1) lv (.long x.toInt64 :: st)) : J p l e R s m args below meth c D A nL cells slots Q w pc lv (.int x :: st) := fun H locs ls hP hD hS hl => lv_i2l hc.1.1 hc.1.2.1 hdg rfl (k H locs ls hP hD hS hl)
theorem j_lshl (hc : CX p l e R s m args below meth c D cs sa A cc nL own ret) {x : Int64} {y : Int32} (hdg : decode cc pc = .ok (.lshl, 1)) (k : J p l e R s m args below meth c D A nL cells slots Q w (pc + 1) lv (.long (x <<< (y.toInt64 &&& 63)) :: st)) : J p l e R s m args below meth c D A nL cells slots Q w pc lv (.int y :: .long x :: st) := fun H locs ls hP hD hS hl => lv_lshl hc.1.1 hc.1.2.1 hdg rfl (k H locs ls hP hD hS hl)
theorem j_lushr (hc : CX p l e R s m args below meth c D cs sa A cc nL own ret) {x : Int64} {y : Int32} (hdg : decode cc pc = .ok (.lushr, 1)) (k : J p l e R s m args below meth c D A nL cells slots Q w (pc + 1) lv (.long (x.toUInt64 >>> (y.toInt64.toUInt64 &&& Int64.toUInt64 63)).toInt64 :: st)) : J p l e R s m args below meth c D A nL cells slots Q w pc lv (.int y :: .long x :: st) := fun H locs ls hP hD hS hl => lv_lushr hc.1.1 hc.1.2.1 hdg rfl (k H locs ls hP hD hS hl)
theorem j_land (hc : CX p l e R s m args below meth c D cs sa A cc nL own ret) {x y : Int64} (hdg : decode cc pc = .ok (.land, 1)) (k : J p l e R s m args below meth c D A nL cells slots Q w (pc + 1) lv (.long (x &&& y) :: st)) : J p l e R s m args below meth c D A nL cells slots Q w pc lv (.long y :: .long x :: st) := fun H locs ls hP hD hS hl => lv_land hc.1.1 hc.1.2.1 hdg (k H locs ls hP hD hS hl)
theorem j_lor (hc : CX p l e R s m args below meth c D cs sa A cc nL own ret) {x y : Int64} (hdg : decode cc pc = .ok (.lor, 1)) (k : J p l e R s m args below meth c D A nL cells slots Q w (pc + 1) lv (.long (x ||| y) :: st)) : J p l e R s m args below meth c D A nL cells slots Q w pc lv (.long y :: .long x :: st) := fun H locs ls hP hD hS hl => lv_lor hc.1.1 hc.1.2.1 hdg (k H locs ls hP hD hS hl)
theorem j_lcmp (hc : CX p l e R s m args below meth c D cs sa A cc nL own ret) {x y : Int64} (hdg : decode cc pc = .ok (.lcmp, 1)) (k : J p l e R s m args below meth c D A nL cells slots Q w (pc + 1) lv (.int (lg_cmp x y) :: st)) : J p l e R s m args below meth c D A nL cells slots Q w pc lv (.long y :: .long x :: st) := fun H locs ls hP hD hS hl => W.lcmp hc.1.1 hc.1.2.1 hdg (k H locs ls hP hD hS hl)
theorem j_dup (hc : CX p l e R s m args below meth c D cs sa A cc nL own ret) {v : Value} (hdg : decode cc pc = .ok (.dup, 1)) (hv : v.category = 1) (k : J p l e R s m args below meth c D A nL cells slots Q w (pc + 1) lv (v :: v :: st)) : J p l e R s m args below meth c D A nL cells slots Q w pc lv (v :: st) := fun H locs ls hP hD hS hl => lv_dup hc.1.1 hc.1.2.1 hdg hv (k H locs ls hP hD hS hl)
theorem j_dup2 (hc : CX p l e R s m args below meth c D cs sa A cc nL own ret) {v u : Value} (hdg : decode cc pc = .ok (.dup2, 1)) (hv : v.category = 1) (hu : u.category = 1) (k : J p l e R s m args below meth c D A nL cells slots Q w (pc + 1) lv (v :: u :: v :: u :: st)) : J p l e R s m args below meth c D A nL cells slots Q w pc lv (v :: u :: st) := fun H locs ls hP hD hS hl => lv_dup2_11 hc.1.1 hc.1.2.1 hdg hv hu (k H locs ls hP hD hS hl)
theorem j_pop (hc : CX p l e R s m args below meth c D cs sa A cc nL own ret) {v : Value} (hdg : decode cc pc = .ok (.pop, 1)) (hv : v.category = 1) (k : J p l e R s m args below meth c D A nL cells slots Q w (pc + 1) lv st) : J p l e R s m args below meth c D A nL cells slots Q w pc lv (v :: st) := fun H locs ls hP hD hS hl => lv_pop hc.1.1 hc.1.2.1 hdg hv (k H locs ls hP hD hS hl)
theorem j_if_eq (hc : CX p l e R s m args below meth c D cs sa A cc nL own ret) {x : Int32} {off : Int} (tgt : Nat) (hdg : decode cc pc = .ok (.ifCond .eq off, 3)) (ht : (pc : Int) + off = (tgt : Int)) (kt : x = 0 → J p l e R s m args below meth c D A nL cells slots Q w tgt lv st) (kf : ¬ x = 0 → J p l e R s m args below meth c D A nL cells slots Q w (pc + 3) lv st) : J p l e R s m args below meth c D A nL cells slots Q w pc lv (.int x :: st) := fun H locs ls hP hD hS hl => lv_if_eq hc.1.1 hc.1.2.1 hdg ht (fun z => kt z H locs ls hP hD hS hl) (fun z => kf z H locs ls hP hD hS hl)
theorem j_icmp_eq (hc : CX p l e R s m args below meth c D cs sa A cc nL own ret) {x y : Int32} {off : Int} (tgt : Nat) (hdg : decode cc pc = .ok (.if_icmp .eq off, 3)) (ht : (pc : Int) + off = (tgt : Int)) (kt : x = y → J p l e R s m args below meth c D A nL cells slots Q w tgt lv st) (kf : ¬ x = y → J p l e R s m args below meth c D A nL cells slots Q w (pc + 3) lv st) : J p l e R s m args below meth c D A nL cells slots Q w pc lv (.int y :: .int x :: st) := fun H locs ls hP hD hS hl => lv_icmp_eq hc.1.1 hc.1.2.1 hdg ht (fun z => kt z H locs ls hP hD hS hl) (fun z => kf z H locs ls hP hD hS hl)
theorem j_if_ne (hc : CX p l e R s m args below meth c D cs sa A cc nL own ret) {x : Int32} {off : Int} (tgt : Nat) (hdg : decode cc pc = .ok (.ifCond .ne off, 3)) (ht : (pc : Int) + off = (tgt : Int)) (kt : ¬ x = 0 → J p l e R s m args below meth c D A nL cells slots Q w tgt lv st) (kf : x = 0 → J p l e R s m args below meth c D A nL cells slots Q w (pc + 3) lv st) : J p l e R s m args below meth c D A nL cells slots Q w pc lv (.int x :: st) := fun H locs ls hP hD hS hl => lv_if_ne hc.1.1 hc.1.2.1 hdg ht (fun z => kt z H locs ls hP hD hS hl) (fun z => kf z H locs ls hP hD hS hl)
theorem j_icmp_ne (hc : CX p l e R s m args below meth c D cs sa A cc nL own ret) {x y : Int32} {off : Int} (tgt : Nat) (hdg : decode cc pc = .ok (.if_icmp .ne off, 3)) (ht : (pc : Int) + off = (tgt : Int)) (kt : ¬ x = y → J p l e R s m args below meth c D A nL cells slots Q w tgt lv st) (kf : x = y → J p l e R s m args below meth c D A nL cells slots Q w (pc + 3) lv st) : J p l e R s m args below meth c D A nL cells slots Q w pc lv (.int y :: .int x :: st) := fun H locs ls hP hD hS hl => lv_icmp_ne hc.1.1 hc.1.2.1 hdg ht (fun z => kt z H locs ls hP hD hS hl) (fun z => kf z H locs ls hP hD hS hl)
theorem j_if_lt (hc : CX p l e R s m args below meth c D cs sa A cc nL own ret) {x : Int32} {off : Int} (tgt : Nat) (hdg : decode cc pc = .ok (.ifCond .lt off, 3)) (ht : (pc : Int) + off = (tgt : Int)) (kt : x < 0 → J p l e R s m args below meth c D A nL cells slots Q w tgt lv st) (kf : ¬ x < 0 → J p l e R s m args below meth c D A nL cells slots Q w (pc + 3) lv st) : J p l e R s m args below meth c D A nL cells slots Q w pc lv (.int x :: st) := fun H locs ls hP hD hS hl => lv_if_lt hc.1.1 hc.1.2.1 hdg ht (fun z => kt z H locs ls hP hD hS hl) (fun z => kf z H locs ls hP hD hS hl)
theorem j_icmp_lt (hc : CX p l e R s m args below meth c D cs sa A cc nL own ret) {x y : Int32} {off : Int} (tgt : Nat) (hdg : decode cc pc = .ok (.if_icmp .lt off, 3)) (ht : (pc : Int) + off = (tgt : Int)) (kt : x < y → J p l e R s m args below meth c D A nL cells slots Q w tgt lv st) (kf : ¬ x < y → J p l e R s m args below meth c D A nL cells slots Q w (pc + 3) lv st) : J p l e R s m args below meth c D A nL cells slots Q w pc lv (.int y :: .int x :: st) := fun H locs ls hP hD hS hl => lv_icmp_lt hc.1.1 hc.1.2.1 hdg ht (fun z => kt z H locs ls hP hD hS hl) (fun z => kf z H locs ls hP hD hS hl)
theorem j_if_ge (hc : CX p l e R s m args below meth c D cs sa A cc nL own ret) {x : Int32} {off : Int} (tgt : Nat) (hdg : decode cc pc = .ok (.ifCond .ge off, 3)) (ht : (pc : Int) + off = (tgt : Int)) (kt : 0 ≤ x → J p l e R s m args below meth c D A nL cells slots Q w tgt lv st) (kf : ¬ 0 ≤ x → J p l e R s m args below meth c D A nL cells slots Q w (pc + 3) lv st) : J p l e R s m args below meth c D A nL cells slots Q w pc lv (.int x :: st) := fun H locs ls hP hD hS hl => lv_if_ge hc.1.1 hc.1.2.1 hdg ht (fun z => kt z H locs ls hP hD hS hl) (fun z => kf z H locs ls hP hD hS hl)
theorem j_icmp_ge (hc : CX p l e R s m args below meth c D cs sa A cc nL own ret) {x y : Int32} {off : Int} (tgt : Nat) (hdg : decode cc pc = .ok (.if_icmp .ge off, 3)) (ht : (pc : Int) + off = (tgt : Int)) (kt : y ≤ x → J p l e R s m args below meth c D A nL cells slots Q w tgt lv st) (kf : ¬ y ≤ x → J p l e R s m args below meth c D A nL cells slots Q w (pc + 3) lv st) : J p l e R s m args below meth c D A nL cells slots Q w pc lv (.int y :: .int x :: st) := fun H locs ls hP hD hS hl => lv_icmp_ge hc.1.1 hc.1.2.1 hdg ht (fun z => kt z H locs ls hP hD hS hl) (fun z => kf z H locs ls hP hD hS hl)
theorem j_if_gt (hc : CX p l e R s m args below meth c D cs sa A cc nL own ret) {x : Int32} {off : Int} (tgt : Nat) (hdg : decode cc pc = .ok (.ifCond .gt off, 3)) (ht : (pc : Int) + off = (tgt : Int)) (kt : 0 < x → J p l e R s m args below meth c D A nL cells slots Q w tgt lv st) (kf : ¬ 0 < x → J p l e R s m args below meth c D A nL cells slots Q w (pc + 3) lv st) : J p l e R s m args below meth c D A nL cells slots Q w pc lv (.int x :: st) := fun H locs ls hP hD hS hl => lv_if_gt hc.1.1 hc.1.2.1 hdg ht (fun z => kt z H locs ls hP hD hS hl) (fun z => kf z H locs ls hP hD hS hl)
theorem j_icmp_gt (hc : CX p l e R s m args below meth c D cs sa A cc nL own ret) {x y : Int32} {off : Int} (tgt : Nat) (hdg : decode cc pc = .ok (.if_icmp .gt off, 3)) (ht : (pc : Int) + off = (tgt : Int)) (kt : y < x → J p l e R s m args below meth c D A nL cells slots Q w tgt lv st) (kf : ¬ y < x → J p l e R s m args below meth c D A nL cells slots Q w (pc + 3) lv st) : J p l e R s m args below meth c D A nL cells slots Q w pc lv (.int y :: .int x :: st) := fun H locs ls hP hD hS hl => lv_icmp_gt hc.1.1 hc.1.2.1 hdg ht (fun z => kt z H locs ls hP hD hS hl) (fun z => kf z H locs ls hP hD hS hl)
theorem j_if_le (hc : CX p l e R s m args below meth c D cs sa A cc nL own ret) {x : Int32} {off : Int} (tgt : Nat) (hdg : decode cc pc = .ok (.ifCond .le off, 3)) (ht : (pc : Int) + off = (tgt : Int)) (kt : x ≤ 0 → J p l e R s m args below meth c D A nL cells slots Q w tgt lv st) (kf : ¬ x ≤ 0 → J p l e R s m args below meth c D A nL cells slots Q w (pc + 3) lv st) : J p l e R s m args below meth c D A nL cells slots Q w pc lv (.int x :: st) := fun H locs ls hP hD hS hl => lv_if_le hc.1.1 hc.1.2.1 hdg ht (fun z => kt z H locs ls hP hD hS hl) (fun z => kf z H locs ls hP hD hS hl)
theorem j_icmp_le (hc : CX p l e R s m args below meth c D cs sa A cc nL own ret) {x y : Int32} {off : Int} (tgt : Nat) (hdg : decode cc pc = .ok (.if_icmp .le off, 3)) (ht : (pc : Int) + off = (tgt : Int)) (kt : x ≤ y → J p l e R s m args below meth c D A nL cells slots Q w tgt lv st) (kf : ¬ x ≤ y → J p l e R s m args below meth c D A nL cells slots Q w (pc + 3) lv st) : J p l e R s m args below meth c D A nL cells slots Q w pc lv (.int y :: .int x :: st) := fun H locs ls hP hD hS hl => lv_icmp_le hc.1.1 hc.1.2.1 hdg ht (fun z => kt z H locs ls hP hD hS hl) (fun z => kf z H locs ls hP hD hS hl)
theorem j_goto (hc : CX p l e R s m args below meth c D cs sa A cc nL own ret) {off : Int} (tgt : Nat) (hdg : decode cc pc = .ok (.goto off, 3)) (ht : (pc : Int) + off = (tgt : Int)) (k : J p l e R s m args below meth c D A nL cells slots Q w tgt lv st) : J p l e R s m args below meth c D A nL cells slots Q w pc lv st := fun H locs ls hP hD hS hl => lv_goto hc.1.1 hc.1.2.1 hdg ht (k H locs ls hP hD hS hl)
theorem j_ifnull (hc : CX p l e R s m args below meth c D cs sa A cc nL own ret) {x : Nat} {off : Int} (hdg : decode cc pc = .ok (.ifnull off, 3)) (k : J p l e R s m args below meth c D A nL cells slots Q w (pc + 3) lv st) : J p l e R s m args below meth c D A nL cells slots Q w pc lv (.ref x :: st) := fun H locs ls hP hD hS hl => lv_ifnull hc.1.1 hc.1.2.1 hdg (k H locs ls hP hD hS hl)
theorem j_ifnullN (hc : CX p l e R s m args below meth c D cs sa A cc nL own ret) {off : Int} (tgt : Nat) (hdg : decode cc pc = .ok (.ifnull off, 3)) (ht : (pc : Int) + off = (tgt : Int)) (k : J p l e R s m args below meth c D A nL cells slots Q w tgt lv st) : J p l e R s m args below meth c D A nL cells slots Q w pc lv (.null :: st) := fun H locs ls hP hD hS hl => lv_ifnullN hc.1.1 hc.1.2.1 hdg ht (k H locs ls hP hD hS hl)
theorem j_ifnonnull (hc : CX p l e R s m args below meth c D cs sa A cc nL own ret) {x : Nat} {off : Int} (tgt : Nat) (hdg : decode cc pc = .ok (.ifnonnull off, 3)) (ht : (pc : Int) + off = (tgt : Int)) (k : J p l e R s m args below meth c D A nL cells slots Q w tgt lv st) : J p l e R s m args below meth c D A nL cells slots Q w pc lv (.ref x :: st) := fun H locs ls hP hD hS hl => lv_ifnonnull hc.1.1 hc.1.2.1 hdg ht (k H locs ls hP hD hS hl)
theorem j_ifnonnullN (hc : CX p l e R s m args below meth c D cs sa A cc nL own ret) {off : Int} (hdg : decode cc pc = .ok (.ifnonnull off, 3)) (k : J p l e R s m args below meth c D A nL cells slots Q w (pc + 3) lv st) : J p l e R s m args below meth c D A nL cells slots Q w pc lv (.null :: st) := fun H locs ls hP hD hS hl => lv_ifnonnullN hc.1.1 hc.1.2.1 hdg (k H locs ls hP hD hS hl)
theorem j_null (hc : CX p l e R s m args below meth c D cs sa A cc nL own ret) (hdg : decode cc pc = .ok (.aconst_null, 1)) (k : J p l e R s m args below meth c D A nL cells slots Q w (pc + 1) lv (.null :: st)) : J p l e R s m args below meth c D A nL cells slots Q w pc lv st := fun H locs ls hP hD hS hl => lv_null hc.1.1 hc.1.2.1 hdg (k H locs ls hP hD hS hl)
theorem j_ldc (hc : CX p l e R s m args below meth c D cs sa A cc nL own ret) {index : Nat} {v : Int32} (hm : Cond.constant own index v ∈ WT) (hdg : decode cc pc = .ok (.ldc index, 2)) (k : J p l e R s m args below meth c D A nL cells slots Q w (pc + 2) lv (.int v :: st)) : J p l e R s m args below meth c D A nL cells slots Q w pc lv st := fun H locs ls hP hD hS hl => lv_ldc hc.1.1 hc.1.2.1 hc.1.2.2.2.1 (hc.1.2.2.2.2 _ hm) hdg (k H locs ls hP hD hS hl)
def lvs (lv : List (Nat × Value)) : List (Nat × Value) → Prop
  | [] => True
  | q :: r => lgt lv q.1 = some q.2 ∧ lvs lv r
theorem lvs_mem {lv : List (Nat × Value)} : ∀ {l2 : List (Nat × Value)}, lvs lv l2 → ∀ q ∈ l2, lgt lv q.1 = some q.2
  | [], _, q, h => by cases h
  | x :: r, hh, q, h => by
    rcases List.mem_cons.mp h with rfl | h
    · exact hh.1
    · exact lvs_mem hh.2 q h
theorem j_lv (lv' : List (Nat × Value)) (h : lvs lv lv') (k : J p l e R s m args below meth c D A nL cells slots Q w pc lv' st) : J p l e R s m args below meth c D A nL cells slots Q w pc lv st := fun H locs ls hP hD hS hl => k H locs ls hP hD hS ⟨hl.1, hl.2.1, fun q hq => lgt_at hl (lvs_mem h q hq)⟩
theorem j_w {w' : va_W} (h : w = w') (k : J p l e R s m args below meth c D A nL cells slots Q w' pc lv st) : J p l e R s m args below meth c D A nL cells slots Q w pc lv st := h ▸ k
theorem j_wid {k9 n9 : Nat} (h1 : cells ≤ k9) (h2 : slots ≤ n9) (k : J p l e R s m args below meth c D A nL k9 n9 Q w pc lv st) : J p l e R s m args below meth c D A nL cells slots Q w pc lv st := fun H locs ls hP hD hS hl => W.widen h1 h2 (k H locs ls hP hD hS hl)
theorem j_st {st' : List Value} (h : st = st') (k : J p l e R s m args below meth c D A nL cells slots Q w pc lv st') : J p l e R s m args below meth c D A nL cells slots Q w pc lv st := h ▸ k
theorem j_getf (hc : CX p l e R s m args below meth c D cs sa A cc nL own ret) {ref K : String} {T : u_T} {N ci index : Nat} (hin : ∀ w ∈ u_ws K T N, w ∈ WT) (q0 : Nat) {a : Nat} {fs : List Value} (he : w[q0]? = some (a, .inr (ci, fs))) (hcl : vwCl[ci]? = some (K, T, N)) (k : Nat) (hk : k < N) (hlink : Cond.fieldLink own index ref (T k).2.1 (T k).2.2.1 ∈ WT) (hsame : (T k).1 = ref) {v : Value} (hv : fs[k]? = some v) (hdg : decode cc pc = .ok (.getfield index, 3)) (kk : J p l e R s m args below meth c D A nL cells slots Q w (pc + 3) lv (v :: st)) : J p l e R s m args below meth c D A nL cells slots Q w pc lv (.ref a :: st) := fun H locs ls hP hD hS hl =>
  va_get (D := D) hc.1.1 hc.1.2.1 hc.1.2.2.2.2 hin hc.1.2.2.2.1 hc.2.2.2.1 hP q0 he hcl k hk (hc.1.2.2.2.2 _ hlink) (fun x hx => by rw [← hsame]; exact hx) hv hdg (kk H locs ls hP hD hS hl)
theorem j_putf (hc : CX p l e R s m args below meth c D cs sa A cc nL own ret) {ref K : String} {T : u_T} {N ci index : Nat} (hin : ∀ w ∈ u_ws K T N, w ∈ WT) (ty0 : Nat → FieldType) (hty : ∀ k, k < N → parseFieldDescriptor (T k).2.2.1 = some (ty0 k)) (hnm : ∀ a, a < N → ∀ b, b < N → a ≠ b → (T a).2.1 ≠ (T b).2.1) (q0 : Nat) {a : Nat} {fs : List Value} (he : w[q0]? = some (a, .inr (ci, fs))) (hcl : vwCl[ci]? = some (K, T, N)) (k : Nat) (hk : k < N) (hlink : Cond.fieldLink own index ref (T k).2.1 (T k).2.2.1 ∈ WT) (hsame : (T k).1 = ref) (hfin : (T k).2.2.2 = false ∨ (T k).2.2.2 = true ∧ meth.name = "<init>" ∧ (T k).1 = own) {ty : FieldType} {v : Value} (hd : parseFieldDescriptor (T k).2.2.1 = some ty) (hn : narrow ty v = v) (hfit : fits ty v = true) (hl : k < fs.length) {w' : va_W} (hw : w.set q0 (a, .inr (ci, fs.set k v)) = w') (hdg : decode cc pc = .ok (.putfield index, 3)) (kk : J p l e R s m args below meth c D A nL cells slots Q w' (pc + 3) lv st) : J p l e R s m args below meth c D A nL cells slots Q w pc lv (v :: .ref a :: st) := fun H locs ls hP hD hS hlv => by
  subst hw
  rcases hfin with hf | ⟨hf, hi, ho⟩
  · exact va_put (D := D) hc.1.1 hc.1.2.1 hc.1.2.2.2.2 hin ty0 hty hnm hc.1.2.2.2.1 hc.2.2.2.1 hP hD hS q0 he hcl k hk (hc.1.2.2.2.2 _ hlink) (fun x hx => by rw [← hsame]; exact hx) hf hd hn hfit hl hdg (fun H1 locs1 hP hD hS => kk H1 locs1 ls hP hD hS hlv)
  · exact va_putF (D := D) hc.1.1 hc.1.2.1 hc.1.2.2.2.2 hin ty0 hty hnm hc.1.2.2.2.1 hc.2.2.2.1 hP hD hS q0 he hcl k hk (hc.1.2.2.2.2 _ hlink) (fun x hx => by rw [← hsame]; exact hx) hf hi ho hd hn hfit hl hdg (fun H1 locs1 hP hD hS => kk H1 locs1 ls hP hD hS hlv)
theorem j_iaload (hc : CX p l e R s m args below meth c D cs sa A cc nL own ret) (q0 : Nat) {a n : Nat} {f : Nat → Int32} (he : w[q0]? = some (a, .inl (cs 0, n, .inl f))) {i : Int32} (hin : vp_in i n) (hdg : decode cc pc = .ok (.iaload, 1)) (kk : J p l e R s m args below meth c D A nL cells slots Q w (pc + 1) lv (.int (f i.toNatClampNeg) :: st)) : J p l e R s m args below meth c D A nL cells slots Q w pc lv (.int i :: .ref a :: st) := fun H locs ls hP hD hS hl => va_iald hc.1.1 hc.1.2.1 hc.2.2.2.1 hP q0 0 he rfl hin hdg (kk H locs ls hP hD hS hl)
theorem j_laload (hc : CX p l e R s m args below meth c D cs sa A cc nL own ret) (q0 : Nat) {a n : Nat} {f : Nat → Int64} (he : w[q0]? = some (a, .inl (cs 1, n, .inr (.inl f)))) {i : Int32} (hin : vp_in i n) (hdg : decode cc pc = .ok (.laload, 1)) (kk : J p l e R s m args below meth c D A nL cells slots Q w (pc + 1) lv (.long (f i.toNatClampNeg) :: st)) : J p l e R s m args below meth c D A nL cells slots Q w pc lv (.int i :: .ref a :: st) := fun H locs ls hP hD hS hl => va_lald hc.1.1 hc.1.2.1 hc.2.2.2.1 hP q0 1 he rfl hin hdg (kk H locs ls hP hD hS hl)
theorem j_zaload (hc : CX p l e R s m args below meth c D cs sa A cc nL own ret) (q0 : Nat) {a n : Nat} {f : Nat → Int32} (he : w[q0]? = some (a, .inl (cs 2, n, .inl f))) {i : Int32} (hin : vp_in i n) (hdg : decode cc pc = .ok (.baload, 1)) (kk : J p l e R s m args below meth c D A nL cells slots Q w (pc + 1) lv (.int (f i.toNatClampNeg) :: st)) : J p l e R s m args below meth c D A nL cells slots Q w pc lv (.int i :: .ref a :: st) := fun H locs ls hP hD hS hl => va_zald hc.1.1 hc.1.2.1 hc.2.2.2.1 hP q0 2 he rfl hin hdg (kk H locs ls hP hD hS hl)
theorem j_iastore (hc : CX p l e R s m args below meth c D cs sa A cc nL own ret) (q0 : Nat) {a n : Nat} {f : Nat → Int32} (he : w[q0]? = some (a, .inl (cs 0, n, .inl f))) {i : Int32} {x : Int32} (hin : vp_in i n) {w' : va_W} (hw : w.set q0 (a, .inl (cs 0, n, .inl (upd f i.toNatClampNeg x))) = w') (hdg : decode cc pc = .ok (.iastore, 1)) (kk : J p l e R s m args below meth c D A nL cells slots Q w' (pc + 1) lv st) : J p l e R s m args below meth c D A nL cells slots Q w pc lv (.int x :: .int i :: .ref a :: st) := fun H locs ls hP hD hS hl => by
  subst hw
  exact va_iast hc.1.1 hc.1.2.1 hc.2.2.2.1 hP hD hS q0 0 he rfl hin hdg (fun H locs hP hD hS => kk H locs ls hP hD hS hl)
theorem j_lastore (hc : CX p l e R s m args below meth c D cs sa A cc nL own ret) (q0 : Nat) {a n : Nat} {f : Nat → Int64} (he : w[q0]? = some (a, .inl (cs 1, n, .inr (.inl f)))) {i : Int32} {x : Int64} (hin : vp_in i n) {w' : va_W} (hw : w.set q0 (a, .inl (cs 1, n, .inr (.inl (vp_updL f i.toNatClampNeg x)))) = w') (hdg : decode cc pc = .ok (.lastore, 1)) (kk : J p l e R s m args below meth c D A nL cells slots Q w' (pc + 1) lv st) : J p l e R s m args below meth c D A nL cells slots Q w pc lv (.long x :: .int i :: .ref a :: st) := fun H locs ls hP hD hS hl => by
  subst hw
  exact va_last hc.1.1 hc.1.2.1 hc.2.2.2.1 hP hD hS q0 1 he rfl hin hdg (fun H locs hP hD hS => kk H locs ls hP hD hS hl)
theorem j_zastore (hc : CX p l e R s m args below meth c D cs sa A cc nL own ret) (q0 : Nat) {a n : Nat} {f : Nat → Int32} (he : w[q0]? = some (a, .inl (cs 2, n, .inl f))) {i : Int32} {x : Int32} (hin : vp_in i n) {w' : va_W} (hw : w.set q0 (a, .inl (cs 2, n, .inl (upd f i.toNatClampNeg (vp_nar .boolean x)))) = w') (hdg : decode cc pc = .ok (.bastore, 1)) (kk : J p l e R s m args below meth c D A nL cells slots Q w' (pc + 1) lv st) : J p l e R s m args below meth c D A nL cells slots Q w pc lv (.int x :: .int i :: .ref a :: st) := fun H locs ls hP hD hS hl => by
  subst hw
  exact va_zast hc.1.1 hc.1.2.1 hc.2.2.2.1 hP hD hS q0 2 he rfl hin hdg (fun H locs hP hD hS => kk H locs ls hP hD hS hl)
theorem j_alen (hc : CX p l e R s m args below meth c D cs sa A cc nL own ret) (q0 t0 : Nat) {a : Nat} {cA : ClassId} {x : vp_A} (he : w[q0]? = some (a, .inl (cA, x))) {ty : FieldType} (ht : (tysW cs)[t0]? = some (cA, ty)) {v : Int32} (hv : Int32.ofNat x.1 = v) (hdg : decode cc pc = .ok (.arraylength, 1)) (kk : J p l e R s m args below meth c D A nL cells slots Q w (pc + 1) lv (.int v :: st)) : J p l e R s m args below meth c D A nL cells slots Q w pc lv (.ref a :: st) := fun H locs ls hP hD hS hl => va_alen hc.1.1 hc.1.2.1 hc.2.2.2.1 hP q0 t0 he ht hv hdg (kk H locs ls hP hD hS hl)
theorem j_aaload (hc : CX p l e R s m args below meth c D cs sa A cc nL own ret) (q0 t0 : Nat) {a n : Nat} {K : String} {cA : ClassId} {f : Nat → Option Nat} (he : w[q0]? = some (a, .inl (cA, n, .inr (.inr (.inr (.inr f)))))) (ht : (tysW cs)[t0]? = some (cA, .object K)) {i : Int32} (hin : vp_in i n) {v : Value} (hv : va_rf (f i.toNatClampNeg) = v) (hdg : decode cc pc = .ok (.aaload, 1)) (kk : J p l e R s m args below meth c D A nL cells slots Q w (pc + 1) lv (v :: st)) : J p l e R s m args below meth c D A nL cells slots Q w pc lv (.int i :: .ref a :: st) := fun H locs ls hP hD hS hl => va_aldq hc.1.1 hc.1.2.1 hc.2.2.2.1 hP q0 t0 he ht hin hdg (hv ▸ kk H locs ls hP hD hS hl)
theorem j_aastore (hc : CX p l e R s m args below meth c D cs sa A cc nL own ret) (q0 t0 qk ci : Nat) {a n v : Nat} {rr : vw_C} {cA : ClassId} {vs : List Value} {f : Nat → Option Nat} (he : w[q0]? = some (a, .inl (cA, n, .inr (.inr (.inr (.inr f)))))) (ht : (tysW cs)[t0]? = some (cA, .object rr.1)) (hv : w[qk]? = some (v, .inr (ci, vs))) (hcl : vwCl[ci]? = some rr) {i : Int32} (hin : vp_in i n) {w' : va_W} (hw : w.set q0 (a, .inl (cA, n, .inr (.inr (.inr (.inr (va_up f i.toNatClampNeg (some v))))))) = w') (hdg : decode cc pc = .ok (.aastore, 1)) (kk : J p l e R s m args below meth c D A nL cells slots Q w' (pc + 1) lv st) : J p l e R s m args below meth c D A nL cells slots Q w pc lv (.ref v :: .int i :: .ref a :: st) := fun H locs ls hP hD hS hl => by
  subst hw
  exact va_astq hc.1.1 hc.1.2.1 hc.2.2.2.1 hP hD hS q0 t0 qk ci he ht hv hcl hin hdg (fun H locs hP hD hS => kk H locs ls hP hD hS hl)
theorem j_end {mc ms : Nat} {w0 : va_W} {r : Rs} {v : Option Value} (hr : r = (none, v, w)) {H : Heap} {locs : List Loc} (hP : va_P D vwCl w H) (hD : va_D A w) (hS : va_S A s.heap H locs) : ∀ t : State, t.heap = H → s.WarmedH t.vm → QC D r A args s (.returned v) t := fun t ht _ => by
  subst hr
  subst ht
  exact ⟨⟨rfl, rfl, hP, hD⟩, hS.F rfl⟩
theorem j_iret (hc : CX p l e R s m args below meth c D cs sa A cc nL own ret) {mc ms : Nat} {w0 : va_W} {r : Rs} {v : Int32} (hret : ret = some .int) (h1 : cells ≤ mc) (h2 : slots ≤ ms) (hr : r = (none, some (.int v), w)) (hdg : decode cc pc = .ok (.ireturn, 1)) : J p l e R s m args below meth c D A nL cells slots (QE below args s D A mc ms w0 r) w pc lv [.int v] := fun H locs ls hP hD hS hl =>
  vx_ret (W.widen h1 h2 (W.iret hc.1.1 hc.1.2.1 (hc.2.1.trans hret) (j_end (mc := mc) (ms := ms) (w0 := w0) hr hP hD hS) hS.2.2 hdg hc.2.2.1))
theorem j_zret (hc : CX p l e R s m args below meth c D cs sa A cc nL own ret) {mc ms : Nat} {w0 : va_W} {r : Rs} {v : Int32} (hret : ret = some .boolean) (hn : narrow .boolean (.int v) = .int v) (h1 : cells ≤ mc) (h2 : slots ≤ ms) (hr : r = (none, some (.int v), w)) (hdg : decode cc pc = .ok (.ireturn, 1)) : J p l e R s m args below meth c D A nL cells slots (QE below args s D A mc ms w0 r) w pc lv [.int v] := fun H locs ls hP hD hS hl =>
  vx_ret (W.widen h1 h2 (W.zret hc.1.1 hc.1.2.1 (hc.2.1.trans hret) hn (j_end (mc := mc) (ms := ms) (w0 := w0) hr hP hD hS) hS.2.2 hdg hc.2.2.1))
theorem j_vret (hc : CX p l e R s m args below meth c D cs sa A cc nL own ret) {mc ms : Nat} {w0 : va_W} {r : Rs} (hret : ret = none) (h1 : cells ≤ mc) (h2 : slots ≤ ms) (hr : r = (none, none, w)) (hdg : decode cc pc = .ok (.return_, 1)) : J p l e R s m args below meth c D A nL cells slots (QE below args s D A mc ms w0 r) w pc lv [] := fun H locs ls hP hD hS hl =>
  vx_ret (W.widen h1 h2 (W.vret hc.1.1 hc.1.2.1 (hc.2.1.trans hret) (j_end (mc := mc) (ms := ms) (w0 := w0) hr hP hD hS) hS.2.2 hdg hc.2.2.1))
theorem j_aret (hc : CX p l e R s m args below meth c D cs sa A cc nL own ret) {mc ms : Nat} {w0 : va_W} {r : Rs} {x : Nat} {n : String} (hret : ret = some (.object n)) (h1 : cells ≤ mc) (h2 : slots ≤ ms) (hr : r = (none, some (.ref x), w)) (hdg : decode cc pc = .ok (.areturn, 1)) : J p l e R s m args below meth c D A nL cells slots (QE below args s D A mc ms w0 r) w pc lv [.ref x] := fun H locs ls hP hD hS hl =>
  vx_ret (W.widen h1 h2 (W.aret hc.1.1 hc.1.2.1 (hc.2.1.trans hret) (Or.inl ⟨_, rfl⟩) (Or.inr ⟨_, rfl⟩) (j_end (mc := mc) (ms := ms) (w0 := w0) hr hP hD hS) hS.2.2 hdg hc.2.2.1))
theorem jx_out (ho : ∀ x ∈ c.exceptionTable.toList, False) (hlk : meth.locks = false) {mc ms : Nat} {w0 : va_W} {r : Rs} {E : String} (h1 : cells ≤ mc) (h2 : slots ≤ ms) (hr : r.1 = some E ∧ w = w0) : JX p l e R s m args below meth c D A nL cells slots (QE below args s D A mc ms w0 r) w pc lv st E := fun H locs ls ce q hP hD hS hl hq hv hcl => by
  obtain ⟨hr, rfl⟩ := hr
  exact vx_out (fun x hx => (ho x hx).elim) hlk hq hv hcl (fun t ht _ => ⟨⟨hr, by rw [PO, ht]; exact ⟨hP, hD⟩⟩, hS.F ht⟩) hS.2.2 h1 h2
/-- what the tables say of a call by invokevirtual, invokestatic, invokespecial of a constructor -/
def VC (own : String) (index : Nat) (K : String) (y : MethodName) (cc : ByteArray) (maxL : Nat) (ret : Option FieldType) (n : Nat) : Prop := Cond.methodLink own index y ∈ WT ∧ Cond.instanceMethod y ∈ WT ∧ Cond.selects K y y ∈ WT ∧ Cond.initialized y.cls ∈ WT ∧ Cond.code y cc maxL ret ∈ WT ∧ y.cls = K ∧ y.cls ≠ "java/lang/invoke/MethodHandle" ∧ y.cls ≠ "java/lang/invoke/VarHandle" ∧ (parseMethodDescriptor y.desc).map (fun d => d.parameters.length) = some n
def SC (own : String) (index : Nat) (y : MethodName) (cc : ByteArray) (maxL : Nat) (ret : Option FieldType) (n : Nat) : Prop := Cond.methodLink own index y ∈ WT ∧ Cond.static y ∈ WT ∧ Cond.initialized y.cls ∈ WT ∧ Cond.code y cc maxL ret ∈ WT ∧ y.cls ≠ "java/lang/invoke/MethodHandle" ∧ y.cls ≠ "java/lang/invoke/VarHandle" ∧ (parseMethodDescriptor y.desc).map (fun d => d.parameters.length) = some n
def IC (own : String) (index : Nat) (y : MethodName) (cc : ByteArray) (maxL : Nat) (n : Nat) : Prop := Cond.methodLink own index y ∈ WT ∧ Cond.instanceMethod y ∈ WT ∧ Cond.initialized y.cls ∈ WT ∧ Cond.code y cc maxL none ∈ WT ∧ y.name = "<init>" ∧ y.cls ≠ "java/lang/invoke/MethodHandle" ∧ y.cls ≠ "java/lang/invoke/VarHandle" ∧ (parseMethodDescriptor y.desc).map (fun d => d.parameters.length) = some n
theorem j_run (hc : CX p l e R s m args below meth c D cs sa A cc nL own ret) {mc ms : Nat} {r : Rs} {a9 : Array Value} {st0 : List Value} {wc : va_W} (hr : ∀ (H : Heap) (locs : List Loc) (ls : Array Slot), va_P D vwCl w H → va_D A w → va_S A s.heap H locs → lv_has ls nL lv → vx_Run p l e R s m args below meth c H locs cells slots mc ms (F0 m pc ls st0) st (QC D r (va_A w H.size) a9) (XQ D w r (va_A w H.size)) (va_A w H.size))
    (kx : ∀ E, r.1 = some E → JX p l e R s m args below meth c D A nL (cells + mc) (slots + ms) Q w pc lv st E) (kk : r.1 = none → J p l e R s m args below meth c D A nL (cells + mc) (slots + ms) Q r.2.2 (pc + 3) lv (r.2.1.toList ++ st)) : J p l e R s m args below meth c D A nL cells slots Q w pc lv st0 := fun H locs ls hP hD hS hl => by
  have hF : ∀ q, va_A w H.size q → A q := fun q h => h.elim (fun ⟨k, e, h⟩ => hD.2 k _ h) (fun h => hc.2.2.2.2.1 q (Nat.le_trans hS.1 h))
  intro T hT X
  rcases hr H locs ls hP hD hS hl T hT X with ⟨v, st₀, t, T', L, h0, X', hL, e1, e2, ⟨⟨hn, hv, hP1, hD1⟩, hF1⟩, st⟩ | ⟨q, st₀, t, T', L, E, ce, h0, X', hL, e1, e2, ⟨⟨hE, hP1, hD1⟩, hF1⟩, hce, hcv, hcl, st⟩
  · cases hv
    obtain ⟨k1, k2, k3⟩ := vx_keep h0 e1 hS (fun q _ h => hF q h) hF hL hF1
    rw [← e1] at hP1
    obtain ⟨t2, a1, b1⟩ := kk hn T'.heap (locs ++ L) ls hP1 (hD1.weaken fun _ q _ h => hF _ h) k3 hl T' rfl X'
    exact ⟨t2, st t2 a1, b1⟩
  · obtain ⟨k1, k2, k3⟩ := vx_keep h0 e1 hS (fun q _ h => hF q h) hF hL hF1
    rw [← e1] at hP1 hce
    obtain ⟨t2, a1, b1⟩ := kx E hE T'.heap (locs ++ L) ls ce q hP1 (hD1.weaken fun _ q _ h => hF _ h) k3 hl hce hcv hcl T' rfl X'
    exact ⟨t2, st.trans a1, b1⟩
theorem j_pre (hc : CX p l e R s m args below meth c D cs sa A cc nL own ret) {av : List Value} {H : Heap} {locs : List Loc} (hP : va_P D vwCl w H) (hD : va_D A w) (hS : va_S A s.heap H locs) : PreS s H (va_Pc av (PR D cs sa w H.size)) av := by
  have hF : ∀ q, va_A w H.size q → A q := fun q h => h.elim (fun ⟨k, e, h⟩ => hD.2 k _ h) (fun h => hc.2.2.2.2.1 q (Nat.le_trans hS.1 h))
  exact ⟨PR.blind, fun U hU hW => ⟨rfl, by rw [hU], by rw [hU]; exact hP, va_K.moved hW.alike hc.2.2.2.1, hD.weaken (fun _ _ _ _ => trivial), ST.call hc.2.2.2.2.2.1 hS hF hU hW⟩⟩
theorem j_callV' (hc : CX p l e R s m args below meth c D cs sa A cc nL own ret) {y : MethodName} {cc2 : ByteArray} {maxL : Nat} {ret2 : Option FieldType} {rm : Room} {mc ms n index : Nat} {As : List Value} {r : Rs} {K : String} {b : Nat} (hM : CM l D cs sa y cc2 maxL ret2 rm mc ms (.ref b :: As) w r) (hv : VC own index K y cc2 maxL ret2 n) (hn : As.length = n) (hrm : rm.cells = mc ∧ rm.slots = ms ∧ rm.frames + 1 ≤ R.frames ∧ 8 + (maxL + 11) + rm.locals ≤ R.locals) (q0 : Nat) {ci : Nat} {fs : List Value} {T : u_T} {N : Nat} (he : w[q0]? = some (b, .inr (ci, fs))) (hcl : vwCl[ci]? = some (K, T, N)) {st0 : List Value} (hst : st0 = As.reverse ++ .ref b :: st) (hroom : (st.map fun v => v.category).sum ≤ 8) (hf : cells + mc ≤ R.cells ∧ slots + ms ≤ R.slots) (hdg : decode cc pc = .ok (.invokevirtual index, 3)) (kx : ∀ E, r.1 = some E → JX p l e R s m args below meth c D A nL (cells + mc) (slots + ms) Q w pc lv st E) (kk : r.1 = none → J p l e R s m args below meth c D A nL (cells + mc) (slots + ms) Q r.2.2 (pc + 3) lv (r.2.1.toList ++ st)) : J p l e R s m args below meth c D A nL cells slots Q w pc lv st0 := by
  obtain ⟨v1, v2, v3, v4, v5, v6, v7, v8, v9⟩ := hv
  refine j_run hc (wc := w) (a9 := (Value.ref b :: As).toArray) (fun H locs ls hP hD hS hl => ?_) kx kk
  obtain ⟨p1, p2⟩ := j_pre hc (av := .ref b :: As) hP hD hS
  exact vx_runV (As := As) (rest := st) (C := K) (Ts := WT) hc.1 (hM H.size) ⟨callB_of n hc.1.2.2.2.2 (wt_gi (ws := .code y cc2 maxL ret2 :: WT) (fun w h => (List.mem_cons.mp h).elim (fun h => h ▸ v5) id)) rfl hrm.1 hrm.2.1 (hc.1.2.2.2.2 _ v4) (hc.1.2.2.2.2 _ v1) ⟨v7, v8, v9⟩ hrm.2.2, hc.1.2.2.2.2 _ v2, hc.1.2.2.2.2 _ v3⟩ ⟨p1, va_recv hc.2.2.2.1 hP hcl he, p2⟩ rfl hn hl.1 hst (lv_room hroom) hdg hf
theorem j_callS' (hc : CX p l e R s m args below meth c D cs sa A cc nL own ret) {y : MethodName} {cc2 : ByteArray} {maxL : Nat} {ret2 : Option FieldType} {rm : Room} {mc ms n index : Nat} {As : List Value} {r : Rs} (hM : CM l D cs sa y cc2 maxL ret2 rm mc ms As w r) (hv : SC own index y cc2 maxL ret2 n) (hn : As.length = n) (hrm : rm.cells = mc ∧ rm.slots = ms ∧ rm.frames + 1 ≤ R.frames ∧ 8 + (maxL + 11) + rm.locals ≤ R.locals) {st0 : List Value} (hst : st0 = As.reverse ++ st) (hroom : (st.map fun v => v.category).sum ≤ 8) (hf : cells + mc ≤ R.cells ∧ slots + ms ≤ R.slots) (hdg : decode cc pc = .ok (.invokestatic index, 3)) (kx : ∀ E, r.1 = some E → JX p l e R s m args below meth c D A nL (cells + mc) (slots + ms) Q w pc lv st E) (kk : r.1 = none → J p l e R s m args below meth c D A nL (cells + mc) (slots + ms) Q r.2.2 (pc + 3) lv (r.2.1.toList ++ st)) : J p l e R s m args below meth c D A nL cells slots Q w pc lv st0 := by
  obtain ⟨v1, v2, v4, v5, v7, v8, v9⟩ := hv
  refine j_run hc (wc := w) (a9 := As.toArray) (fun H locs ls hP hD hS hl => ?_) kx kk
  exact vx_runS (As := As) (rest := st) (Ts := WT) hc.1 (hM H.size) ⟨callB_of n hc.1.2.2.2.2 (wt_gi (ws := .code y cc2 maxL ret2 :: WT) (fun w h => (List.mem_cons.mp h).elim (fun h => h ▸ v5) id)) rfl hrm.1 hrm.2.1 (hc.1.2.2.2.2 _ v4) (hc.1.2.2.2.2 _ v1) ⟨v7, v8, v9⟩ hrm.2.2, hc.1.2.2.2.2 _ v2⟩ (j_pre hc (av := As) hP hD hS) rfl hn hl.1 hst (lv_room hroom) hdg hf
theorem j_callV (hc : CX p l e R s m args below meth c D cs sa A cc nL own ret) {mc0 ms0 : Nat} {w0 : va_W} {r0 : Rs} (ho : ∀ x ∈ c.exceptionTable.toList, False) {y : MethodName} {cc2 : ByteArray} {maxL : Nat} {ret2 : Option FieldType} {rm : Room} {mc ms n index : Nat} {As : List Value} {r : Rs} {K : String} {b : Nat} (hM : CM l D cs sa y cc2 maxL ret2 rm mc ms (.ref b :: As) w r) (hv : VC own index K y cc2 maxL ret2 n) (hn : As.length = n) (hrm : rm.cells = mc ∧ rm.slots = ms ∧ rm.frames + 1 ≤ R.frames ∧ 8 + (maxL + 11) + rm.locals ≤ R.locals) (q0 : Nat) {ci : Nat} {fs : List Value} {T : u_T} {N : Nat} (he : w[q0]? = some (b, .inr (ci, fs))) (hcl : vwCl[ci]? = some (K, T, N)) {st0 : List Value} (hst : st0 = As.reverse ++ .ref b :: st) (hroom : (st.map fun v => v.category).sum ≤ 8) (hf : cells + mc ≤ R.cells ∧ slots + ms ≤ R.slots) (hdg : decode cc pc = .ok (.invokevirtual index, 3)) (hcs : cells + mc ≤ mc0 ∧ slots + ms ≤ ms0) (hx : ∀ E, r.1 = some E → r0.1 = some E ∧ w = w0) (kk : r.1 = none → J p l e R s m args below meth c D A nL (cells + mc) (slots + ms) (QE below args s D A mc0 ms0 w0 r0) r.2.2 (pc + 3) lv (r.2.1.toList ++ st)) : J p l e R s m args below meth c D A nL cells slots (QE below args s D A mc0 ms0 w0 r0) w pc lv st0 :=
  j_callV' hc hM hv hn hrm q0 he hcl hst hroom hf hdg (fun E h => jx_out ho hc.2.2.1 hcs.1 hcs.2 (hx E h)) kk
theorem j_callS (hc : CX p l e R s m args below meth c D cs sa A cc nL own ret) {mc0 ms0 : Nat} {w0 : va_W} {r0 : Rs} (ho : ∀ x ∈ c.exceptionTable.toList, False) {y : MethodName} {cc2 : ByteArray} {maxL : Nat} {ret2 : Option FieldType} {rm : Room} {mc ms n index : Nat} {As : List Value} {r : Rs} (hM : CM l D cs sa y cc2 maxL ret2 rm mc ms As w r) (hv : SC own index y cc2 maxL ret2 n) (hn : As.length = n) (hrm : rm.cells = mc ∧ rm.slots = ms ∧ rm.frames + 1 ≤ R.frames ∧ 8 + (maxL + 11) + rm.locals ≤ R.locals) {st0 : List Value} (hst : st0 = As.reverse ++ st) (hroom : (st.map fun v => v.category).sum ≤ 8) (hf : cells + mc ≤ R.cells ∧ slots + ms ≤ R.slots) (hdg : decode cc pc = .ok (.invokestatic index, 3)) (hcs : cells + mc ≤ mc0 ∧ slots + ms ≤ ms0) (hx : ∀ E, r.1 = some E → r0.1 = some E ∧ w = w0) (kk : r.1 = none → J p l e R s m args below meth c D A nL (cells + mc) (slots + ms) (QE below args s D A mc0 ms0 w0 r0) r.2.2 (pc + 3) lv (r.2.1.toList ++ st)) : J p l e R s m args below meth c D A nL cells slots (QE below args s D A mc0 ms0 w0 r0) w pc lv st0 :=
  j_callS' hc hM hv hn hrm hst hroom hf hdg (fun E h => jx_out ho hc.2.2.1 hcs.1 hcs.2 (hx E h)) kk
end JR
end
section
/-- the class's numbers: its own by their slots (4 to 11), weekdays 12, total 13, counts of gaps 14 to 17; rows: bills' fields 0 to 10 by bill, gaps 20 to 23, codes 30, failures 40 + bill; holidays -/
abbrev ES : Type := (Nat → Int32) × (Nat → Nat → Int32) × (Nat → Int64)
/-- the reference's numbers and rows, by their slots -/
abbrev MS : Type := (Nat → Int32) × (Nat → Nat → Int32)
def up2 (V : Nat → Nat → Int32) (k i : Nat) (v : Int32) : Nat → Nat → Int32 := va_up V k (upd (V k) i v)
def eG (E : ES) (k : Nat) (v : Int32) : ES := (upd E.1 k v, E.2.1, E.2.2)
def eV (E : ES) (k i : Nat) (v : Int32) : ES := (E.1, up2 E.2.1 k i v, E.2.2)
def eH (E : ES) (i : Nat) (v : Int64) : ES := (E.1, E.2.1, vp_updL E.2.2 i v)
def mG (S : MS) (k : Nat) (v : Int32) : MS := (upd S.1 k v, S.2)
def mA (S : MS) (k i : Nat) (v : Int32) : MS := (S.1, up2 S.2 k i v)
def gpf (ad : Nat → Nat) (i : Nat) : Option Nat := if i < 4 then some (ad (4 + 2 * i)) else none
def brf (ad : Nat → Nat) (n i : Nat) : Option Nat := if i < n then some (ad (33 + 2 * i)) else none
abbrev blf (ad : Nat → Nat) (E : ES) (b : Nat) : List Value := [.int (E.2.1 0 b), .int (E.2.1 1 b), .ref (ad (34 + 2 * b)), .int (E.2.1 3 b), .int (E.2.1 4 b), .int (E.2.1 5 b), .int (E.2.1 6 b), .int (E.2.1 7 b), .int (E.2.1 8 b), .int (E.2.1 9 b), .int (E.2.1 10 b)]
abbrev en1 (ad : Nat → Nat) (E : ES) (b : Nat) : Nat × va_E := (ad (33 + 2 * b), .inr (0, blf ad E b))
abbrev en2 (ad : Nat → Nat) (cs : Nat → ClassId) (E : ES) (b : Nat) : Nat × va_E := (ad (34 + 2 * b), .inl (cs 0, 4, .inl (E.2.1 (40 + b))))
def PL (f1 f2 : Nat → Nat × va_E) : Nat → va_W
  | 0 => []
  | b + 1 => PL f1 f2 b ++ [f1 b, f2 b]
def FX (ad : Nat → Nat) (cs : Nat → ClassId) (n : Nat) (E : ES) (S : MS) (o : Nat → Int64) : va_W := [
  (ad 0, .inr (4, [.ref (ad 1), .ref (ad 3), .ref (ad 12), .ref (ad 13), .int (E.1 4), .int (E.1 5), .int (E.1 6), .int (E.1 7), .int (E.1 8), .int (E.1 9), .int (E.1 10), .int (E.1 11)])),
  (ad 1, .inr (1, [.int (E.1 12), .ref (ad 2)])),
  (ad 2, .inl (cs 1, 485, .inr (.inl E.2.2))),
  (ad 3, .inl (cs 4, 4, .inr (.inr (.inr (.inr (gpf ad)))))),
  (ad 4, .inr (3, [.ref (ad 5), .int (E.1 14)])),
  (ad 5, .inl (cs 0, 6, .inl (E.2.1 20))),
  (ad 6, .inr (3, [.ref (ad 7), .int (E.1 15)])),
  (ad 7, .inl (cs 0, 6, .inl (E.2.1 21))),
  (ad 8, .inr (3, [.ref (ad 9), .int (E.1 16)])),
  (ad 9, .inl (cs 0, 6, .inl (E.2.1 22))),
  (ad 10, .inr (3, [.ref (ad 11), .int (E.1 17)])),
  (ad 11, .inl (cs 0, 6, .inl (E.2.1 23))),
  (ad 12, .inl (cs 3, 30, .inr (.inr (.inr (.inr (brf ad n)))))),
  (ad 13, .inr (2, [.ref (ad 14), .int (E.1 13)])),
  (ad 14, .inl (cs 0, 400, .inl (E.2.1 30))),
  (ad 15, .inr (5, [.int (S.1 0), .ref (ad 16), .ref (ad 17), .int (S.1 3), .ref (ad 18), .ref (ad 19), .int (S.1 6), .int (S.1 7), .int (S.1 8), .ref (ad 20), .ref (ad 21), .ref (ad 22), .ref (ad 23), .ref (ad 24), .ref (ad 25), .ref (ad 26), .ref (ad 27), .ref (ad 28), .ref (ad 29), .ref (ad 30), .int (S.1 20), .int (S.1 21), .int (S.1 22), .ref (ad 31), .int (S.1 24), .int (S.1 25)])),
  (ad 16, .inl (cs 2, 7, .inl (S.2 1))),
  (ad 17, .inl (cs 0, 1024, .inl (S.2 2))),
  (ad 18, .inl (cs 0, 30, .inl (S.2 4))),
  (ad 19, .inl (cs 0, 5, .inl (S.2 5))),
  (ad 20, .inl (cs 0, 30, .inl (S.2 9))),
  (ad 21, .inl (cs 0, 30, .inl (S.2 10))),
  (ad 22, .inl (cs 0, 30, .inl (S.2 11))),
  (ad 23, .inl (cs 0, 30, .inl (S.2 12))),
  (ad 24, .inl (cs 0, 30, .inl (S.2 13))),
  (ad 25, .inl (cs 0, 30, .inl (S.2 14))),
  (ad 26, .inl (cs 0, 150, .inl (S.2 15))),
  (ad 27, .inl (cs 0, 30, .inl (S.2 16))),
  (ad 28, .inl (cs 0, 30, .inl (S.2 17))),
  (ad 29, .inl (cs 0, 30, .inl (S.2 18))),
  (ad 30, .inl (cs 0, 30, .inl (S.2 19))),
  (ad 31, .inl (cs 0, 400, .inl (S.2 23))),
  (ad 32, .inl (cs 1, 1, .inr (.inl o)))]
/-- THE WORLD: class, reference and the law's own row -/
def WD (ad : Nat → Nat) (cs : Nat → ClassId) (n : Nat) (E : ES) (S : MS) (o : Nat → Int64) : va_W := FX ad cs n E S o ++ PL (en1 ad E) (en2 ad cs E) n
theorem pl_len (f1 f2 : Nat → Nat × va_E) : ∀ n, (PL f1 f2 n).length = 2 * n
  | 0 => rfl
  | n + 1 => by simp [PL, pl_len f1 f2 n]; omega
theorem pl_get1 (f1 f2 : Nat → Nat × va_E) : ∀ (n b : Nat), b < n → (PL f1 f2 n)[2 * b]? = some (f1 b)
  | 0, _, h => absurd h (Nat.not_lt_zero _)
  | n + 1, b, h => by
    unfold PL
    by_cases hb : b < n
    · rw [List.getElem?_append_left (by rw [pl_len]; omega)]; exact pl_get1 f1 f2 n b hb
    · have : b = n := by omega
      subst this
      rw [List.getElem?_append_right (by rw [pl_len]; omega), pl_len, Nat.sub_self]; rfl
theorem pl_get2 (f1 f2 : Nat → Nat × va_E) : ∀ (n b : Nat), b < n → (PL f1 f2 n)[2 * b + 1]? = some (f2 b)
  | 0, _, h => absurd h (Nat.not_lt_zero _)
  | n + 1, b, h => by
    unfold PL
    by_cases hb : b < n
    · rw [List.getElem?_append_left (by rw [pl_len]; omega)]; exact pl_get2 f1 f2 n b hb
    · have : b = n := by omega
      subst this
      rw [List.getElem?_append_right (by rw [pl_len]; omega), pl_len, show 2 * b + 1 - 2 * b = 1 by omega]; rfl
theorem pl_congr {f1 f2 g1 g2 : Nat → Nat × va_E} : ∀ n, (∀ j, j < n → f1 j = g1 j ∧ f2 j = g2 j) → PL f1 f2 n = PL g1 g2 n
  | 0, _ => rfl
  | n + 1, h => by
    unfold PL
    rw [pl_congr n (fun j hj => h j (by omega)), (h n (by omega)).1, (h n (by omega)).2]
theorem pl_set1 (f1 f2 : Nat → Nat × va_E) (x : Nat × va_E) : ∀ (n b : Nat), b < n → (PL f1 f2 n).set (2 * b) x = PL (fun j => if j = b then x else f1 j) f2 n
  | 0, _, h => absurd h (Nat.not_lt_zero _)
  | n + 1, b, h => by
    unfold PL
    by_cases hb : b < n
    · rw [List.set_append_left _ _ (by rw [pl_len]; omega), pl_set1 f1 f2 x n b hb, if_neg (by omega)]
    · have : b = n := by omega
      subst this
      rw [List.set_append_right _ _ (by rw [pl_len]; omega), pl_len, Nat.sub_self, if_pos rfl]
      rw [pl_congr (f1 := f1) (g1 := fun j => if j = b then x else f1 j) (f2 := f2) (g2 := f2) b (fun j hj => ⟨by rw [if_neg (by omega)], rfl⟩)]
      rfl
theorem pl_set2 (f1 f2 : Nat → Nat × va_E) (x : Nat × va_E) : ∀ (n b : Nat), b < n → (PL f1 f2 n).set (2 * b + 1) x = PL f1 (fun j => if j = b then x else f2 j) n
  | 0, _, h => absurd h (Nat.not_lt_zero _)
  | n + 1, b, h => by
    unfold PL
    by_cases hb : b < n
    · rw [List.set_append_left _ _ (by rw [pl_len]; omega), pl_set2 f1 f2 x n b hb, if_neg (by omega)]
    · have : b = n := by omega
      subst this
      rw [List.set_append_right _ _ (by rw [pl_len]; omega), pl_len, show 2 * b + 1 - 2 * b = 1 by omega, if_pos rfl]
      rw [pl_congr (f1 := f1) (g1 := f1) (f2 := f2) (g2 := fun j => if j = b then x else f2 j) b (fun j hj => ⟨rfl, by rw [if_neg (by omega)]⟩)]
      rfl
section WDS
variable {ad : Nat → Nat} {cs : Nat → ClassId} {n : Nat} {E : ES} {S : MS} {o : Nat → Int64}
theorem wd_bill {b : Nat} (h : b < n) : (WD ad cs n E S o)[33 + 2 * b]? = some (en1 ad E b) := by
  unfold WD
  rw [List.getElem?_append_right (by show 33 ≤ _; omega), show 33 + 2 * b - (FX ad cs n E S o).length = 2 * b by show 33 + 2 * b - 33 = _; omega]
  exact pl_get1 _ _ n b h
theorem wd_fail {b : Nat} (h : b < n) : (WD ad cs n E S o)[34 + 2 * b]? = some (en2 ad cs E b) := by
  unfold WD
  rw [List.getElem?_append_right (by show 33 ≤ _; omega), show 34 + 2 * b - (FX ad cs n E S o).length = 2 * b + 1 by show 34 + 2 * b - 33 = _; omega]
  exact pl_get2 _ _ n b h
theorem wd_gap : ∀ {i : Nat}, i < 4 → (WD ad cs n E S o)[4 + 2 * i]? = some (ad (4 + 2 * i), .inr (3, [.ref (ad (5 + 2 * i)), .int (E.1 (14 + i))]))
  | 0, _ => rfl
  | 1, _ => rfl
  | 2, _ => rfl
  | 3, _ => rfl
  | i + 4, h => absurd h (by omega)
theorem wd_gapd : ∀ {i : Nat}, i < 4 → (WD ad cs n E S o)[5 + 2 * i]? = some (ad (5 + 2 * i), .inl (cs 0, 6, .inl (E.2.1 (20 + i))))
  | 0, _ => rfl
  | 1, _ => rfl
  | 2, _ => rfl
  | 3, _ => rfl
  | i + 4, h => absurd h (by omega)
/-- the bills alone have changed -/
theorem wd_set1 {E' : ES} {b : Nat} {x : Nat × va_E} (h : b < n) (hF : FX ad cs n E S o = FX ad cs n E' S o) (h1 : ∀ j, j < n → (if j = b then x else en1 ad E j) = en1 ad E' j) (h2 : ∀ j, j < n → en2 ad cs E j = en2 ad cs E' j) : (WD ad cs n E S o).set (33 + 2 * b) x = WD ad cs n E' S o := by
  unfold WD
  rw [List.set_append_right _ _ (by show 33 ≤ _; omega), show 33 + 2 * b - (FX ad cs n E S o).length = 2 * b by show 33 + 2 * b - 33 = _; omega, pl_set1 _ _ x n b h, hF]
  exact congrArg _ (pl_congr n fun j hj => ⟨h1 j hj, h2 j hj⟩)
theorem wd_set2 {E' : ES} {b : Nat} {x : Nat × va_E} (h : b < n) (hF : FX ad cs n E S o = FX ad cs n E' S o) (h1 : ∀ j, j < n → en1 ad E j = en1 ad E' j) (h2 : ∀ j, j < n → (if j = b then x else en2 ad cs E j) = en2 ad cs E' j) : (WD ad cs n E S o).set (34 + 2 * b) x = WD ad cs n E' S o := by
  unfold WD
  rw [List.set_append_right _ _ (by show 33 ≤ _; omega), show 34 + 2 * b - (FX ad cs n E S o).length = 2 * b + 1 by show 34 + 2 * b - 33 = _; omega, pl_set2 _ _ x n b h, hF]
  exact congrArg _ (pl_congr n fun j hj => ⟨h1 j hj, h2 j hj⟩)
theorem ws_b0 {b : Nat} {v : Int32} (h : b < n) : (WD ad cs n E S o).set (33 + 2 * b) (ad (33 + 2 * b), .inr (0, (blf ad E b).set 0 (.int v))) = WD ad cs n (eV E 0 b v) S o := by
  refine wd_set1 h rfl (fun j _ => ?_) (fun j _ => ?_)
  · by_cases hj : j = b
    · subst hj; simp [en1, blf, eV, up2, va_up, upd]
    · rw [if_neg hj]; simp [en1, blf, eV, up2, va_up, upd, hj]
  · have : ¬ 40 + j = 0 := by omega
    simp [en2, eV, up2, va_up, this]
theorem ws_b1 {b : Nat} {v : Int32} (h : b < n) : (WD ad cs n E S o).set (33 + 2 * b) (ad (33 + 2 * b), .inr (0, (blf ad E b).set 1 (.int v))) = WD ad cs n (eV E 1 b v) S o := by
  refine wd_set1 h rfl (fun j _ => ?_) (fun j _ => ?_)
  · by_cases hj : j = b
    · subst hj; simp [en1, blf, eV, up2, va_up, upd]
    · rw [if_neg hj]; simp [en1, blf, eV, up2, va_up, upd, hj]
  · have : ¬ 40 + j = 1 := by omega
    simp [en2, eV, up2, va_up, this]
theorem ws_b3 {b : Nat} {v : Int32} (h : b < n) : (WD ad cs n E S o).set (33 + 2 * b) (ad (33 + 2 * b), .inr (0, (blf ad E b).set 3 (.int v))) = WD ad cs n (eV E 3 b v) S o := by
  refine wd_set1 h rfl (fun j _ => ?_) (fun j _ => ?_)
  · by_cases hj : j = b
    · subst hj; simp [en1, blf, eV, up2, va_up, upd]
    · rw [if_neg hj]; simp [en1, blf, eV, up2, va_up, upd, hj]
  · have : ¬ 40 + j = 3 := by omega
    simp [en2, eV, up2, va_up, this]
theorem ws_b4 {b : Nat} {v : Int32} (h : b < n) : (WD ad cs n E S o).set (33 + 2 * b) (ad (33 + 2 * b), .inr (0, (blf ad E b).set 4 (.int v))) = WD ad cs n (eV E 4 b v) S o := by
  refine wd_set1 h rfl (fun j _ => ?_) (fun j _ => ?_)
  · by_cases hj : j = b
    · subst hj; simp [en1, blf, eV, up2, va_up, upd]
    · rw [if_neg hj]; simp [en1, blf, eV, up2, va_up, upd, hj]
  · have : ¬ 40 + j = 4 := by omega
    simp [en2, eV, up2, va_up, this]
theorem ws_b5 {b : Nat} {v : Int32} (h : b < n) : (WD ad cs n E S o).set (33 + 2 * b) (ad (33 + 2 * b), .inr (0, (blf ad E b).set 5 (.int v))) = WD ad cs n (eV E 5 b v) S o := by
  refine wd_set1 h rfl (fun j _ => ?_) (fun j _ => ?_)
  · by_cases hj : j = b
    · subst hj; simp [en1, blf, eV, up2, va_up, upd]
    · rw [if_neg hj]; simp [en1, blf, eV, up2, va_up, upd, hj]
  · have : ¬ 40 + j = 5 := by omega
    simp [en2, eV, up2, va_up, this]
theorem ws_b6 {b : Nat} {v : Int32} (h : b < n) : (WD ad cs n E S o).set (33 + 2 * b) (ad (33 + 2 * b), .inr (0, (blf ad E b).set 6 (.int v))) = WD ad cs n (eV E 6 b v) S o := by
  refine wd_set1 h rfl (fun j _ => ?_) (fun j _ => ?_)
  · by_cases hj : j = b
    · subst hj; simp [en1, blf, eV, up2, va_up, upd]
    · rw [if_neg hj]; simp [en1, blf, eV, up2, va_up, upd, hj]
  · have : ¬ 40 + j = 6 := by omega
    simp [en2, eV, up2, va_up, this]
theorem ws_b7 {b : Nat} {v : Int32} (h : b < n) : (WD ad cs n E S o).set (33 + 2 * b) (ad (33 + 2 * b), .inr (0, (blf ad E b).set 7 (.int v))) = WD ad cs n (eV E 7 b v) S o := by
  refine wd_set1 h rfl (fun j _ => ?_) (fun j _ => ?_)
  · by_cases hj : j = b
    · subst hj; simp [en1, blf, eV, up2, va_up, upd]
    · rw [if_neg hj]; simp [en1, blf, eV, up2, va_up, upd, hj]
  · have : ¬ 40 + j = 7 := by omega
    simp [en2, eV, up2, va_up, this]
theorem ws_b8 {b : Nat} {v : Int32} (h : b < n) : (WD ad cs n E S o).set (33 + 2 * b) (ad (33 + 2 * b), .inr (0, (blf ad E b).set 8 (.int v))) = WD ad cs n (eV E 8 b v) S o := by
  refine wd_set1 h rfl (fun j _ => ?_) (fun j _ => ?_)
  · by_cases hj : j = b
    · subst hj; simp [en1, blf, eV, up2, va_up, upd]
    · rw [if_neg hj]; simp [en1, blf, eV, up2, va_up, upd, hj]
  · have : ¬ 40 + j = 8 := by omega
    simp [en2, eV, up2, va_up, this]
theorem ws_b9 {b : Nat} {v : Int32} (h : b < n) : (WD ad cs n E S o).set (33 + 2 * b) (ad (33 + 2 * b), .inr (0, (blf ad E b).set 9 (.int v))) = WD ad cs n (eV E 9 b v) S o := by
  refine wd_set1 h rfl (fun j _ => ?_) (fun j _ => ?_)
  · by_cases hj : j = b
    · subst hj; simp [en1, blf, eV, up2, va_up, upd]
    · rw [if_neg hj]; simp [en1, blf, eV, up2, va_up, upd, hj]
  · have : ¬ 40 + j = 9 := by omega
    simp [en2, eV, up2, va_up, this]
theorem ws_b10 {b : Nat} {v : Int32} (h : b < n) : (WD ad cs n E S o).set (33 + 2 * b) (ad (33 + 2 * b), .inr (0, (blf ad E b).set 10 (.int v))) = WD ad cs n (eV E 10 b v) S o := by
  refine wd_set1 h rfl (fun j _ => ?_) (fun j _ => ?_)
  · by_cases hj : j = b
    · subst hj; simp [en1, blf, eV, up2, va_up, upd]
    · rw [if_neg hj]; simp [en1, blf, eV, up2, va_up, upd, hj]
  · have : ¬ 40 + j = 10 := by omega
    simp [en2, eV, up2, va_up, this]
theorem ws_f {b i : Nat} {v : Int32} (h : b < n) : (WD ad cs n E S o).set (34 + 2 * b) (ad (34 + 2 * b), .inl (cs 0, 4, .inl (upd (E.2.1 (40 + b)) i v))) = WD ad cs n (eV E (40 + b) i v) S o := by
  have q : ∀ k, k < 40 → ¬ k = 40 + b := fun k hk => by omega
  refine wd_set2 h ?_ (fun j _ => ?_) (fun j _ => ?_)
  · simp [FX, eV, up2, va_up, q]
  · simp [en1, blf, eV, up2, va_up, q]
  · by_cases hj : j = b
    · subst hj; simp [en2, eV, up2, va_up]
    · have : ¬ 40 + j = 40 + b := by omega
      rw [if_neg hj]; simp [en2, eV, up2, va_up, hj]
theorem ws_gc : ∀ {i : Nat} {v : Int32}, i < 4 → (WD ad cs n E S o).set (4 + 2 * i) (ad (4 + 2 * i), .inr (3, ([.ref (ad (5 + 2 * i)), .int (E.1 (14 + i))] : List Value).set 1 (.int v))) = WD ad cs n (eG E (14 + i) v) S o
  | 0, _, _ => rfl
  | 1, _, _ => rfl
  | 2, _, _ => rfl
  | 3, _, _ => rfl
  | i + 4, _, h => absurd h (by omega)
theorem ws_gd : ∀ {i j : Nat} {v : Int32}, i < 4 → (WD ad cs n E S o).set (5 + 2 * i) (ad (5 + 2 * i), .inl (cs 0, 6, .inl (upd (E.2.1 (20 + i)) j v))) = WD ad cs n (eV E (20 + i) j v) S o := by
  intro i j v hi
  have e2 : PL (en1 ad E) (en2 ad cs E) n = PL (en1 ad (eV E (20 + i) j v)) (en2 ad cs (eV E (20 + i) j v)) n := by
    refine pl_congr n fun b _ => ⟨?_, ?_⟩
    · have q : ∀ k, k < 20 → ¬ k = 20 + i := fun k hk => by omega
      simp [en1, blf, eV, up2, va_up, q]
    · have : ¬ 40 + b = 20 + i := by omega
      simp [en2, eV, up2, va_up, this]
  unfold WD
  rw [← e2]
  match i, hi with
  | 0, _ => rfl
  | 1, _ => rfl
  | 2, _ => rfl
  | 3, _ => rfl
  | i + 4, h => exact absurd h (by omega)
theorem ws_cd {j : Nat} {v : Int32} : (WD ad cs n E S o).set 14 (ad 14, .inl (cs 0, 400, .inl (upd (E.2.1 30) j v))) = WD ad cs n (eV E 30 j v) S o := by
  have e2 : PL (en1 ad E) (en2 ad cs E) n = PL (en1 ad (eV E 30 j v)) (en2 ad cs (eV E 30 j v)) n := by
    refine pl_congr n fun b _ => ⟨?_, ?_⟩
    · simp [en1, blf, eV, up2, va_up]
    · have : ¬ 40 + b = 30 := by omega
      simp [en2, eV, up2, va_up, this]
  unfold WD
  rw [← e2]
  rfl
end WDS
theorem uw0 : ∀ w ∈ u_ws RX0 TX0 11, w ∈ WT := by decide +kernel
theorem uw1 : ∀ w ∈ u_ws RX1 TX1 2, w ∈ WT := by decide +kernel
theorem uw2 : ∀ w ∈ u_ws RX2 TX2 2, w ∈ WT := by decide +kernel
theorem uw3 : ∀ w ∈ u_ws RX3 TX3 2, w ∈ WT := by decide +kernel
theorem uw4 : ∀ w ∈ u_ws RX4 TX4 12, w ∈ WT := by decide +kernel
theorem uw5 : ∀ w ∈ u_ws RX5 TX5 26, w ∈ WT := by decide +kernel
section GP
variable {p : Program} {l : Launch} {e : Env} {R : Room} {s : State} {m : MethodId} {args : Array Value} {below : List Frame} {meth : Method} {c : Code} {D : va_G} {cs : Nat → ClassId} {sa : Nat → Nat} {A : Nat → Prop} {cc : ByteArray} {nL : Nat} {ret : Option FieldType} {cells slots : Nat} {Q : State → Prop} {pc : Nat} {lv : List (Nat × Value)} {st : List Value} {ad : Nat → Nat} {n : Nat} {E : ES} {S : MS} {o : Nat → Int64}
theorem gf_X1_9 (hc : CX p l e R s m args below meth c D cs sa A cc nL RX1 ret) (hdg : decode cc pc = .ok (.getfield 9, 3)) (kk : J p l e R s m args below meth c D A nL cells slots Q (WD ad cs n E S o) (pc + 3) lv (.int (E.1 12) :: st)) : J p l e R s m args below meth c D A nL cells slots Q (WD ad cs n E S o) pc lv (.ref (ad 1) :: st) := j_getf hc (K := RX1) (T := TX1) (N := 2) uw1 1 rfl rfl 0 (by decide) wt_29 rfl rfl hdg kk
theorem pf_X1_9 (hc : CX p l e R s m args below meth c D cs sa A cc nL RX1 ret) {v : Int32} (hdg : decode cc pc = .ok (.putfield 9, 3)) (kk : J p l e R s m args below meth c D A nL cells slots Q (WD ad cs n (eG E 12 v) S o) (pc + 3) lv st) : J p l e R s m args below meth c D A nL cells slots Q (WD ad cs n E S o) pc lv (.int v :: .ref (ad 1) :: st) := j_putf hc (w' := WD ad cs n (eG E 12 v) S o) (K := RX1) (T := TX1) (N := 2) uw1 tyX1 tyX1_ok nmX1 1 rfl rfl 0 (by decide) wt_29 rfl (Or.inl rfl) (ty := .int) rfl rfl rfl (Nat.le_of_ble_eq_true rfl) rfl hdg kk
theorem gf_X4_74 (hc : CX p l e R s m args below meth c D cs sa A cc nL RX4 ret) (hdg : decode cc pc = .ok (.getfield 74, 3)) (kk : J p l e R s m args below meth c D A nL cells slots Q (WD ad cs n E S o) (pc + 3) lv (.int (E.1 12) :: st)) : J p l e R s m args below meth c D A nL cells slots Q (WD ad cs n E S o) pc lv (.ref (ad 1) :: st) := j_getf hc (K := RX1) (T := TX1) (N := 2) uw1 1 rfl rfl 0 (by decide) wt_30 rfl rfl hdg kk
theorem pf_X4_74 (hc : CX p l e R s m args below meth c D cs sa A cc nL RX4 ret) {v : Int32} (hdg : decode cc pc = .ok (.putfield 74, 3)) (kk : J p l e R s m args below meth c D A nL cells slots Q (WD ad cs n (eG E 12 v) S o) (pc + 3) lv st) : J p l e R s m args below meth c D A nL cells slots Q (WD ad cs n E S o) pc lv (.int v :: .ref (ad 1) :: st) := j_putf hc (w' := WD ad cs n (eG E 12 v) S o) (K := RX1) (T := TX1) (N := 2) uw1 tyX1 tyX1_ok nmX1 1 rfl rfl 0 (by decide) wt_30 rfl (Or.inl rfl) (ty := .int) rfl rfl rfl (Nat.le_of_ble_eq_true rfl) rfl hdg kk
theorem gf_X1_13 (hc : CX p l e R s m args below meth c D cs sa A cc nL RX1 ret) (hdg : decode cc pc = .ok (.getfield 13, 3)) (kk : J p l e R s m args below meth c D A nL cells slots Q (WD ad cs n E S o) (pc + 3) lv (.ref (ad 2) :: st)) : J p l e R s m args below meth c D A nL cells slots Q (WD ad cs n E S o) pc lv (.ref (ad 1) :: st) := j_getf hc (K := RX1) (T := TX1) (N := 2) uw1 1 rfl rfl 1 (by decide) wt_31 rfl rfl hdg kk
theorem gf_X3_9 (hc : CX p l e R s m args below meth c D cs sa A cc nL RX3 ret) {i : Nat} (hi : i < 4) (hdg : decode cc pc = .ok (.getfield 9, 3)) (kk : J p l e R s m args below meth c D A nL cells slots Q (WD ad cs n E S o) (pc + 3) lv (.ref (ad (5 + 2 * i)) :: st)) : J p l e R s m args below meth c D A nL cells slots Q (WD ad cs n E S o) pc lv (.ref (ad (4 + 2 * i)) :: st) := j_getf hc (K := RX3) (T := TX3) (N := 2) uw3 (4 + 2 * i) (wd_gap hi) rfl 0 (by decide) wt_47 rfl rfl hdg kk
theorem gf_X3_15 (hc : CX p l e R s m args below meth c D cs sa A cc nL RX3 ret) {i : Nat} (hi : i < 4) (hdg : decode cc pc = .ok (.getfield 15, 3)) (kk : J p l e R s m args below meth c D A nL cells slots Q (WD ad cs n E S o) (pc + 3) lv (.int (E.1 (14 + i)) :: st)) : J p l e R s m args below meth c D A nL cells slots Q (WD ad cs n E S o) pc lv (.ref (ad (4 + 2 * i)) :: st) := j_getf hc (K := RX3) (T := TX3) (N := 2) uw3 (4 + 2 * i) (wd_gap hi) rfl 1 (by decide) wt_48 rfl rfl hdg kk
theorem pf_X3_15 (hc : CX p l e R s m args below meth c D cs sa A cc nL RX3 ret) {i : Nat} (hi : i < 4) {v : Int32} (hdg : decode cc pc = .ok (.putfield 15, 3)) (kk : J p l e R s m args below meth c D A nL cells slots Q (WD ad cs n (eG E (14 + i) v) S o) (pc + 3) lv st) : J p l e R s m args below meth c D A nL cells slots Q (WD ad cs n E S o) pc lv (.int v :: .ref (ad (4 + 2 * i)) :: st) := j_putf hc (w' := WD ad cs n (eG E (14 + i) v) S o) (K := RX3) (T := TX3) (N := 2) uw3 tyX3 tyX3_ok nmX3 (4 + 2 * i) (wd_gap hi) rfl 1 (by decide) wt_48 rfl (Or.inl rfl) (ty := .int) rfl rfl rfl (Nat.le_of_ble_eq_true rfl) (ws_gc hi) hdg kk
theorem gf_X4_101 (hc : CX p l e R s m args below meth c D cs sa A cc nL RX4 ret) {i : Nat} (hi : i < 4) (hdg : decode cc pc = .ok (.getfield 101, 3)) (kk : J p l e R s m args below meth c D A nL cells slots Q (WD ad cs n E S o) (pc + 3) lv (.int (E.1 (14 + i)) :: st)) : J p l e R s m args below meth c D A nL cells slots Q (WD ad cs n E S o) pc lv (.ref (ad (4 + 2 * i)) :: st) := j_getf hc (K := RX3) (T := TX3) (N := 2) uw3 (4 + 2 * i) (wd_gap hi) rfl 1 (by decide) wt_49 rfl rfl hdg kk
theorem pf_X4_101 (hc : CX p l e R s m args below meth c D cs sa A cc nL RX4 ret) {i : Nat} (hi : i < 4) {v : Int32} (hdg : decode cc pc = .ok (.putfield 101, 3)) (kk : J p l e R s m args below meth c D A nL cells slots Q (WD ad cs n (eG E (14 + i) v) S o) (pc + 3) lv st) : J p l e R s m args below meth c D A nL cells slots Q (WD ad cs n E S o) pc lv (.int v :: .ref (ad (4 + 2 * i)) :: st) := j_putf hc (w' := WD ad cs n (eG E (14 + i) v) S o) (K := RX3) (T := TX3) (N := 2) uw3 tyX3 tyX3_ok nmX3 (4 + 2 * i) (wd_gap hi) rfl 1 (by decide) wt_49 rfl (Or.inl rfl) (ty := .int) rfl rfl rfl (Nat.le_of_ble_eq_true rfl) (ws_gc hi) hdg kk
theorem gf_X2_9 (hc : CX p l e R s m args below meth c D cs sa A cc nL RX2 ret) (hdg : decode cc pc = .ok (.getfield 9, 3)) (kk : J p l e R s m args below meth c D A nL cells slots Q (WD ad cs n E S o) (pc + 3) lv (.ref (ad 14) :: st)) : J p l e R s m args below meth c D A nL cells slots Q (WD ad cs n E S o) pc lv (.ref (ad 13) :: st) := j_getf hc (K := RX2) (T := TX2) (N := 2) uw2 13 rfl rfl 0 (by decide) wt_70 rfl rfl hdg kk
theorem gf_X2_15 (hc : CX p l e R s m args below meth c D cs sa A cc nL RX2 ret) (hdg : decode cc pc = .ok (.getfield 15, 3)) (kk : J p l e R s m args below meth c D A nL cells slots Q (WD ad cs n E S o) (pc + 3) lv (.int (E.1 13) :: st)) : J p l e R s m args below meth c D A nL cells slots Q (WD ad cs n E S o) pc lv (.ref (ad 13) :: st) := j_getf hc (K := RX2) (T := TX2) (N := 2) uw2 13 rfl rfl 1 (by decide) wt_71 rfl rfl hdg kk
theorem pf_X2_15 (hc : CX p l e R s m args below meth c D cs sa A cc nL RX2 ret) {v : Int32} (hdg : decode cc pc = .ok (.putfield 15, 3)) (kk : J p l e R s m args below meth c D A nL cells slots Q (WD ad cs n (eG E 13 v) S o) (pc + 3) lv st) : J p l e R s m args below meth c D A nL cells slots Q (WD ad cs n E S o) pc lv (.int v :: .ref (ad 13) :: st) := j_putf hc (w' := WD ad cs n (eG E 13 v) S o) (K := RX2) (T := TX2) (N := 2) uw2 tyX2 tyX2_ok nmX2 13 rfl rfl 1 (by decide) wt_71 rfl (Or.inl rfl) (ty := .int) rfl rfl rfl (Nat.le_of_ble_eq_true rfl) rfl hdg kk
theorem gf_X4_206 (hc : CX p l e R s m args below meth c D cs sa A cc nL RX4 ret) (hdg : decode cc pc = .ok (.getfield 206, 3)) (kk : J p l e R s m args below meth c D A nL cells slots Q (WD ad cs n E S o) (pc + 3) lv (.int (E.1 13) :: st)) : J p l e R s m args below meth c D A nL cells slots Q (WD ad cs n E S o) pc lv (.ref (ad 13) :: st) := j_getf hc (K := RX2) (T := TX2) (N := 2) uw2 13 rfl rfl 1 (by decide) wt_72 rfl rfl hdg kk
theorem pf_X4_206 (hc : CX p l e R s m args below meth c D cs sa A cc nL RX4 ret) {v : Int32} (hdg : decode cc pc = .ok (.putfield 206, 3)) (kk : J p l e R s m args below meth c D A nL cells slots Q (WD ad cs n (eG E 13 v) S o) (pc + 3) lv st) : J p l e R s m args below meth c D A nL cells slots Q (WD ad cs n E S o) pc lv (.int v :: .ref (ad 13) :: st) := j_putf hc (w' := WD ad cs n (eG E 13 v) S o) (K := RX2) (T := TX2) (N := 2) uw2 tyX2 tyX2_ok nmX2 13 rfl rfl 1 (by decide) wt_72 rfl (Or.inl rfl) (ty := .int) rfl rfl rfl (Nat.le_of_ble_eq_true rfl) rfl hdg kk
theorem gf_X4_10 (hc : CX p l e R s m args below meth c D cs sa A cc nL RX4 ret) (hdg : decode cc pc = .ok (.getfield 10, 3)) (kk : J p l e R s m args below meth c D A nL cells slots Q (WD ad cs n E S o) (pc + 3) lv (.ref (ad 1) :: st)) : J p l e R s m args below meth c D A nL cells slots Q (WD ad cs n E S o) pc lv (.ref (ad 0) :: st) := j_getf hc (K := RX4) (T := TX4) (N := 12) uw4 0 rfl rfl 0 (by decide) wt_78 rfl rfl hdg kk
theorem gf_X4_34 (hc : CX p l e R s m args below meth c D cs sa A cc nL RX4 ret) (hdg : decode cc pc = .ok (.getfield 34, 3)) (kk : J p l e R s m args below meth c D A nL cells slots Q (WD ad cs n E S o) (pc + 3) lv (.ref (ad 3) :: st)) : J p l e R s m args below meth c D A nL cells slots Q (WD ad cs n E S o) pc lv (.ref (ad 0) :: st) := j_getf hc (K := RX4) (T := TX4) (N := 12) uw4 0 rfl rfl 1 (by decide) wt_79 rfl rfl hdg kk
theorem gf_X4_40 (hc : CX p l e R s m args below meth c D cs sa A cc nL RX4 ret) (hdg : decode cc pc = .ok (.getfield 40, 3)) (kk : J p l e R s m args below meth c D A nL cells slots Q (WD ad cs n E S o) (pc + 3) lv (.ref (ad 12) :: st)) : J p l e R s m args below meth c D A nL cells slots Q (WD ad cs n E S o) pc lv (.ref (ad 0) :: st) := j_getf hc (K := RX4) (T := TX4) (N := 12) uw4 0 rfl rfl 2 (by decide) wt_80 rfl rfl hdg kk
theorem gf_X4_47 (hc : CX p l e R s m args below meth c D cs sa A cc nL RX4 ret) (hdg : decode cc pc = .ok (.getfield 47, 3)) (kk : J p l e R s m args below meth c D A nL cells slots Q (WD ad cs n E S o) (pc + 3) lv (.ref (ad 13) :: st)) : J p l e R s m args below meth c D A nL cells slots Q (WD ad cs n E S o) pc lv (.ref (ad 0) :: st) := j_getf hc (K := RX4) (T := TX4) (N := 12) uw4 0 rfl rfl 3 (by decide) wt_81 rfl rfl hdg kk
theorem gf_X4_112 (hc : CX p l e R s m args below meth c D cs sa A cc nL RX4 ret) (hdg : decode cc pc = .ok (.getfield 112, 3)) (kk : J p l e R s m args below meth c D A nL cells slots Q (WD ad cs n E S o) (pc + 3) lv (.int (E.1 4) :: st)) : J p l e R s m args below meth c D A nL cells slots Q (WD ad cs n E S o) pc lv (.ref (ad 0) :: st) := j_getf hc (K := RX4) (T := TX4) (N := 12) uw4 0 rfl rfl 4 (by decide) wt_82 rfl rfl hdg kk
theorem pf_X4_112 (hc : CX p l e R s m args below meth c D cs sa A cc nL RX4 ret) {v : Int32} (hdg : decode cc pc = .ok (.putfield 112, 3)) (kk : J p l e R s m args below meth c D A nL cells slots Q (WD ad cs n (eG E 4 v) S o) (pc + 3) lv st) : J p l e R s m args below meth c D A nL cells slots Q (WD ad cs n E S o) pc lv (.int v :: .ref (ad 0) :: st) := j_putf hc (w' := WD ad cs n (eG E 4 v) S o) (K := RX4) (T := TX4) (N := 12) uw4 tyX4 tyX4_ok nmX4 0 rfl rfl 4 (by decide) wt_82 rfl (Or.inl rfl) (ty := .int) rfl rfl rfl (Nat.le_of_ble_eq_true rfl) rfl hdg kk
theorem gf_X4_83 (hc : CX p l e R s m args below meth c D cs sa A cc nL RX4 ret) (hdg : decode cc pc = .ok (.getfield 83, 3)) (kk : J p l e R s m args below meth c D A nL cells slots Q (WD ad cs n E S o) (pc + 3) lv (.int (E.1 5) :: st)) : J p l e R s m args below meth c D A nL cells slots Q (WD ad cs n E S o) pc lv (.ref (ad 0) :: st) := j_getf hc (K := RX4) (T := TX4) (N := 12) uw4 0 rfl rfl 5 (by decide) wt_83 rfl rfl hdg kk
theorem pf_X4_83 (hc : CX p l e R s m args below meth c D cs sa A cc nL RX4 ret) {v : Int32} (hdg : decode cc pc = .ok (.putfield 83, 3)) (kk : J p l e R s m args below meth c D A nL cells slots Q (WD ad cs n (eG E 5 v) S o) (pc + 3) lv st) : J p l e R s m args below meth c D A nL cells slots Q (WD ad cs n E S o) pc lv (.int v :: .ref (ad 0) :: st) := j_putf hc (w' := WD ad cs n (eG E 5 v) S o) (K := RX4) (T := TX4) (N := 12) uw4 tyX4 tyX4_ok nmX4 0 rfl rfl 5 (by decide) wt_83 rfl (Or.inl rfl) (ty := .int) rfl rfl rfl (Nat.le_of_ble_eq_true rfl) rfl hdg kk
theorem gf_X4_51 (hc : CX p l e R s m args below meth c D cs sa A cc nL RX4 ret) (hdg : decode cc pc = .ok (.getfield 51, 3)) (kk : J p l e R s m args below meth c D A nL cells slots Q (WD ad cs n E S o) (pc + 3) lv (.int (E.1 6) :: st)) : J p l e R s m args below meth c D A nL cells slots Q (WD ad cs n E S o) pc lv (.ref (ad 0) :: st) := j_getf hc (K := RX4) (T := TX4) (N := 12) uw4 0 rfl rfl 6 (by decide) wt_84 rfl rfl hdg kk
theorem pf_X4_51 (hc : CX p l e R s m args below meth c D cs sa A cc nL RX4 ret) {v : Int32} (hdg : decode cc pc = .ok (.putfield 51, 3)) (kk : J p l e R s m args below meth c D A nL cells slots Q (WD ad cs n (eG E 6 v) S o) (pc + 3) lv st) : J p l e R s m args below meth c D A nL cells slots Q (WD ad cs n E S o) pc lv (.int v :: .ref (ad 0) :: st) := j_putf hc (w' := WD ad cs n (eG E 6 v) S o) (K := RX4) (T := TX4) (N := 12) uw4 tyX4 tyX4_ok nmX4 0 rfl rfl 6 (by decide) wt_84 rfl (Or.inl rfl) (ty := .int) rfl rfl rfl (Nat.le_of_ble_eq_true rfl) rfl hdg kk
theorem gf_X4_55 (hc : CX p l e R s m args below meth c D cs sa A cc nL RX4 ret) (hdg : decode cc pc = .ok (.getfield 55, 3)) (kk : J p l e R s m args below meth c D A nL cells slots Q (WD ad cs n E S o) (pc + 3) lv (.int (E.1 7) :: st)) : J p l e R s m args below meth c D A nL cells slots Q (WD ad cs n E S o) pc lv (.ref (ad 0) :: st) := j_getf hc (K := RX4) (T := TX4) (N := 12) uw4 0 rfl rfl 7 (by decide) wt_85 rfl rfl hdg kk
theorem pf_X4_55 (hc : CX p l e R s m args below meth c D cs sa A cc nL RX4 ret) {v : Int32} (hdg : decode cc pc = .ok (.putfield 55, 3)) (kk : J p l e R s m args below meth c D A nL cells slots Q (WD ad cs n (eG E 7 v) S o) (pc + 3) lv st) : J p l e R s m args below meth c D A nL cells slots Q (WD ad cs n E S o) pc lv (.int v :: .ref (ad 0) :: st) := j_putf hc (w' := WD ad cs n (eG E 7 v) S o) (K := RX4) (T := TX4) (N := 12) uw4 tyX4 tyX4_ok nmX4 0 rfl rfl 7 (by decide) wt_85 rfl (Or.inl rfl) (ty := .int) rfl rfl rfl (Nat.le_of_ble_eq_true rfl) rfl hdg kk
theorem gf_X4_119 (hc : CX p l e R s m args below meth c D cs sa A cc nL RX4 ret) (hdg : decode cc pc = .ok (.getfield 119, 3)) (kk : J p l e R s m args below meth c D A nL cells slots Q (WD ad cs n E S o) (pc + 3) lv (.int (E.1 8) :: st)) : J p l e R s m args below meth c D A nL cells slots Q (WD ad cs n E S o) pc lv (.ref (ad 0) :: st) := j_getf hc (K := RX4) (T := TX4) (N := 12) uw4 0 rfl rfl 8 (by decide) wt_86 rfl rfl hdg kk
theorem pf_X4_119 (hc : CX p l e R s m args below meth c D cs sa A cc nL RX4 ret) {v : Int32} (hdg : decode cc pc = .ok (.putfield 119, 3)) (kk : J p l e R s m args below meth c D A nL cells slots Q (WD ad cs n (eG E 8 v) S o) (pc + 3) lv st) : J p l e R s m args below meth c D A nL cells slots Q (WD ad cs n E S o) pc lv (.int v :: .ref (ad 0) :: st) := j_putf hc (w' := WD ad cs n (eG E 8 v) S o) (K := RX4) (T := TX4) (N := 12) uw4 tyX4 tyX4_ok nmX4 0 rfl rfl 8 (by decide) wt_86 rfl (Or.inl rfl) (ty := .int) rfl rfl rfl (Nat.le_of_ble_eq_true rfl) rfl hdg kk
theorem gf_X4_197 (hc : CX p l e R s m args below meth c D cs sa A cc nL RX4 ret) (hdg : decode cc pc = .ok (.getfield 197, 3)) (kk : J p l e R s m args below meth c D A nL cells slots Q (WD ad cs n E S o) (pc + 3) lv (.int (E.1 9) :: st)) : J p l e R s m args below meth c D A nL cells slots Q (WD ad cs n E S o) pc lv (.ref (ad 0) :: st) := j_getf hc (K := RX4) (T := TX4) (N := 12) uw4 0 rfl rfl 9 (by decide) wt_87 rfl rfl hdg kk
theorem pf_X4_197 (hc : CX p l e R s m args below meth c D cs sa A cc nL RX4 ret) {v : Int32} (hdg : decode cc pc = .ok (.putfield 197, 3)) (kk : J p l e R s m args below meth c D A nL cells slots Q (WD ad cs n (eG E 9 v) S o) (pc + 3) lv st) : J p l e R s m args below meth c D A nL cells slots Q (WD ad cs n E S o) pc lv (.int v :: .ref (ad 0) :: st) := j_putf hc (w' := WD ad cs n (eG E 9 v) S o) (K := RX4) (T := TX4) (N := 12) uw4 tyX4 tyX4_ok nmX4 0 rfl rfl 9 (by decide) wt_87 rfl (Or.inl rfl) (ty := .int) rfl rfl rfl (Nat.le_of_ble_eq_true rfl) rfl hdg kk
theorem gf_X4_200 (hc : CX p l e R s m args below meth c D cs sa A cc nL RX4 ret) (hdg : decode cc pc = .ok (.getfield 200, 3)) (kk : J p l e R s m args below meth c D A nL cells slots Q (WD ad cs n E S o) (pc + 3) lv (.int (E.1 10) :: st)) : J p l e R s m args below meth c D A nL cells slots Q (WD ad cs n E S o) pc lv (.ref (ad 0) :: st) := j_getf hc (K := RX4) (T := TX4) (N := 12) uw4 0 rfl rfl 10 (by decide) wt_88 rfl rfl hdg kk
theorem pf_X4_200 (hc : CX p l e R s m args below meth c D cs sa A cc nL RX4 ret) {v : Int32} (hdg : decode cc pc = .ok (.putfield 200, 3)) (kk : J p l e R s m args below meth c D A nL cells slots Q (WD ad cs n (eG E 10 v) S o) (pc + 3) lv st) : J p l e R s m args below meth c D A nL cells slots Q (WD ad cs n E S o) pc lv (.int v :: .ref (ad 0) :: st) := j_putf hc (w' := WD ad cs n (eG E 10 v) S o) (K := RX4) (T := TX4) (N := 12) uw4 tyX4 tyX4_ok nmX4 0 rfl rfl 10 (by decide) wt_88 rfl (Or.inl rfl) (ty := .int) rfl rfl rfl (Nat.le_of_ble_eq_true rfl) rfl hdg kk
theorem gf_X4_203 (hc : CX p l e R s m args below meth c D cs sa A cc nL RX4 ret) (hdg : decode cc pc = .ok (.getfield 203, 3)) (kk : J p l e R s m args below meth c D A nL cells slots Q (WD ad cs n E S o) (pc + 3) lv (.int (E.1 11) :: st)) : J p l e R s m args below meth c D A nL cells slots Q (WD ad cs n E S o) pc lv (.ref (ad 0) :: st) := j_getf hc (K := RX4) (T := TX4) (N := 12) uw4 0 rfl rfl 11 (by decide) wt_89 rfl rfl hdg kk
theorem pf_X4_203 (hc : CX p l e R s m args below meth c D cs sa A cc nL RX4 ret) {v : Int32} (hdg : decode cc pc = .ok (.putfield 203, 3)) (kk : J p l e R s m args below meth c D A nL cells slots Q (WD ad cs n (eG E 11 v) S o) (pc + 3) lv st) : J p l e R s m args below meth c D A nL cells slots Q (WD ad cs n E S o) pc lv (.int v :: .ref (ad 0) :: st) := j_putf hc (w' := WD ad cs n (eG E 11 v) S o) (K := RX4) (T := TX4) (N := 12) uw4 tyX4 tyX4_ok nmX4 0 rfl rfl 11 (by decide) wt_89 rfl (Or.inl rfl) (ty := .int) rfl rfl rfl (Nat.le_of_ble_eq_true rfl) rfl hdg kk
theorem gf_X4_231 (hc : CX p l e R s m args below meth c D cs sa A cc nL RX4 ret) {b : Nat} (hb : b < n) (hdg : decode cc pc = .ok (.getfield 231, 3)) (kk : J p l e R s m args below meth c D A nL cells slots Q (WD ad cs n E S o) (pc + 3) lv (.int (E.2.1 0 b) :: st)) : J p l e R s m args below meth c D A nL cells slots Q (WD ad cs n E S o) pc lv (.ref (ad (33 + 2 * b)) :: st) := j_getf hc (K := RX0) (T := TX0) (N := 11) uw0 (33 + 2 * b) (wd_bill hb) rfl 0 (by decide) wt_329 rfl rfl hdg kk
theorem gf_X4_184 (hc : CX p l e R s m args below meth c D cs sa A cc nL RX4 ret) {b : Nat} (hb : b < n) (hdg : decode cc pc = .ok (.getfield 184, 3)) (kk : J p l e R s m args below meth c D A nL cells slots Q (WD ad cs n E S o) (pc + 3) lv (.int (E.2.1 1 b) :: st)) : J p l e R s m args below meth c D A nL cells slots Q (WD ad cs n E S o) pc lv (.ref (ad (33 + 2 * b)) :: st) := j_getf hc (K := RX0) (T := TX0) (N := 11) uw0 (33 + 2 * b) (wd_bill hb) rfl 1 (by decide) wt_331 rfl rfl hdg kk
theorem gf_X4_178 (hc : CX p l e R s m args below meth c D cs sa A cc nL RX4 ret) {b : Nat} (hb : b < n) (hdg : decode cc pc = .ok (.getfield 178, 3)) (kk : J p l e R s m args below meth c D A nL cells slots Q (WD ad cs n E S o) (pc + 3) lv (.ref (ad (34 + 2 * b)) :: st)) : J p l e R s m args below meth c D A nL cells slots Q (WD ad cs n E S o) pc lv (.ref (ad (33 + 2 * b)) :: st) := j_getf hc (K := RX0) (T := TX0) (N := 11) uw0 (33 + 2 * b) (wd_bill hb) rfl 2 (by decide) wt_333 rfl rfl hdg kk
theorem gf_X4_138 (hc : CX p l e R s m args below meth c D cs sa A cc nL RX4 ret) {b : Nat} (hb : b < n) (hdg : decode cc pc = .ok (.getfield 138, 3)) (kk : J p l e R s m args below meth c D A nL cells slots Q (WD ad cs n E S o) (pc + 3) lv (.int (E.2.1 3 b) :: st)) : J p l e R s m args below meth c D A nL cells slots Q (WD ad cs n E S o) pc lv (.ref (ad (33 + 2 * b)) :: st) := j_getf hc (K := RX0) (T := TX0) (N := 11) uw0 (33 + 2 * b) (wd_bill hb) rfl 3 (by decide) wt_335 rfl rfl hdg kk
theorem pf_X4_138 (hc : CX p l e R s m args below meth c D cs sa A cc nL RX4 ret) {b : Nat} (hb : b < n) {v : Int32} (hdg : decode cc pc = .ok (.putfield 138, 3)) (kk : J p l e R s m args below meth c D A nL cells slots Q (WD ad cs n (eV E 3 b v) S o) (pc + 3) lv st) : J p l e R s m args below meth c D A nL cells slots Q (WD ad cs n E S o) pc lv (.int v :: .ref (ad (33 + 2 * b)) :: st) := j_putf hc (w' := WD ad cs n (eV E 3 b v) S o) (K := RX0) (T := TX0) (N := 11) uw0 tyX0 tyX0_ok nmX0 (33 + 2 * b) (wd_bill hb) rfl 3 (by decide) wt_335 rfl (Or.inl rfl) (ty := .int) rfl rfl rfl (Nat.le_of_ble_eq_true rfl) (ws_b3 hb) hdg kk
theorem gf_X4_133 (hc : CX p l e R s m args below meth c D cs sa A cc nL RX4 ret) {b : Nat} (hb : b < n) (hdg : decode cc pc = .ok (.getfield 133, 3)) (kk : J p l e R s m args below meth c D A nL cells slots Q (WD ad cs n E S o) (pc + 3) lv (.int (E.2.1 4 b) :: st)) : J p l e R s m args below meth c D A nL cells slots Q (WD ad cs n E S o) pc lv (.ref (ad (33 + 2 * b)) :: st) := j_getf hc (K := RX0) (T := TX0) (N := 11) uw0 (33 + 2 * b) (wd_bill hb) rfl 4 (by decide) wt_336 rfl rfl hdg kk
theorem pf_X4_133 (hc : CX p l e R s m args below meth c D cs sa A cc nL RX4 ret) {b : Nat} (hb : b < n) {v : Int32} (hdg : decode cc pc = .ok (.putfield 133, 3)) (kk : J p l e R s m args below meth c D A nL cells slots Q (WD ad cs n (eV E 4 b v) S o) (pc + 3) lv st) : J p l e R s m args below meth c D A nL cells slots Q (WD ad cs n E S o) pc lv (.int v :: .ref (ad (33 + 2 * b)) :: st) := j_putf hc (w' := WD ad cs n (eV E 4 b v) S o) (K := RX0) (T := TX0) (N := 11) uw0 tyX0 tyX0_ok nmX0 (33 + 2 * b) (wd_bill hb) rfl 4 (by decide) wt_336 rfl (Or.inl rfl) (ty := .int) rfl rfl rfl (Nat.le_of_ble_eq_true rfl) (ws_b4 hb) hdg kk
theorem gf_X4_158 (hc : CX p l e R s m args below meth c D cs sa A cc nL RX4 ret) {b : Nat} (hb : b < n) (hdg : decode cc pc = .ok (.getfield 158, 3)) (kk : J p l e R s m args below meth c D A nL cells slots Q (WD ad cs n E S o) (pc + 3) lv (.int (E.2.1 5 b) :: st)) : J p l e R s m args below meth c D A nL cells slots Q (WD ad cs n E S o) pc lv (.ref (ad (33 + 2 * b)) :: st) := j_getf hc (K := RX0) (T := TX0) (N := 11) uw0 (33 + 2 * b) (wd_bill hb) rfl 5 (by decide) wt_337 rfl rfl hdg kk
theorem pf_X4_158 (hc : CX p l e R s m args below meth c D cs sa A cc nL RX4 ret) {b : Nat} (hb : b < n) {v : Int32} (hdg : decode cc pc = .ok (.putfield 158, 3)) (kk : J p l e R s m args below meth c D A nL cells slots Q (WD ad cs n (eV E 5 b v) S o) (pc + 3) lv st) : J p l e R s m args below meth c D A nL cells slots Q (WD ad cs n E S o) pc lv (.int v :: .ref (ad (33 + 2 * b)) :: st) := j_putf hc (w' := WD ad cs n (eV E 5 b v) S o) (K := RX0) (T := TX0) (N := 11) uw0 tyX0 tyX0_ok nmX0 (33 + 2 * b) (wd_bill hb) rfl 5 (by decide) wt_337 rfl (Or.inl rfl) (ty := .int) rfl rfl rfl (Nat.le_of_ble_eq_true rfl) (ws_b5 hb) hdg kk
theorem gf_X4_175 (hc : CX p l e R s m args below meth c D cs sa A cc nL RX4 ret) {b : Nat} (hb : b < n) (hdg : decode cc pc = .ok (.getfield 175, 3)) (kk : J p l e R s m args below meth c D A nL cells slots Q (WD ad cs n E S o) (pc + 3) lv (.int (E.2.1 6 b) :: st)) : J p l e R s m args below meth c D A nL cells slots Q (WD ad cs n E S o) pc lv (.ref (ad (33 + 2 * b)) :: st) := j_getf hc (K := RX0) (T := TX0) (N := 11) uw0 (33 + 2 * b) (wd_bill hb) rfl 6 (by decide) wt_338 rfl rfl hdg kk
theorem pf_X4_175 (hc : CX p l e R s m args below meth c D cs sa A cc nL RX4 ret) {b : Nat} (hb : b < n) {v : Int32} (hdg : decode cc pc = .ok (.putfield 175, 3)) (kk : J p l e R s m args below meth c D A nL cells slots Q (WD ad cs n (eV E 6 b v) S o) (pc + 3) lv st) : J p l e R s m args below meth c D A nL cells slots Q (WD ad cs n E S o) pc lv (.int v :: .ref (ad (33 + 2 * b)) :: st) := j_putf hc (w' := WD ad cs n (eV E 6 b v) S o) (K := RX0) (T := TX0) (N := 11) uw0 tyX0 tyX0_ok nmX0 (33 + 2 * b) (wd_bill hb) rfl 6 (by decide) wt_338 rfl (Or.inl rfl) (ty := .int) rfl rfl rfl (Nat.le_of_ble_eq_true rfl) (ws_b6 hb) hdg kk
theorem gf_X4_150 (hc : CX p l e R s m args below meth c D cs sa A cc nL RX4 ret) {b : Nat} (hb : b < n) (hdg : decode cc pc = .ok (.getfield 150, 3)) (kk : J p l e R s m args below meth c D A nL cells slots Q (WD ad cs n E S o) (pc + 3) lv (.int (E.2.1 7 b) :: st)) : J p l e R s m args below meth c D A nL cells slots Q (WD ad cs n E S o) pc lv (.ref (ad (33 + 2 * b)) :: st) := j_getf hc (K := RX0) (T := TX0) (N := 11) uw0 (33 + 2 * b) (wd_bill hb) rfl 7 (by decide) wt_339 rfl rfl hdg kk
theorem pf_X4_150 (hc : CX p l e R s m args below meth c D cs sa A cc nL RX4 ret) {b : Nat} (hb : b < n) {v : Int32} (hdg : decode cc pc = .ok (.putfield 150, 3)) (kk : J p l e R s m args below meth c D A nL cells slots Q (WD ad cs n (eV E 7 b v) S o) (pc + 3) lv st) : J p l e R s m args below meth c D A nL cells slots Q (WD ad cs n E S o) pc lv (.int v :: .ref (ad (33 + 2 * b)) :: st) := j_putf hc (w' := WD ad cs n (eV E 7 b v) S o) (K := RX0) (T := TX0) (N := 11) uw0 tyX0 tyX0_ok nmX0 (33 + 2 * b) (wd_bill hb) rfl 7 (by decide) wt_339 rfl (Or.inl rfl) (ty := .int) rfl rfl rfl (Nat.le_of_ble_eq_true rfl) (ws_b7 hb) hdg kk
theorem gf_X4_181 (hc : CX p l e R s m args below meth c D cs sa A cc nL RX4 ret) {b : Nat} (hb : b < n) (hdg : decode cc pc = .ok (.getfield 181, 3)) (kk : J p l e R s m args below meth c D A nL cells slots Q (WD ad cs n E S o) (pc + 3) lv (.int (E.2.1 8 b) :: st)) : J p l e R s m args below meth c D A nL cells slots Q (WD ad cs n E S o) pc lv (.ref (ad (33 + 2 * b)) :: st) := j_getf hc (K := RX0) (T := TX0) (N := 11) uw0 (33 + 2 * b) (wd_bill hb) rfl 8 (by decide) wt_340 rfl rfl hdg kk
theorem pf_X4_181 (hc : CX p l e R s m args below meth c D cs sa A cc nL RX4 ret) {b : Nat} (hb : b < n) {v : Int32} (hdg : decode cc pc = .ok (.putfield 181, 3)) (kk : J p l e R s m args below meth c D A nL cells slots Q (WD ad cs n (eV E 8 b v) S o) (pc + 3) lv st) : J p l e R s m args below meth c D A nL cells slots Q (WD ad cs n E S o) pc lv (.int v :: .ref (ad (33 + 2 * b)) :: st) := j_putf hc (w' := WD ad cs n (eV E 8 b v) S o) (K := RX0) (T := TX0) (N := 11) uw0 tyX0 tyX0_ok nmX0 (33 + 2 * b) (wd_bill hb) rfl 8 (by decide) wt_340 rfl (Or.inl rfl) (ty := .int) rfl rfl rfl (Nat.le_of_ble_eq_true rfl) (ws_b8 hb) hdg kk
theorem gf_X4_155 (hc : CX p l e R s m args below meth c D cs sa A cc nL RX4 ret) {b : Nat} (hb : b < n) (hdg : decode cc pc = .ok (.getfield 155, 3)) (kk : J p l e R s m args below meth c D A nL cells slots Q (WD ad cs n E S o) (pc + 3) lv (.int (E.2.1 9 b) :: st)) : J p l e R s m args below meth c D A nL cells slots Q (WD ad cs n E S o) pc lv (.ref (ad (33 + 2 * b)) :: st) := j_getf hc (K := RX0) (T := TX0) (N := 11) uw0 (33 + 2 * b) (wd_bill hb) rfl 9 (by decide) wt_341 rfl rfl hdg kk
theorem pf_X4_155 (hc : CX p l e R s m args below meth c D cs sa A cc nL RX4 ret) {b : Nat} (hb : b < n) {v : Int32} (hdg : decode cc pc = .ok (.putfield 155, 3)) (kk : J p l e R s m args below meth c D A nL cells slots Q (WD ad cs n (eV E 9 b v) S o) (pc + 3) lv st) : J p l e R s m args below meth c D A nL cells slots Q (WD ad cs n E S o) pc lv (.int v :: .ref (ad (33 + 2 * b)) :: st) := j_putf hc (w' := WD ad cs n (eV E 9 b v) S o) (K := RX0) (T := TX0) (N := 11) uw0 tyX0 tyX0_ok nmX0 (33 + 2 * b) (wd_bill hb) rfl 9 (by decide) wt_341 rfl (Or.inl rfl) (ty := .int) rfl rfl rfl (Nat.le_of_ble_eq_true rfl) (ws_b9 hb) hdg kk
theorem gf_X4_161 (hc : CX p l e R s m args below meth c D cs sa A cc nL RX4 ret) {b : Nat} (hb : b < n) (hdg : decode cc pc = .ok (.getfield 161, 3)) (kk : J p l e R s m args below meth c D A nL cells slots Q (WD ad cs n E S o) (pc + 3) lv (.int (E.2.1 10 b) :: st)) : J p l e R s m args below meth c D A nL cells slots Q (WD ad cs n E S o) pc lv (.ref (ad (33 + 2 * b)) :: st) := j_getf hc (K := RX0) (T := TX0) (N := 11) uw0 (33 + 2 * b) (wd_bill hb) rfl 10 (by decide) wt_342 rfl rfl hdg kk
theorem pf_X4_161 (hc : CX p l e R s m args below meth c D cs sa A cc nL RX4 ret) {b : Nat} (hb : b < n) {v : Int32} (hdg : decode cc pc = .ok (.putfield 161, 3)) (kk : J p l e R s m args below meth c D A nL cells slots Q (WD ad cs n (eV E 10 b v) S o) (pc + 3) lv st) : J p l e R s m args below meth c D A nL cells slots Q (WD ad cs n E S o) pc lv (.int v :: .ref (ad (33 + 2 * b)) :: st) := j_putf hc (w' := WD ad cs n (eV E 10 b v) S o) (K := RX0) (T := TX0) (N := 11) uw0 tyX0 tyX0_ok nmX0 (33 + 2 * b) (wd_bill hb) rfl 10 (by decide) wt_342 rfl (Or.inl rfl) (ty := .int) rfl rfl rfl (Nat.le_of_ble_eq_true rfl) (ws_b10 hb) hdg kk
theorem gf_X5_87 (hc : CX p l e R s m args below meth c D cs sa A cc nL RX5 ret) (hdg : decode cc pc = .ok (.getfield 87, 3)) (kk : J p l e R s m args below meth c D A nL cells slots Q (WD ad cs n E S o) (pc + 3) lv (.int (S.1 0) :: st)) : J p l e R s m args below meth c D A nL cells slots Q (WD ad cs n E S o) pc lv (.ref (ad 15) :: st) := j_getf hc (K := RX5) (T := TX5) (N := 26) uw5 15 rfl rfl 0 (by decide) wt_566 rfl rfl hdg kk
theorem pf_X5_87 (hc : CX p l e R s m args below meth c D cs sa A cc nL RX5 ret) {v : Int32} (hdg : decode cc pc = .ok (.putfield 87, 3)) (kk : J p l e R s m args below meth c D A nL cells slots Q (WD ad cs n E (mG S 0 v) o) (pc + 3) lv st) : J p l e R s m args below meth c D A nL cells slots Q (WD ad cs n E S o) pc lv (.int v :: .ref (ad 15) :: st) := j_putf hc (w' := WD ad cs n E (mG S 0 v) o) (K := RX5) (T := TX5) (N := 26) uw5 tyX5 tyX5_ok nmX5 15 rfl rfl 0 (by decide) wt_566 rfl (Or.inl rfl) (ty := .int) rfl rfl rfl (Nat.le_of_ble_eq_true rfl) rfl hdg kk
theorem gf_X5_7 (hc : CX p l e R s m args below meth c D cs sa A cc nL RX5 ret) (hdg : decode cc pc = .ok (.getfield 7, 3)) (kk : J p l e R s m args below meth c D A nL cells slots Q (WD ad cs n E S o) (pc + 3) lv (.ref (ad 16) :: st)) : J p l e R s m args below meth c D A nL cells slots Q (WD ad cs n E S o) pc lv (.ref (ad 15) :: st) := j_getf hc (K := RX5) (T := TX5) (N := 26) uw5 15 rfl rfl 1 (by decide) wt_567 rfl rfl hdg kk
theorem gf_X5_13 (hc : CX p l e R s m args below meth c D cs sa A cc nL RX5 ret) (hdg : decode cc pc = .ok (.getfield 13, 3)) (kk : J p l e R s m args below meth c D A nL cells slots Q (WD ad cs n E S o) (pc + 3) lv (.ref (ad 17) :: st)) : J p l e R s m args below meth c D A nL cells slots Q (WD ad cs n E S o) pc lv (.ref (ad 15) :: st) := j_getf hc (K := RX5) (T := TX5) (N := 26) uw5 15 rfl rfl 2 (by decide) wt_568 rfl rfl hdg kk
theorem gf_X5_73 (hc : CX p l e R s m args below meth c D cs sa A cc nL RX5 ret) (hdg : decode cc pc = .ok (.getfield 73, 3)) (kk : J p l e R s m args below meth c D A nL cells slots Q (WD ad cs n E S o) (pc + 3) lv (.int (S.1 3) :: st)) : J p l e R s m args below meth c D A nL cells slots Q (WD ad cs n E S o) pc lv (.ref (ad 15) :: st) := j_getf hc (K := RX5) (T := TX5) (N := 26) uw5 15 rfl rfl 3 (by decide) wt_569 rfl rfl hdg kk
theorem pf_X5_73 (hc : CX p l e R s m args below meth c D cs sa A cc nL RX5 ret) {v : Int32} (hdg : decode cc pc = .ok (.putfield 73, 3)) (kk : J p l e R s m args below meth c D A nL cells slots Q (WD ad cs n E (mG S 3 v) o) (pc + 3) lv st) : J p l e R s m args below meth c D A nL cells slots Q (WD ad cs n E S o) pc lv (.int v :: .ref (ad 15) :: st) := j_putf hc (w' := WD ad cs n E (mG S 3 v) o) (K := RX5) (T := TX5) (N := 26) uw5 tyX5 tyX5_ok nmX5 15 rfl rfl 3 (by decide) wt_569 rfl (Or.inl rfl) (ty := .int) rfl rfl rfl (Nat.le_of_ble_eq_true rfl) rfl hdg kk
theorem gf_X5_17 (hc : CX p l e R s m args below meth c D cs sa A cc nL RX5 ret) (hdg : decode cc pc = .ok (.getfield 17, 3)) (kk : J p l e R s m args below meth c D A nL cells slots Q (WD ad cs n E S o) (pc + 3) lv (.ref (ad 18) :: st)) : J p l e R s m args below meth c D A nL cells slots Q (WD ad cs n E S o) pc lv (.ref (ad 15) :: st) := j_getf hc (K := RX5) (T := TX5) (N := 26) uw5 15 rfl rfl 4 (by decide) wt_570 rfl rfl hdg kk
theorem gf_X5_20 (hc : CX p l e R s m args below meth c D cs sa A cc nL RX5 ret) (hdg : decode cc pc = .ok (.getfield 20, 3)) (kk : J p l e R s m args below meth c D A nL cells slots Q (WD ad cs n E S o) (pc + 3) lv (.ref (ad 19) :: st)) : J p l e R s m args below meth c D A nL cells slots Q (WD ad cs n E S o) pc lv (.ref (ad 15) :: st) := j_getf hc (K := RX5) (T := TX5) (N := 26) uw5 15 rfl rfl 5 (by decide) wt_571 rfl rfl hdg kk
theorem gf_X5_63 (hc : CX p l e R s m args below meth c D cs sa A cc nL RX5 ret) (hdg : decode cc pc = .ok (.getfield 63, 3)) (kk : J p l e R s m args below meth c D A nL cells slots Q (WD ad cs n E S o) (pc + 3) lv (.int (S.1 6) :: st)) : J p l e R s m args below meth c D A nL cells slots Q (WD ad cs n E S o) pc lv (.ref (ad 15) :: st) := j_getf hc (K := RX5) (T := TX5) (N := 26) uw5 15 rfl rfl 6 (by decide) wt_572 rfl rfl hdg kk
theorem pf_X5_63 (hc : CX p l e R s m args below meth c D cs sa A cc nL RX5 ret) {v : Int32} (hdg : decode cc pc = .ok (.putfield 63, 3)) (kk : J p l e R s m args below meth c D A nL cells slots Q (WD ad cs n E (mG S 6 v) o) (pc + 3) lv st) : J p l e R s m args below meth c D A nL cells slots Q (WD ad cs n E S o) pc lv (.int v :: .ref (ad 15) :: st) := j_putf hc (w' := WD ad cs n E (mG S 6 v) o) (K := RX5) (T := TX5) (N := 26) uw5 tyX5 tyX5_ok nmX5 15 rfl rfl 6 (by decide) wt_572 rfl (Or.inl rfl) (ty := .int) rfl rfl rfl (Nat.le_of_ble_eq_true rfl) rfl hdg kk
theorem gf_X5_67 (hc : CX p l e R s m args below meth c D cs sa A cc nL RX5 ret) (hdg : decode cc pc = .ok (.getfield 67, 3)) (kk : J p l e R s m args below meth c D A nL cells slots Q (WD ad cs n E S o) (pc + 3) lv (.int (S.1 7) :: st)) : J p l e R s m args below meth c D A nL cells slots Q (WD ad cs n E S o) pc lv (.ref (ad 15) :: st) := j_getf hc (K := RX5) (T := TX5) (N := 26) uw5 15 rfl rfl 7 (by decide) wt_573 rfl rfl hdg kk
theorem pf_X5_67 (hc : CX p l e R s m args below meth c D cs sa A cc nL RX5 ret) {v : Int32} (hdg : decode cc pc = .ok (.putfield 67, 3)) (kk : J p l e R s m args below meth c D A nL cells slots Q (WD ad cs n E (mG S 7 v) o) (pc + 3) lv st) : J p l e R s m args below meth c D A nL cells slots Q (WD ad cs n E S o) pc lv (.int v :: .ref (ad 15) :: st) := j_putf hc (w' := WD ad cs n E (mG S 7 v) o) (K := RX5) (T := TX5) (N := 26) uw5 tyX5 tyX5_ok nmX5 15 rfl rfl 7 (by decide) wt_573 rfl (Or.inl rfl) (ty := .int) rfl rfl rfl (Nat.le_of_ble_eq_true rfl) rfl hdg kk
theorem gf_X5_93 (hc : CX p l e R s m args below meth c D cs sa A cc nL RX5 ret) (hdg : decode cc pc = .ok (.getfield 93, 3)) (kk : J p l e R s m args below meth c D A nL cells slots Q (WD ad cs n E S o) (pc + 3) lv (.int (S.1 8) :: st)) : J p l e R s m args below meth c D A nL cells slots Q (WD ad cs n E S o) pc lv (.ref (ad 15) :: st) := j_getf hc (K := RX5) (T := TX5) (N := 26) uw5 15 rfl rfl 8 (by decide) wt_574 rfl rfl hdg kk
theorem pf_X5_93 (hc : CX p l e R s m args below meth c D cs sa A cc nL RX5 ret) {v : Int32} (hdg : decode cc pc = .ok (.putfield 93, 3)) (kk : J p l e R s m args below meth c D A nL cells slots Q (WD ad cs n E (mG S 8 v) o) (pc + 3) lv st) : J p l e R s m args below meth c D A nL cells slots Q (WD ad cs n E S o) pc lv (.int v :: .ref (ad 15) :: st) := j_putf hc (w' := WD ad cs n E (mG S 8 v) o) (K := RX5) (T := TX5) (N := 26) uw5 tyX5 tyX5_ok nmX5 15 rfl rfl 8 (by decide) wt_574 rfl (Or.inl rfl) (ty := .int) rfl rfl rfl (Nat.le_of_ble_eq_true rfl) rfl hdg kk
theorem gf_X5_23 (hc : CX p l e R s m args below meth c D cs sa A cc nL RX5 ret) (hdg : decode cc pc = .ok (.getfield 23, 3)) (kk : J p l e R s m args below meth c D A nL cells slots Q (WD ad cs n E S o) (pc + 3) lv (.ref (ad 20) :: st)) : J p l e R s m args below meth c D A nL cells slots Q (WD ad cs n E S o) pc lv (.ref (ad 15) :: st) := j_getf hc (K := RX5) (T := TX5) (N := 26) uw5 15 rfl rfl 9 (by decide) wt_575 rfl rfl hdg kk
theorem gf_X5_26 (hc : CX p l e R s m args below meth c D cs sa A cc nL RX5 ret) (hdg : decode cc pc = .ok (.getfield 26, 3)) (kk : J p l e R s m args below meth c D A nL cells slots Q (WD ad cs n E S o) (pc + 3) lv (.ref (ad 21) :: st)) : J p l e R s m args below meth c D A nL cells slots Q (WD ad cs n E S o) pc lv (.ref (ad 15) :: st) := j_getf hc (K := RX5) (T := TX5) (N := 26) uw5 15 rfl rfl 10 (by decide) wt_576 rfl rfl hdg kk
theorem gf_X5_29 (hc : CX p l e R s m args below meth c D cs sa A cc nL RX5 ret) (hdg : decode cc pc = .ok (.getfield 29, 3)) (kk : J p l e R s m args below meth c D A nL cells slots Q (WD ad cs n E S o) (pc + 3) lv (.ref (ad 22) :: st)) : J p l e R s m args below meth c D A nL cells slots Q (WD ad cs n E S o) pc lv (.ref (ad 15) :: st) := j_getf hc (K := RX5) (T := TX5) (N := 26) uw5 15 rfl rfl 11 (by decide) wt_577 rfl rfl hdg kk
theorem gf_X5_32 (hc : CX p l e R s m args below meth c D cs sa A cc nL RX5 ret) (hdg : decode cc pc = .ok (.getfield 32, 3)) (kk : J p l e R s m args below meth c D A nL cells slots Q (WD ad cs n E S o) (pc + 3) lv (.ref (ad 23) :: st)) : J p l e R s m args below meth c D A nL cells slots Q (WD ad cs n E S o) pc lv (.ref (ad 15) :: st) := j_getf hc (K := RX5) (T := TX5) (N := 26) uw5 15 rfl rfl 12 (by decide) wt_578 rfl rfl hdg kk
theorem gf_X5_35 (hc : CX p l e R s m args below meth c D cs sa A cc nL RX5 ret) (hdg : decode cc pc = .ok (.getfield 35, 3)) (kk : J p l e R s m args below meth c D A nL cells slots Q (WD ad cs n E S o) (pc + 3) lv (.ref (ad 24) :: st)) : J p l e R s m args below meth c D A nL cells slots Q (WD ad cs n E S o) pc lv (.ref (ad 15) :: st) := j_getf hc (K := RX5) (T := TX5) (N := 26) uw5 15 rfl rfl 13 (by decide) wt_579 rfl rfl hdg kk
theorem gf_X5_38 (hc : CX p l e R s m args below meth c D cs sa A cc nL RX5 ret) (hdg : decode cc pc = .ok (.getfield 38, 3)) (kk : J p l e R s m args below meth c D A nL cells slots Q (WD ad cs n E S o) (pc + 3) lv (.ref (ad 25) :: st)) : J p l e R s m args below meth c D A nL cells slots Q (WD ad cs n E S o) pc lv (.ref (ad 15) :: st) := j_getf hc (K := RX5) (T := TX5) (N := 26) uw5 15 rfl rfl 14 (by decide) wt_580 rfl rfl hdg kk
theorem gf_X5_41 (hc : CX p l e R s m args below meth c D cs sa A cc nL RX5 ret) (hdg : decode cc pc = .ok (.getfield 41, 3)) (kk : J p l e R s m args below meth c D A nL cells slots Q (WD ad cs n E S o) (pc + 3) lv (.ref (ad 26) :: st)) : J p l e R s m args below meth c D A nL cells slots Q (WD ad cs n E S o) pc lv (.ref (ad 15) :: st) := j_getf hc (K := RX5) (T := TX5) (N := 26) uw5 15 rfl rfl 15 (by decide) wt_581 rfl rfl hdg kk
theorem gf_X5_44 (hc : CX p l e R s m args below meth c D cs sa A cc nL RX5 ret) (hdg : decode cc pc = .ok (.getfield 44, 3)) (kk : J p l e R s m args below meth c D A nL cells slots Q (WD ad cs n E S o) (pc + 3) lv (.ref (ad 27) :: st)) : J p l e R s m args below meth c D A nL cells slots Q (WD ad cs n E S o) pc lv (.ref (ad 15) :: st) := j_getf hc (K := RX5) (T := TX5) (N := 26) uw5 15 rfl rfl 16 (by decide) wt_582 rfl rfl hdg kk
theorem gf_X5_47 (hc : CX p l e R s m args below meth c D cs sa A cc nL RX5 ret) (hdg : decode cc pc = .ok (.getfield 47, 3)) (kk : J p l e R s m args below meth c D A nL cells slots Q (WD ad cs n E S o) (pc + 3) lv (.ref (ad 28) :: st)) : J p l e R s m args below meth c D A nL cells slots Q (WD ad cs n E S o) pc lv (.ref (ad 15) :: st) := j_getf hc (K := RX5) (T := TX5) (N := 26) uw5 15 rfl rfl 17 (by decide) wt_583 rfl rfl hdg kk
theorem gf_X5_50 (hc : CX p l e R s m args below meth c D cs sa A cc nL RX5 ret) (hdg : decode cc pc = .ok (.getfield 50, 3)) (kk : J p l e R s m args below meth c D A nL cells slots Q (WD ad cs n E S o) (pc + 3) lv (.ref (ad 29) :: st)) : J p l e R s m args below meth c D A nL cells slots Q (WD ad cs n E S o) pc lv (.ref (ad 15) :: st) := j_getf hc (K := RX5) (T := TX5) (N := 26) uw5 15 rfl rfl 18 (by decide) wt_584 rfl rfl hdg kk
theorem gf_X5_53 (hc : CX p l e R s m args below meth c D cs sa A cc nL RX5 ret) (hdg : decode cc pc = .ok (.getfield 53, 3)) (kk : J p l e R s m args below meth c D A nL cells slots Q (WD ad cs n E S o) (pc + 3) lv (.ref (ad 30) :: st)) : J p l e R s m args below meth c D A nL cells slots Q (WD ad cs n E S o) pc lv (.ref (ad 15) :: st) := j_getf hc (K := RX5) (T := TX5) (N := 26) uw5 15 rfl rfl 19 (by decide) wt_585 rfl rfl hdg kk
theorem gf_X5_104 (hc : CX p l e R s m args below meth c D cs sa A cc nL RX5 ret) (hdg : decode cc pc = .ok (.getfield 104, 3)) (kk : J p l e R s m args below meth c D A nL cells slots Q (WD ad cs n E S o) (pc + 3) lv (.int (S.1 20) :: st)) : J p l e R s m args below meth c D A nL cells slots Q (WD ad cs n E S o) pc lv (.ref (ad 15) :: st) := j_getf hc (K := RX5) (T := TX5) (N := 26) uw5 15 rfl rfl 20 (by decide) wt_586 rfl rfl hdg kk
theorem pf_X5_104 (hc : CX p l e R s m args below meth c D cs sa A cc nL RX5 ret) {v : Int32} (hdg : decode cc pc = .ok (.putfield 104, 3)) (kk : J p l e R s m args below meth c D A nL cells slots Q (WD ad cs n E (mG S 20 v) o) (pc + 3) lv st) : J p l e R s m args below meth c D A nL cells slots Q (WD ad cs n E S o) pc lv (.int v :: .ref (ad 15) :: st) := j_putf hc (w' := WD ad cs n E (mG S 20 v) o) (K := RX5) (T := TX5) (N := 26) uw5 tyX5 tyX5_ok nmX5 15 rfl rfl 20 (by decide) wt_586 rfl (Or.inl rfl) (ty := .int) rfl rfl rfl (Nat.le_of_ble_eq_true rfl) rfl hdg kk
theorem gf_X5_119 (hc : CX p l e R s m args below meth c D cs sa A cc nL RX5 ret) (hdg : decode cc pc = .ok (.getfield 119, 3)) (kk : J p l e R s m args below meth c D A nL cells slots Q (WD ad cs n E S o) (pc + 3) lv (.int (S.1 21) :: st)) : J p l e R s m args below meth c D A nL cells slots Q (WD ad cs n E S o) pc lv (.ref (ad 15) :: st) := j_getf hc (K := RX5) (T := TX5) (N := 26) uw5 15 rfl rfl 21 (by decide) wt_587 rfl rfl hdg kk
theorem pf_X5_119 (hc : CX p l e R s m args below meth c D cs sa A cc nL RX5 ret) {v : Int32} (hdg : decode cc pc = .ok (.putfield 119, 3)) (kk : J p l e R s m args below meth c D A nL cells slots Q (WD ad cs n E (mG S 21 v) o) (pc + 3) lv st) : J p l e R s m args below meth c D A nL cells slots Q (WD ad cs n E S o) pc lv (.int v :: .ref (ad 15) :: st) := j_putf hc (w' := WD ad cs n E (mG S 21 v) o) (K := RX5) (T := TX5) (N := 26) uw5 tyX5 tyX5_ok nmX5 15 rfl rfl 21 (by decide) wt_587 rfl (Or.inl rfl) (ty := .int) rfl rfl rfl (Nat.le_of_ble_eq_true rfl) rfl hdg kk
theorem gf_X5_116 (hc : CX p l e R s m args below meth c D cs sa A cc nL RX5 ret) (hdg : decode cc pc = .ok (.getfield 116, 3)) (kk : J p l e R s m args below meth c D A nL cells slots Q (WD ad cs n E S o) (pc + 3) lv (.int (S.1 22) :: st)) : J p l e R s m args below meth c D A nL cells slots Q (WD ad cs n E S o) pc lv (.ref (ad 15) :: st) := j_getf hc (K := RX5) (T := TX5) (N := 26) uw5 15 rfl rfl 22 (by decide) wt_588 rfl rfl hdg kk
theorem pf_X5_116 (hc : CX p l e R s m args below meth c D cs sa A cc nL RX5 ret) {v : Int32} (hdg : decode cc pc = .ok (.putfield 116, 3)) (kk : J p l e R s m args below meth c D A nL cells slots Q (WD ad cs n E (mG S 22 v) o) (pc + 3) lv st) : J p l e R s m args below meth c D A nL cells slots Q (WD ad cs n E S o) pc lv (.int v :: .ref (ad 15) :: st) := j_putf hc (w' := WD ad cs n E (mG S 22 v) o) (K := RX5) (T := TX5) (N := 26) uw5 tyX5 tyX5_ok nmX5 15 rfl rfl 22 (by decide) wt_588 rfl (Or.inl rfl) (ty := .int) rfl rfl rfl (Nat.le_of_ble_eq_true rfl) rfl hdg kk
theorem gf_X5_56 (hc : CX p l e R s m args below meth c D cs sa A cc nL RX5 ret) (hdg : decode cc pc = .ok (.getfield 56, 3)) (kk : J p l e R s m args below meth c D A nL cells slots Q (WD ad cs n E S o) (pc + 3) lv (.ref (ad 31) :: st)) : J p l e R s m args below meth c D A nL cells slots Q (WD ad cs n E S o) pc lv (.ref (ad 15) :: st) := j_getf hc (K := RX5) (T := TX5) (N := 26) uw5 15 rfl rfl 23 (by decide) wt_589 rfl rfl hdg kk
theorem gf_X5_90 (hc : CX p l e R s m args below meth c D cs sa A cc nL RX5 ret) (hdg : decode cc pc = .ok (.getfield 90, 3)) (kk : J p l e R s m args below meth c D A nL cells slots Q (WD ad cs n E S o) (pc + 3) lv (.int (S.1 24) :: st)) : J p l e R s m args below meth c D A nL cells slots Q (WD ad cs n E S o) pc lv (.ref (ad 15) :: st) := j_getf hc (K := RX5) (T := TX5) (N := 26) uw5 15 rfl rfl 24 (by decide) wt_590 rfl rfl hdg kk
theorem pf_X5_90 (hc : CX p l e R s m args below meth c D cs sa A cc nL RX5 ret) {v : Int32} (hdg : decode cc pc = .ok (.putfield 90, 3)) (kk : J p l e R s m args below meth c D A nL cells slots Q (WD ad cs n E (mG S 24 v) o) (pc + 3) lv st) : J p l e R s m args below meth c D A nL cells slots Q (WD ad cs n E S o) pc lv (.int v :: .ref (ad 15) :: st) := j_putf hc (w' := WD ad cs n E (mG S 24 v) o) (K := RX5) (T := TX5) (N := 26) uw5 tyX5 tyX5_ok nmX5 15 rfl rfl 24 (by decide) wt_590 rfl (Or.inl rfl) (ty := .int) rfl rfl rfl (Nat.le_of_ble_eq_true rfl) rfl hdg kk
theorem gf_X5_70 (hc : CX p l e R s m args below meth c D cs sa A cc nL RX5 ret) (hdg : decode cc pc = .ok (.getfield 70, 3)) (kk : J p l e R s m args below meth c D A nL cells slots Q (WD ad cs n E S o) (pc + 3) lv (.int (S.1 25) :: st)) : J p l e R s m args below meth c D A nL cells slots Q (WD ad cs n E S o) pc lv (.ref (ad 15) :: st) := j_getf hc (K := RX5) (T := TX5) (N := 26) uw5 15 rfl rfl 25 (by decide) wt_591 rfl rfl hdg kk
theorem pf_X5_70 (hc : CX p l e R s m args below meth c D cs sa A cc nL RX5 ret) {v : Int32} (hdg : decode cc pc = .ok (.putfield 70, 3)) (kk : J p l e R s m args below meth c D A nL cells slots Q (WD ad cs n E (mG S 25 v) o) (pc + 3) lv st) : J p l e R s m args below meth c D A nL cells slots Q (WD ad cs n E S o) pc lv (.int v :: .ref (ad 15) :: st) := j_putf hc (w' := WD ad cs n E (mG S 25 v) o) (K := RX5) (T := TX5) (N := 26) uw5 tyX5 tyX5_ok nmX5 15 rfl rfl 25 (by decide) wt_591 rfl (Or.inl rfl) (ty := .int) rfl rfl rfl (Nat.le_of_ble_eq_true rfl) rfl hdg kk
variable {own : String}
theorem al_hol (hc : CX p l e R s m args below meth c D cs sa A cc nL own ret)  {k : Int32} (hin : vp_in k 485) (hdg : decode cc pc = .ok (.laload, 1)) (kk : J p l e R s m args below meth c D A nL cells slots Q (WD ad cs n E S o) (pc + 1) lv (.long (E.2.2 k.toNatClampNeg) :: st)) : J p l e R s m args below meth c D A nL cells slots Q (WD ad cs n E S o) pc lv (.int k :: .ref (ad 2) :: st) := j_laload hc 2 rfl hin hdg kk
theorem as_hol (hc : CX p l e R s m args below meth c D cs sa A cc nL own ret)  {k : Int32} {x : Int64} (hin : vp_in k 485) (hdg : decode cc pc = .ok (.lastore, 1)) (kk : J p l e R s m args below meth c D A nL cells slots Q (WD ad cs n (eH E k.toNatClampNeg x) S o) (pc + 1) lv st) : J p l e R s m args below meth c D A nL cells slots Q (WD ad cs n E S o) pc lv (.long x :: .int k :: .ref (ad 2) :: st) := j_lastore hc 2 rfl hin rfl hdg kk
theorem al_gap (hc : CX p l e R s m args below meth c D cs sa A cc nL own ret) {i : Nat} (hi : i < 4) {k : Int32} (hin : vp_in k 6) (hdg : decode cc pc = .ok (.iaload, 1)) (kk : J p l e R s m args below meth c D A nL cells slots Q (WD ad cs n E S o) (pc + 1) lv (.int (E.2.1 (20 + i) k.toNatClampNeg) :: st)) : J p l e R s m args below meth c D A nL cells slots Q (WD ad cs n E S o) pc lv (.int k :: .ref (ad (5 + 2 * i)) :: st) := j_iaload hc (5 + 2 * i) (wd_gapd hi) hin hdg kk
theorem as_gap (hc : CX p l e R s m args below meth c D cs sa A cc nL own ret) {i : Nat} (hi : i < 4) {k : Int32} {x : Int32} (hin : vp_in k 6) (hdg : decode cc pc = .ok (.iastore, 1)) (kk : J p l e R s m args below meth c D A nL cells slots Q (WD ad cs n (eV E (20 + i) k.toNatClampNeg x) S o) (pc + 1) lv st) : J p l e R s m args below meth c D A nL cells slots Q (WD ad cs n E S o) pc lv (.int x :: .int k :: .ref (ad (5 + 2 * i)) :: st) := j_iastore hc (5 + 2 * i) (wd_gapd hi) hin (ws_gd hi) hdg kk
theorem al_codes (hc : CX p l e R s m args below meth c D cs sa A cc nL own ret)  {k : Int32} (hin : vp_in k 400) (hdg : decode cc pc = .ok (.iaload, 1)) (kk : J p l e R s m args below meth c D A nL cells slots Q (WD ad cs n E S o) (pc + 1) lv (.int (E.2.1 30 k.toNatClampNeg) :: st)) : J p l e R s m args below meth c D A nL cells slots Q (WD ad cs n E S o) pc lv (.int k :: .ref (ad 14) :: st) := j_iaload hc 14 rfl hin hdg kk
theorem as_codes (hc : CX p l e R s m args below meth c D cs sa A cc nL own ret)  {k : Int32} {x : Int32} (hin : vp_in k 400) (hdg : decode cc pc = .ok (.iastore, 1)) (kk : J p l e R s m args below meth c D A nL cells slots Q (WD ad cs n (eV E 30 k.toNatClampNeg x) S o) (pc + 1) lv st) : J p l e R s m args below meth c D A nL cells slots Q (WD ad cs n E S o) pc lv (.int x :: .int k :: .ref (ad 14) :: st) := j_iastore hc 14 rfl hin ws_cd hdg kk
theorem al_fails (hc : CX p l e R s m args below meth c D cs sa A cc nL own ret) {b : Nat} (hb : b < n) {k : Int32} (hin : vp_in k 4) (hdg : decode cc pc = .ok (.iaload, 1)) (kk : J p l e R s m args below meth c D A nL cells slots Q (WD ad cs n E S o) (pc + 1) lv (.int (E.2.1 (40 + b) k.toNatClampNeg) :: st)) : J p l e R s m args below meth c D A nL cells slots Q (WD ad cs n E S o) pc lv (.int k :: .ref (ad (34 + 2 * b)) :: st) := j_iaload hc (34 + 2 * b) (wd_fail hb) hin hdg kk
theorem as_fails (hc : CX p l e R s m args below meth c D cs sa A cc nL own ret) {b : Nat} (hb : b < n) {k : Int32} {x : Int32} (hin : vp_in k 4) (hdg : decode cc pc = .ok (.iastore, 1)) (kk : J p l e R s m args below meth c D A nL cells slots Q (WD ad cs n (eV E (40 + b) k.toNatClampNeg x) S o) (pc + 1) lv st) : J p l e R s m args below meth c D A nL cells slots Q (WD ad cs n E S o) pc lv (.int x :: .int k :: .ref (ad (34 + 2 * b)) :: st) := j_iastore hc (34 + 2 * b) (wd_fail hb) hin (ws_f hb) hdg kk
theorem al_m1 (hc : CX p l e R s m args below meth c D cs sa A cc nL own ret)  {k : Int32} (hin : vp_in k 7) (hdg : decode cc pc = .ok (.baload, 1)) (kk : J p l e R s m args below meth c D A nL cells slots Q (WD ad cs n E S o) (pc + 1) lv (.int (S.2 1 k.toNatClampNeg) :: st)) : J p l e R s m args below meth c D A nL cells slots Q (WD ad cs n E S o) pc lv (.int k :: .ref (ad 16) :: st) := j_zaload hc 16 rfl hin hdg kk
theorem as_m1 (hc : CX p l e R s m args below meth c D cs sa A cc nL own ret)  {k : Int32} {x : Int32} (hin : vp_in k 7) (hdg : decode cc pc = .ok (.bastore, 1)) (kk : J p l e R s m args below meth c D A nL cells slots Q (WD ad cs n E (mA S 1 k.toNatClampNeg (vp_nar .boolean x)) o) (pc + 1) lv st) : J p l e R s m args below meth c D A nL cells slots Q (WD ad cs n E S o) pc lv (.int x :: .int k :: .ref (ad 16) :: st) := j_zastore hc 16 rfl hin rfl hdg kk
theorem al_m2 (hc : CX p l e R s m args below meth c D cs sa A cc nL own ret)  {k : Int32} (hin : vp_in k 1024) (hdg : decode cc pc = .ok (.iaload, 1)) (kk : J p l e R s m args below meth c D A nL cells slots Q (WD ad cs n E S o) (pc + 1) lv (.int (S.2 2 k.toNatClampNeg) :: st)) : J p l e R s m args below meth c D A nL cells slots Q (WD ad cs n E S o) pc lv (.int k :: .ref (ad 17) :: st) := j_iaload hc 17 rfl hin hdg kk
theorem as_m2 (hc : CX p l e R s m args below meth c D cs sa A cc nL own ret)  {k : Int32} {x : Int32} (hin : vp_in k 1024) (hdg : decode cc pc = .ok (.iastore, 1)) (kk : J p l e R s m args below meth c D A nL cells slots Q (WD ad cs n E (mA S 2 k.toNatClampNeg x) o) (pc + 1) lv st) : J p l e R s m args below meth c D A nL cells slots Q (WD ad cs n E S o) pc lv (.int x :: .int k :: .ref (ad 17) :: st) := j_iastore hc 17 rfl hin rfl hdg kk
theorem al_m4 (hc : CX p l e R s m args below meth c D cs sa A cc nL own ret)  {k : Int32} (hin : vp_in k 30) (hdg : decode cc pc = .ok (.iaload, 1)) (kk : J p l e R s m args below meth c D A nL cells slots Q (WD ad cs n E S o) (pc + 1) lv (.int (S.2 4 k.toNatClampNeg) :: st)) : J p l e R s m args below meth c D A nL cells slots Q (WD ad cs n E S o) pc lv (.int k :: .ref (ad 18) :: st) := j_iaload hc 18 rfl hin hdg kk
theorem as_m4 (hc : CX p l e R s m args below meth c D cs sa A cc nL own ret)  {k : Int32} {x : Int32} (hin : vp_in k 30) (hdg : decode cc pc = .ok (.iastore, 1)) (kk : J p l e R s m args below meth c D A nL cells slots Q (WD ad cs n E (mA S 4 k.toNatClampNeg x) o) (pc + 1) lv st) : J p l e R s m args below meth c D A nL cells slots Q (WD ad cs n E S o) pc lv (.int x :: .int k :: .ref (ad 18) :: st) := j_iastore hc 18 rfl hin rfl hdg kk
theorem al_m5 (hc : CX p l e R s m args below meth c D cs sa A cc nL own ret)  {k : Int32} (hin : vp_in k 5) (hdg : decode cc pc = .ok (.iaload, 1)) (kk : J p l e R s m args below meth c D A nL cells slots Q (WD ad cs n E S o) (pc + 1) lv (.int (S.2 5 k.toNatClampNeg) :: st)) : J p l e R s m args below meth c D A nL cells slots Q (WD ad cs n E S o) pc lv (.int k :: .ref (ad 19) :: st) := j_iaload hc 19 rfl hin hdg kk
theorem as_m5 (hc : CX p l e R s m args below meth c D cs sa A cc nL own ret)  {k : Int32} {x : Int32} (hin : vp_in k 5) (hdg : decode cc pc = .ok (.iastore, 1)) (kk : J p l e R s m args below meth c D A nL cells slots Q (WD ad cs n E (mA S 5 k.toNatClampNeg x) o) (pc + 1) lv st) : J p l e R s m args below meth c D A nL cells slots Q (WD ad cs n E S o) pc lv (.int x :: .int k :: .ref (ad 19) :: st) := j_iastore hc 19 rfl hin rfl hdg kk
theorem al_m9 (hc : CX p l e R s m args below meth c D cs sa A cc nL own ret)  {k : Int32} (hin : vp_in k 30) (hdg : decode cc pc = .ok (.iaload, 1)) (kk : J p l e R s m args below meth c D A nL cells slots Q (WD ad cs n E S o) (pc + 1) lv (.int (S.2 9 k.toNatClampNeg) :: st)) : J p l e R s m args below meth c D A nL cells slots Q (WD ad cs n E S o) pc lv (.int k :: .ref (ad 20) :: st) := j_iaload hc 20 rfl hin hdg kk
theorem as_m9 (hc : CX p l e R s m args below meth c D cs sa A cc nL own ret)  {k : Int32} {x : Int32} (hin : vp_in k 30) (hdg : decode cc pc = .ok (.iastore, 1)) (kk : J p l e R s m args below meth c D A nL cells slots Q (WD ad cs n E (mA S 9 k.toNatClampNeg x) o) (pc + 1) lv st) : J p l e R s m args below meth c D A nL cells slots Q (WD ad cs n E S o) pc lv (.int x :: .int k :: .ref (ad 20) :: st) := j_iastore hc 20 rfl hin rfl hdg kk
theorem al_m10 (hc : CX p l e R s m args below meth c D cs sa A cc nL own ret)  {k : Int32} (hin : vp_in k 30) (hdg : decode cc pc = .ok (.iaload, 1)) (kk : J p l e R s m args below meth c D A nL cells slots Q (WD ad cs n E S o) (pc + 1) lv (.int (S.2 10 k.toNatClampNeg) :: st)) : J p l e R s m args below meth c D A nL cells slots Q (WD ad cs n E S o) pc lv (.int k :: .ref (ad 21) :: st) := j_iaload hc 21 rfl hin hdg kk
theorem as_m10 (hc : CX p l e R s m args below meth c D cs sa A cc nL own ret)  {k : Int32} {x : Int32} (hin : vp_in k 30) (hdg : decode cc pc = .ok (.iastore, 1)) (kk : J p l e R s m args below meth c D A nL cells slots Q (WD ad cs n E (mA S 10 k.toNatClampNeg x) o) (pc + 1) lv st) : J p l e R s m args below meth c D A nL cells slots Q (WD ad cs n E S o) pc lv (.int x :: .int k :: .ref (ad 21) :: st) := j_iastore hc 21 rfl hin rfl hdg kk
theorem al_m11 (hc : CX p l e R s m args below meth c D cs sa A cc nL own ret)  {k : Int32} (hin : vp_in k 30) (hdg : decode cc pc = .ok (.iaload, 1)) (kk : J p l e R s m args below meth c D A nL cells slots Q (WD ad cs n E S o) (pc + 1) lv (.int (S.2 11 k.toNatClampNeg) :: st)) : J p l e R s m args below meth c D A nL cells slots Q (WD ad cs n E S o) pc lv (.int k :: .ref (ad 22) :: st) := j_iaload hc 22 rfl hin hdg kk
theorem as_m11 (hc : CX p l e R s m args below meth c D cs sa A cc nL own ret)  {k : Int32} {x : Int32} (hin : vp_in k 30) (hdg : decode cc pc = .ok (.iastore, 1)) (kk : J p l e R s m args below meth c D A nL cells slots Q (WD ad cs n E (mA S 11 k.toNatClampNeg x) o) (pc + 1) lv st) : J p l e R s m args below meth c D A nL cells slots Q (WD ad cs n E S o) pc lv (.int x :: .int k :: .ref (ad 22) :: st) := j_iastore hc 22 rfl hin rfl hdg kk
theorem al_m12 (hc : CX p l e R s m args below meth c D cs sa A cc nL own ret)  {k : Int32} (hin : vp_in k 30) (hdg : decode cc pc = .ok (.iaload, 1)) (kk : J p l e R s m args below meth c D A nL cells slots Q (WD ad cs n E S o) (pc + 1) lv (.int (S.2 12 k.toNatClampNeg) :: st)) : J p l e R s m args below meth c D A nL cells slots Q (WD ad cs n E S o) pc lv (.int k :: .ref (ad 23) :: st) := j_iaload hc 23 rfl hin hdg kk
theorem as_m12 (hc : CX p l e R s m args below meth c D cs sa A cc nL own ret)  {k : Int32} {x : Int32} (hin : vp_in k 30) (hdg : decode cc pc = .ok (.iastore, 1)) (kk : J p l e R s m args below meth c D A nL cells slots Q (WD ad cs n E (mA S 12 k.toNatClampNeg x) o) (pc + 1) lv st) : J p l e R s m args below meth c D A nL cells slots Q (WD ad cs n E S o) pc lv (.int x :: .int k :: .ref (ad 23) :: st) := j_iastore hc 23 rfl hin rfl hdg kk
theorem al_m13 (hc : CX p l e R s m args below meth c D cs sa A cc nL own ret)  {k : Int32} (hin : vp_in k 30) (hdg : decode cc pc = .ok (.iaload, 1)) (kk : J p l e R s m args below meth c D A nL cells slots Q (WD ad cs n E S o) (pc + 1) lv (.int (S.2 13 k.toNatClampNeg) :: st)) : J p l e R s m args below meth c D A nL cells slots Q (WD ad cs n E S o) pc lv (.int k :: .ref (ad 24) :: st) := j_iaload hc 24 rfl hin hdg kk
theorem as_m13 (hc : CX p l e R s m args below meth c D cs sa A cc nL own ret)  {k : Int32} {x : Int32} (hin : vp_in k 30) (hdg : decode cc pc = .ok (.iastore, 1)) (kk : J p l e R s m args below meth c D A nL cells slots Q (WD ad cs n E (mA S 13 k.toNatClampNeg x) o) (pc + 1) lv st) : J p l e R s m args below meth c D A nL cells slots Q (WD ad cs n E S o) pc lv (.int x :: .int k :: .ref (ad 24) :: st) := j_iastore hc 24 rfl hin rfl hdg kk
theorem al_m14 (hc : CX p l e R s m args below meth c D cs sa A cc nL own ret)  {k : Int32} (hin : vp_in k 30) (hdg : decode cc pc = .ok (.iaload, 1)) (kk : J p l e R s m args below meth c D A nL cells slots Q (WD ad cs n E S o) (pc + 1) lv (.int (S.2 14 k.toNatClampNeg) :: st)) : J p l e R s m args below meth c D A nL cells slots Q (WD ad cs n E S o) pc lv (.int k :: .ref (ad 25) :: st) := j_iaload hc 25 rfl hin hdg kk
theorem as_m14 (hc : CX p l e R s m args below meth c D cs sa A cc nL own ret)  {k : Int32} {x : Int32} (hin : vp_in k 30) (hdg : decode cc pc = .ok (.iastore, 1)) (kk : J p l e R s m args below meth c D A nL cells slots Q (WD ad cs n E (mA S 14 k.toNatClampNeg x) o) (pc + 1) lv st) : J p l e R s m args below meth c D A nL cells slots Q (WD ad cs n E S o) pc lv (.int x :: .int k :: .ref (ad 25) :: st) := j_iastore hc 25 rfl hin rfl hdg kk
theorem al_m15 (hc : CX p l e R s m args below meth c D cs sa A cc nL own ret)  {k : Int32} (hin : vp_in k 150) (hdg : decode cc pc = .ok (.iaload, 1)) (kk : J p l e R s m args below meth c D A nL cells slots Q (WD ad cs n E S o) (pc + 1) lv (.int (S.2 15 k.toNatClampNeg) :: st)) : J p l e R s m args below meth c D A nL cells slots Q (WD ad cs n E S o) pc lv (.int k :: .ref (ad 26) :: st) := j_iaload hc 26 rfl hin hdg kk
theorem as_m15 (hc : CX p l e R s m args below meth c D cs sa A cc nL own ret)  {k : Int32} {x : Int32} (hin : vp_in k 150) (hdg : decode cc pc = .ok (.iastore, 1)) (kk : J p l e R s m args below meth c D A nL cells slots Q (WD ad cs n E (mA S 15 k.toNatClampNeg x) o) (pc + 1) lv st) : J p l e R s m args below meth c D A nL cells slots Q (WD ad cs n E S o) pc lv (.int x :: .int k :: .ref (ad 26) :: st) := j_iastore hc 26 rfl hin rfl hdg kk
theorem al_m16 (hc : CX p l e R s m args below meth c D cs sa A cc nL own ret)  {k : Int32} (hin : vp_in k 30) (hdg : decode cc pc = .ok (.iaload, 1)) (kk : J p l e R s m args below meth c D A nL cells slots Q (WD ad cs n E S o) (pc + 1) lv (.int (S.2 16 k.toNatClampNeg) :: st)) : J p l e R s m args below meth c D A nL cells slots Q (WD ad cs n E S o) pc lv (.int k :: .ref (ad 27) :: st) := j_iaload hc 27 rfl hin hdg kk
theorem as_m16 (hc : CX p l e R s m args below meth c D cs sa A cc nL own ret)  {k : Int32} {x : Int32} (hin : vp_in k 30) (hdg : decode cc pc = .ok (.iastore, 1)) (kk : J p l e R s m args below meth c D A nL cells slots Q (WD ad cs n E (mA S 16 k.toNatClampNeg x) o) (pc + 1) lv st) : J p l e R s m args below meth c D A nL cells slots Q (WD ad cs n E S o) pc lv (.int x :: .int k :: .ref (ad 27) :: st) := j_iastore hc 27 rfl hin rfl hdg kk
theorem al_m17 (hc : CX p l e R s m args below meth c D cs sa A cc nL own ret)  {k : Int32} (hin : vp_in k 30) (hdg : decode cc pc = .ok (.iaload, 1)) (kk : J p l e R s m args below meth c D A nL cells slots Q (WD ad cs n E S o) (pc + 1) lv (.int (S.2 17 k.toNatClampNeg) :: st)) : J p l e R s m args below meth c D A nL cells slots Q (WD ad cs n E S o) pc lv (.int k :: .ref (ad 28) :: st) := j_iaload hc 28 rfl hin hdg kk
theorem as_m17 (hc : CX p l e R s m args below meth c D cs sa A cc nL own ret)  {k : Int32} {x : Int32} (hin : vp_in k 30) (hdg : decode cc pc = .ok (.iastore, 1)) (kk : J p l e R s m args below meth c D A nL cells slots Q (WD ad cs n E (mA S 17 k.toNatClampNeg x) o) (pc + 1) lv st) : J p l e R s m args below meth c D A nL cells slots Q (WD ad cs n E S o) pc lv (.int x :: .int k :: .ref (ad 28) :: st) := j_iastore hc 28 rfl hin rfl hdg kk
theorem al_m18 (hc : CX p l e R s m args below meth c D cs sa A cc nL own ret)  {k : Int32} (hin : vp_in k 30) (hdg : decode cc pc = .ok (.iaload, 1)) (kk : J p l e R s m args below meth c D A nL cells slots Q (WD ad cs n E S o) (pc + 1) lv (.int (S.2 18 k.toNatClampNeg) :: st)) : J p l e R s m args below meth c D A nL cells slots Q (WD ad cs n E S o) pc lv (.int k :: .ref (ad 29) :: st) := j_iaload hc 29 rfl hin hdg kk
theorem as_m18 (hc : CX p l e R s m args below meth c D cs sa A cc nL own ret)  {k : Int32} {x : Int32} (hin : vp_in k 30) (hdg : decode cc pc = .ok (.iastore, 1)) (kk : J p l e R s m args below meth c D A nL cells slots Q (WD ad cs n E (mA S 18 k.toNatClampNeg x) o) (pc + 1) lv st) : J p l e R s m args below meth c D A nL cells slots Q (WD ad cs n E S o) pc lv (.int x :: .int k :: .ref (ad 29) :: st) := j_iastore hc 29 rfl hin rfl hdg kk
theorem al_m19 (hc : CX p l e R s m args below meth c D cs sa A cc nL own ret)  {k : Int32} (hin : vp_in k 30) (hdg : decode cc pc = .ok (.iaload, 1)) (kk : J p l e R s m args below meth c D A nL cells slots Q (WD ad cs n E S o) (pc + 1) lv (.int (S.2 19 k.toNatClampNeg) :: st)) : J p l e R s m args below meth c D A nL cells slots Q (WD ad cs n E S o) pc lv (.int k :: .ref (ad 30) :: st) := j_iaload hc 30 rfl hin hdg kk
theorem as_m19 (hc : CX p l e R s m args below meth c D cs sa A cc nL own ret)  {k : Int32} {x : Int32} (hin : vp_in k 30) (hdg : decode cc pc = .ok (.iastore, 1)) (kk : J p l e R s m args below meth c D A nL cells slots Q (WD ad cs n E (mA S 19 k.toNatClampNeg x) o) (pc + 1) lv st) : J p l e R s m args below meth c D A nL cells slots Q (WD ad cs n E S o) pc lv (.int x :: .int k :: .ref (ad 30) :: st) := j_iastore hc 30 rfl hin rfl hdg kk
theorem al_m23 (hc : CX p l e R s m args below meth c D cs sa A cc nL own ret)  {k : Int32} (hin : vp_in k 400) (hdg : decode cc pc = .ok (.iaload, 1)) (kk : J p l e R s m args below meth c D A nL cells slots Q (WD ad cs n E S o) (pc + 1) lv (.int (S.2 23 k.toNatClampNeg) :: st)) : J p l e R s m args below meth c D A nL cells slots Q (WD ad cs n E S o) pc lv (.int k :: .ref (ad 31) :: st) := j_iaload hc 31 rfl hin hdg kk
theorem as_m23 (hc : CX p l e R s m args below meth c D cs sa A cc nL own ret)  {k : Int32} {x : Int32} (hin : vp_in k 400) (hdg : decode cc pc = .ok (.iastore, 1)) (kk : J p l e R s m args below meth c D A nL cells slots Q (WD ad cs n E (mA S 23 k.toNatClampNeg x) o) (pc + 1) lv st) : J p l e R s m args below meth c D A nL cells slots Q (WD ad cs n E S o) pc lv (.int x :: .int k :: .ref (ad 31) :: st) := j_iastore hc 31 rfl hin rfl hdg kk
theorem al_out (hc : CX p l e R s m args below meth c D cs sa A cc nL own ret)  {k : Int32} (hin : vp_in k 1) (hdg : decode cc pc = .ok (.laload, 1)) (kk : J p l e R s m args below meth c D A nL cells slots Q (WD ad cs n E S o) (pc + 1) lv (.long (o k.toNatClampNeg) :: st)) : J p l e R s m args below meth c D A nL cells slots Q (WD ad cs n E S o) pc lv (.int k :: .ref (ad 32) :: st) := j_laload hc 32 rfl hin hdg kk
theorem as_out (hc : CX p l e R s m args below meth c D cs sa A cc nL own ret)  {k : Int32} {x : Int64} (hin : vp_in k 1) (hdg : decode cc pc = .ok (.lastore, 1)) (kk : J p l e R s m args below meth c D A nL cells slots Q (WD ad cs n E S (vp_updL o k.toNatClampNeg x)) (pc + 1) lv st) : J p l e R s m args below meth c D A nL cells slots Q (WD ad cs n E S o) pc lv (.long x :: .int k :: .ref (ad 32) :: st) := j_lastore hc 32 rfl hin rfl hdg kk
theorem al_gaps (hc : CX p l e R s m args below meth c D cs sa A cc nL own ret) {i : Nat} (hi : i < 4) {k : Int32} (hk : k = nI i) (hdg : decode cc pc = .ok (.aaload, 1)) (kk : J p l e R s m args below meth c D A nL cells slots Q (WD ad cs n E S o) (pc + 1) lv (.ref (ad (4 + 2 * i)) :: st)) : J p l e R s m args below meth c D A nL cells slots Q (WD ad cs n E S o) pc lv (.int k :: .ref (ad 3) :: st) := by
  subst hk
  exact j_aaload hc 3 4 rfl rfl (vp_in_nI hi (by decide)) (by rw [nI_clamp (by omega), gpf, if_pos hi]; rfl) hdg kk
theorem al_row (hc : CX p l e R s m args below meth c D cs sa A cc nL own ret) {b : Nat} (hb : b < n) (hn : n ≤ 30) {k : Int32} (hk : k = nI b) (hdg : decode cc pc = .ok (.aaload, 1)) (kk : J p l e R s m args below meth c D A nL cells slots Q (WD ad cs n E S o) (pc + 1) lv (.ref (ad (33 + 2 * b)) :: st)) : J p l e R s m args below meth c D A nL cells slots Q (WD ad cs n E S o) pc lv (.int k :: .ref (ad 12) :: st) := by
  subst hk
  exact j_aaload hc 12 3 rfl rfl (vp_in_nI (by omega) (by decide)) (by rw [nI_clamp (by omega), brf, if_pos hb]; rfl) hdg kk
theorem al_rowN (hc : CX p l e R s m args below meth c D cs sa A cc nL own ret) {b : Nat} (hb : ¬ b < n) (hn : b < 30) {k : Int32} (hk : k = nI b) (hdg : decode cc pc = .ok (.aaload, 1)) (kk : J p l e R s m args below meth c D A nL cells slots Q (WD ad cs n E S o) (pc + 1) lv (.null :: st)) : J p l e R s m args below meth c D A nL cells slots Q (WD ad cs n E S o) pc lv (.int k :: .ref (ad 12) :: st) := by
  subst hk
  exact j_aaload hc 12 3 rfl rfl (vp_in_nI hn (by decide)) (by rw [nI_clamp (by omega), brf, if_neg hb]; rfl) hdg kk
theorem ln_hol (hc : CX p l e R s m args below meth c D cs sa A cc nL own ret)  (hdg : decode cc pc = .ok (.arraylength, 1)) (kk : J p l e R s m args below meth c D A nL cells slots Q (WD ad cs n E S o) (pc + 1) lv (.int 485 :: st)) : J p l e R s m args below meth c D A nL cells slots Q (WD ad cs n E S o) pc lv (.ref (ad 2) :: st) := j_alen hc 2 1 rfl rfl rfl hdg kk
theorem ln_gap (hc : CX p l e R s m args below meth c D cs sa A cc nL own ret) {i : Nat} (hi : i < 4) (hdg : decode cc pc = .ok (.arraylength, 1)) (kk : J p l e R s m args below meth c D A nL cells slots Q (WD ad cs n E S o) (pc + 1) lv (.int 6 :: st)) : J p l e R s m args below meth c D A nL cells slots Q (WD ad cs n E S o) pc lv (.ref (ad (5 + 2 * i)) :: st) := j_alen hc (5 + 2 * i) 0 (wd_gapd hi) rfl rfl hdg kk
theorem ln_row (hc : CX p l e R s m args below meth c D cs sa A cc nL own ret)  (hdg : decode cc pc = .ok (.arraylength, 1)) (kk : J p l e R s m args below meth c D A nL cells slots Q (WD ad cs n E S o) (pc + 1) lv (.int 30 :: st)) : J p l e R s m args below meth c D A nL cells slots Q (WD ad cs n E S o) pc lv (.ref (ad 12) :: st) := j_alen hc 12 3 rfl rfl rfl hdg kk
end GP
/-- a room by its depth -/
abbrev RM (k mc ms : Nat) : Room := { frames := k, cells := mc, slots := ms, locals := 30 * k }
theorem ic_L_82 : IC RL 82 yX4_init cX4_init 1 0 := ⟨wt_17, wt_18, wt_1, wt_19, rfl, by decide, by decide, by decide +kernel⟩
theorem ic_X4_9 : IC RX4 9 yX1_init cX1_init 1 0 := ⟨wt_25, wt_26, wt_2, wt_27, rfl, by decide, by decide, by decide +kernel⟩
theorem ic_X4_22 : IC RX4 22 yX3_init cX3_init 3 1 := ⟨wt_43, wt_44, wt_3, wt_45, rfl, by decide, by decide, by decide +kernel⟩
theorem ic_X4_46 : IC RX4 46 yX2_init cX2_init 1 0 := ⟨wt_66, wt_67, wt_4, wt_68, rfl, by decide, by decide, by decide +kernel⟩
theorem vc_L_125 : VC RL 125 RX4 yX4_today cX4_today 1 (Option.some Jvm.ClassFile.FieldType.int) 0 := ⟨wt_115, wt_116, wt_117, wt_1, wt_118, rfl, by decide, by decide, by decide +kernel⟩
theorem vc_L_132 : VC RL 132 RX4 yX4_bills cX4_bills 1 (Option.some Jvm.ClassFile.FieldType.int) 0 := ⟨wt_119, wt_120, wt_121, wt_1, wt_122, rfl, by decide, by decide, by decide +kernel⟩
theorem vc_L_157 : VC RL 157 RX4 yX4_billed cX4_billed 1 (Option.some Jvm.ClassFile.FieldType.int) 0 := ⟨wt_123, wt_124, wt_125, wt_1, wt_126, rfl, by decide, by decide, by decide +kernel⟩
theorem vc_L_161 : VC RL 161 RX4 yX4_paid cX4_paid 1 (Option.some Jvm.ClassFile.FieldType.int) 0 := ⟨wt_127, wt_128, wt_129, wt_1, wt_130, rfl, by decide, by decide, by decide +kernel⟩
theorem vc_L_165 : VC RL 165 RX4 yX4_writtenOff cX4_writtenOff 1 (Option.some Jvm.ClassFile.FieldType.int) 0 := ⟨wt_131, wt_132, wt_133, wt_1, wt_134, rfl, by decide, by decide, by decide +kernel⟩
theorem vc_L_169 : VC RL 169 RX4 yX4_broughtBack cX4_broughtBack 1 (Option.some Jvm.ClassFile.FieldType.int) 0 := ⟨wt_135, wt_136, wt_137, wt_1, wt_138, rfl, by decide, by decide, by decide +kernel⟩
theorem vc_L_176 : VC RL 176 RX4 yX4_events cX4_events 1 (Option.some Jvm.ClassFile.FieldType.int) 0 := ⟨wt_139, wt_140, wt_141, wt_1, wt_142, rfl, by decide, by decide, by decide +kernel⟩
theorem vc_L_7 : VC RL 7 RX4 yX4_setWeekday cX4_setWeekday 4 (Option.some Jvm.ClassFile.FieldType.int) 2 := ⟨wt_148, wt_149, wt_150, wt_1, wt_151, rfl, by decide, by decide, by decide +kernel⟩
theorem vc_X4_65 : VC RX4 65 RX1 yX1_weekdaysWith cX1_weekdaysWith 4 (Option.some Jvm.ClassFile.FieldType.int) 2 := ⟨wt_220, wt_221, wt_222, wt_2, wt_223, rfl, by decide, by decide, by decide +kernel⟩
theorem sc_X4_77 : SC RX4 77 yJ6_bitCount_0f7a4 cJ6_bitCount_0f7a4 1 (Option.some Jvm.ClassFile.FieldType.int) 1 := ⟨wt_240, wt_241, wt_11, wt_242, by decide, by decide, by decide +kernel⟩
theorem vc_L_17 : VC RL 17 RX4 yX4_addHoliday cX4_addHoliday 3 (Option.some Jvm.ClassFile.FieldType.boolean) 1 := ⟨wt_250, wt_251, wt_252, wt_1, wt_253, rfl, by decide, by decide, by decide +kernel⟩
theorem sc_X4_86 : SC RX4 86 yX4_checkRange cX4_checkRange 3 (Option.none : Option Jvm.ClassFile.FieldType) 3 := ⟨wt_254, wt_255, wt_1, wt_256, by decide, by decide, by decide +kernel⟩
theorem vc_X4_90 : VC RX4 90 RX1 yX1_isHoliday cX1_isHoliday 3 (Option.some Jvm.ClassFile.FieldType.boolean) 1 := ⟨wt_273, wt_274, wt_275, wt_2, wt_276, rfl, by decide, by decide, by decide +kernel⟩
theorem vc_X4_94 : VC RX4 94 RX1 yX1_keepHoliday cX1_keepHoliday 3 (Option.none : Option Jvm.ClassFile.FieldType) 1 := ⟨wt_277, wt_278, wt_279, wt_2, wt_280, rfl, by decide, by decide, by decide +kernel⟩
theorem vc_L_23 : VC RL 23 RX4 yX4_addGap cX4_addGap 4 (Option.some Jvm.ClassFile.FieldType.int) 2 := ⟨wt_284, wt_285, wt_286, wt_1, wt_287, rfl, by decide, by decide, by decide +kernel⟩
theorem sc_X4_98 : SC RX4 98 yX4_indexOfReason cX4_indexOfReason 1 (Option.some Jvm.ClassFile.FieldType.int) 1 := ⟨wt_288, wt_289, wt_1, wt_290, by decide, by decide, by decide +kernel⟩
theorem vc_X4_106 : VC RX4 106 RX3 yX3_append cX3_append 2 (Option.none : Option Jvm.ClassFile.FieldType) 1 := ⟨wt_293, wt_294, wt_295, wt_3, wt_296, rfl, by decide, by decide, by decide +kernel⟩
theorem vc_L_27 : VC RL 27 RX4 yX4_clearGaps cX4_clearGaps 4 (Option.some Jvm.ClassFile.FieldType.int) 1 := ⟨wt_300, wt_301, wt_302, wt_1, wt_303, rfl, by decide, by decide, by decide +kernel⟩
theorem vc_L_31 : VC RL 31 RX4 yX4_setTimes cX4_setTimes 4 (Option.some Jvm.ClassFile.FieldType.int) 2 := ⟨wt_307, wt_308, wt_309, wt_1, wt_310, rfl, by decide, by decide, by decide +kernel⟩
theorem vc_L_34 : VC RL 34 RX4 yX4_bill cX4_bill 5 (Option.some Jvm.ClassFile.FieldType.int) 2 := ⟨wt_314, wt_315, wt_316, wt_1, wt_317, rfl, by decide, by decide, by decide +kernel⟩
theorem sc_X4_109 : SC RX4 109 yX4_checkAccount cX4_checkAccount 1 (Option.none : Option Jvm.ClassFile.FieldType) 1 := ⟨wt_318, wt_319, wt_1, wt_320, by decide, by decide, by decide +kernel⟩
theorem ic_X4_117 : IC RX4 117 yX0_init cX0_init 4 3 := ⟨wt_324, wt_325, wt_13, wt_326, rfl, by decide, by decide, by decide +kernel⟩
theorem vc_X4_122 : VC RX4 122 RX1 yX1_firstChargingFrom cX1_firstChargingFrom 4 (Option.some Jvm.ClassFile.FieldType.int) 1 := ⟨wt_366, wt_367, wt_368, wt_2, wt_369, rfl, by decide, by decide, by decide +kernel⟩
theorem vc_X1_27 : VC RX1 27 RX1 yX1_allowsCharging cX1_allowsCharging 3 (Option.some Jvm.ClassFile.FieldType.boolean) 1 := ⟨wt_370, wt_371, wt_372, wt_2, wt_373, rfl, by decide, by decide, by decide +kernel⟩
theorem sc_X1_17 : SC RX1 17 yJ9_floorMod_7cf53 cJ9_floorMod_7cf53 3 (Option.some Jvm.ClassFile.FieldType.int) 2 := ⟨wt_374, wt_375, wt_14, wt_376, by decide, by decide, by decide +kernel⟩
theorem vc_X1_23 : VC RX1 23 RX1 yX1_isHoliday cX1_isHoliday 3 (Option.some Jvm.ClassFile.FieldType.boolean) 1 := ⟨wt_377, wt_274, wt_275, wt_2, wt_276, rfl, by decide, by decide, by decide +kernel⟩
theorem vc_X4_125 : VC RX4 125 RX4 yX4_enter cX4_enter 4 (Option.none : Option Jvm.ClassFile.FieldType) 3 := ⟨wt_378, wt_380, wts_1, wt_1, wt_381, rfl, by decide, by decide, by decide +kernel⟩
theorem vc_X4_234 : VC RX4 234 RX2 yX2_add cX2_add 4 (Option.none : Option Jvm.ClassFile.FieldType) 3 := ⟨wt_382, wt_383, wt_384, wt_4, wt_385, rfl, by decide, by decide, by decide +kernel⟩
theorem sc_X2_19 : SC RX2 19 yJ9_floorMod_7cf53 cJ9_floorMod_7cf53 3 (Option.some Jvm.ClassFile.FieldType.int) 2 := ⟨wt_386, wt_375, wt_14, wt_376, by decide, by decide, by decide +kernel⟩
theorem vc_L_37 : VC RL 37 RX4 yX4_outcome cX4_outcome 4 (Option.some Jvm.ClassFile.FieldType.int) 2 := ⟨wt_390, wt_391, wt_392, wt_1, wt_393, rfl, by decide, by decide, by decide +kernel⟩
theorem vc_X4_129 : VC RX4 129 RX4 yX4_findBill cX4_findBill 3 (Option.some (Jvm.ClassFile.FieldType.object "CollectionsEngine$Bill")) 1 := ⟨wt_394, wt_396, wts_2, wt_1, wt_397, rfl, by decide, by decide, by decide +kernel⟩
theorem vc_X4_141 : VC RX4 141 RX4 yX4_takePayment cX4_takePayment 3 (Option.none : Option Jvm.ClassFile.FieldType) 2 := ⟨wt_400, wt_402, wts_3, wt_1, wt_403, rfl, by decide, by decide, by decide +kernel⟩
theorem vc_X4_145 : VC RX4 145 RX4 yX4_fail cX4_fail 5 (Option.none : Option Jvm.ClassFile.FieldType) 2 := ⟨wt_404, wt_406, wts_4, wt_1, wt_407, rfl, by decide, by decide, by decide +kernel⟩
theorem vc_X4_237 : VC RX4 237 RX3 yX3_daysBehind cX3_daysBehind 3 (Option.some Jvm.ClassFile.FieldType.int) 1 := ⟨wt_408, wt_409, wt_410, wt_3, wt_411, rfl, by decide, by decide, by decide +kernel⟩
theorem vc_L_40 : VC RL 40 RX4 yX4_pay cX4_pay 4 (Option.some Jvm.ClassFile.FieldType.int) 2 := ⟨wt_415, wt_416, wt_417, wt_1, wt_418, rfl, by decide, by decide, by decide +kernel⟩
theorem vc_L_43 : VC RL 43 RX4 yX4_promise cX4_promise 5 (Option.some Jvm.ClassFile.FieldType.int) 2 := ⟨wt_423, wt_424, wt_425, wt_1, wt_426, rfl, by decide, by decide, by decide +kernel⟩
theorem vc_L_46 : VC RL 46 RX4 yX4_pass cX4_pass 4 (Option.some Jvm.ClassFile.FieldType.int) 1 := ⟨wt_431, wt_432, wt_433, wt_1, wt_434, rfl, by decide, by decide, by decide +kernel⟩
theorem vc_X4_164 : VC RX4 164 RX4 yX4_failUnansweredTries cX4_failUnansweredTries 3 (Option.none : Option Jvm.ClassFile.FieldType) 0 := ⟨wt_435, wt_437, wts_5, wt_1, wt_438, rfl, by decide, by decide, by decide +kernel⟩
theorem vc_X4_167 : VC RX4 167 RX4 yX4_lookAtBills cX4_lookAtBills 4 (Option.some Jvm.ClassFile.FieldType.int) 0 := ⟨wt_439, wt_441, wts_6, wt_1, wt_442, rfl, by decide, by decide, by decide +kernel⟩
theorem vc_X4_240 : VC RX4 240 RX4 yX4_lookAt cX4_lookAt 2 (Option.some Jvm.ClassFile.FieldType.boolean) 1 := ⟨wt_443, wt_445, wts_7, wt_1, wt_446, rfl, by decide, by decide, by decide +kernel⟩
theorem vc_X4_244 : VC RX4 244 RX4 yX4_beginTry cX4_beginTry 2 (Option.some Jvm.ClassFile.FieldType.boolean) 1 := ⟨wt_447, wt_449, wts_8, wt_1, wt_450, rfl, by decide, by decide, by decide +kernel⟩
theorem vc_X4_172 : VC RX4 172 RX1 yX1_allowsCharging cX1_allowsCharging 3 (Option.some Jvm.ClassFile.FieldType.boolean) 1 := ⟨wt_451, wt_371, wt_372, wt_2, wt_373, rfl, by decide, by decide, by decide +kernel⟩
theorem vc_X4_247 : VC RX4 247 RX4 yX4_breakPromise cX4_breakPromise 2 (Option.none : Option Jvm.ClassFile.FieldType) 1 := ⟨wt_452, wt_454, wts_9, wt_1, wt_455, rfl, by decide, by decide, by decide +kernel⟩
theorem vc_L_49 : VC RL 49 RX4 yX4_isCharging cX4_isCharging 2 (Option.some Jvm.ClassFile.FieldType.boolean) 1 := ⟨wt_459, wt_460, wt_461, wt_1, wt_462, rfl, by decide, by decide, by decide +kernel⟩
theorem vc_L_52 : VC RL 52 RX4 yX4_stateOf cX4_stateOf 2 (Option.some Jvm.ClassFile.FieldType.int) 1 := ⟨wt_467, wt_468, wt_469, wt_1, wt_470, rfl, by decide, by decide, by decide +kernel⟩
theorem vc_L_55 : VC RL 55 RX4 yX4_left cX4_left 2 (Option.some Jvm.ClassFile.FieldType.int) 1 := ⟨wt_474, wt_475, wt_476, wt_1, wt_477, rfl, by decide, by decide, by decide +kernel⟩
theorem vc_L_58 : VC RL 58 RX4 yX4_tries cX4_tries 2 (Option.some Jvm.ClassFile.FieldType.int) 1 := ⟨wt_481, wt_482, wt_483, wt_1, wt_484, rfl, by decide, by decide, by decide +kernel⟩
theorem vc_L_61 : VC RL 61 RX4 yX4_failures cX4_failures 4 (Option.some Jvm.ClassFile.FieldType.int) 2 := ⟨wt_488, wt_489, wt_490, wt_1, wt_491, rfl, by decide, by decide, by decide +kernel⟩
theorem vc_L_64 : VC RL 64 RX4 yX4_waitsFor cX4_waitsFor 2 (Option.some Jvm.ClassFile.FieldType.int) 1 := ⟨wt_495, wt_496, wt_497, wt_1, wt_498, rfl, by decide, by decide, by decide +kernel⟩
theorem vc_L_67 : VC RL 67 RX4 yX4_broken cX4_broken 2 (Option.some Jvm.ClassFile.FieldType.int) 1 := ⟨wt_502, wt_503, wt_504, wt_1, wt_505, rfl, by decide, by decide, by decide +kernel⟩
theorem vc_L_70 : VC RL 70 RX4 yX4_service cX4_service 5 (Option.some Jvm.ClassFile.FieldType.int) 1 := ⟨wt_509, wt_510, wt_511, wt_1, wt_512, rfl, by decide, by decide, by decide +kernel⟩
theorem sc_X4_187 : SC RX4 187 yX4_serviceWith cX4_serviceWith 2 (Option.some Jvm.ClassFile.FieldType.int) 1 := ⟨wt_513, wt_514, wt_1, wt_515, by decide, by decide, by decide +kernel⟩
theorem sc_X4_191 : SC RX4 191 yJ9_min_7cf53 cJ9_min_7cf53 2 (Option.some Jvm.ClassFile.FieldType.int) 2 := ⟨wt_516, wt_517, wt_14, wt_518, by decide, by decide, by decide +kernel⟩
theorem vc_L_73 : VC RL 73 RX4 yX4_leftIn cX4_leftIn 6 (Option.some Jvm.ClassFile.FieldType.int) 2 := ⟨wt_522, wt_523, wt_524, wt_1, wt_525, rfl, by decide, by decide, by decide +kernel⟩
theorem vc_L_76 : VC RL 76 RX4 yX4_event cX4_event 2 (Option.some Jvm.ClassFile.FieldType.int) 1 := ⟨wt_529, wt_530, wt_531, wt_1, wt_532, rfl, by decide, by decide, by decide +kernel⟩
theorem vc_X4_209 : VC RX4 209 RX2 yX2_told cX2_told 1 (Option.some Jvm.ClassFile.FieldType.int) 0 := ⟨wt_533, wt_534, wt_535, wt_4, wt_536, rfl, by decide, by decide, by decide +kernel⟩
theorem sc_X2_25 : SC RX2 25 yJ9_min_7cf53 cJ9_min_7cf53 2 (Option.some Jvm.ClassFile.FieldType.int) 2 := ⟨wt_537, wt_517, wt_14, wt_518, by decide, by decide, by decide +kernel⟩
theorem vc_X4_214 : VC RX4 214 RX2 yX2_codeAt cX2_codeAt 2 (Option.some Jvm.ClassFile.FieldType.int) 1 := ⟨wt_539, wt_540, wt_541, wt_4, wt_542, rfl, by decide, by decide, by decide +kernel⟩
theorem vc_L_79 : VC RL 79 RX4 yX4_stateAt cX4_stateAt 3 (Option.some Jvm.ClassFile.FieldType.int) 2 := ⟨wt_546, wt_547, wt_548, wt_1, wt_549, rfl, by decide, by decide, by decide +kernel⟩
theorem vc_X4_217 : VC RX4 217 RX2 yX2_lastStateOf cX2_lastStateOf 7 (Option.some Jvm.ClassFile.FieldType.int) 2 := ⟨wt_550, wt_551, wt_552, wt_4, wt_553, rfl, by decide, by decide, by decide +kernel⟩
theorem vc_X2_28 : VC RX2 28 RX2 yX2_told cX2_told 1 (Option.some Jvm.ClassFile.FieldType.int) 0 := ⟨wt_554, wt_534, wt_535, wt_4, wt_536, rfl, by decide, by decide, by decide +kernel⟩
theorem vc_X2_32 : VC RX2 32 RX2 yX2_codeAt cX2_codeAt 2 (Option.some Jvm.ClassFile.FieldType.int) 1 := ⟨wt_555, wt_540, wt_541, wt_4, wt_542, rfl, by decide, by decide, by decide +kernel⟩
theorem ic_L_85 : IC RL 85 yX5_init cX5_init 2 0 := ⟨wt_558, wt_559, wt_5, wt_560, rfl, by decide, by decide, by decide +kernel⟩
theorem vc_X5_59 : VC RX5 59 RX5 yX5_addGaps cX5_addGaps 5 (Option.none : Option Jvm.ClassFile.FieldType) 4 := ⟨wt_562, wt_564, wts_10, wt_5, wt_565, rfl, by decide, by decide, by decide +kernel⟩
theorem vc_L_92 : VC RL 92 RX5 yX5_thrown cX5_thrown 1 (Option.some Jvm.ClassFile.FieldType.int) 0 := ⟨wt_646, wt_647, wt_648, wt_5, wt_649, rfl, by decide, by decide, by decide +kernel⟩
theorem vc_L_91 : VC RL 91 RX5 yX5_setWeekday cX5_setWeekday 5 (Option.some Jvm.ClassFile.FieldType.int) 2 := ⟨wt_650, wt_651, wt_652, wt_5, wt_653, rfl, by decide, by decide, by decide +kernel⟩
theorem sc_X5_83 : SC RX5 83 yX5_in cX5_in 3 (Option.some Jvm.ClassFile.FieldType.boolean) 3 := ⟨wt_654, wt_655, wt_5, wt_656, by decide, by decide, by decide +kernel⟩
theorem vc_L_99 : VC RL 99 RX5 yX5_addHoliday cX5_addHoliday 2 (Option.some Jvm.ClassFile.FieldType.boolean) 1 := ⟨wt_657, wt_658, wt_659, wt_5, wt_660, rfl, by decide, by decide, by decide +kernel⟩
theorem vc_X5_76 : VC RX5 76 RX5 yX5_isHoliday cX5_isHoliday 4 (Option.some Jvm.ClassFile.FieldType.boolean) 1 := ⟨wt_661, wt_663, wts_11, wt_5, wt_664, rfl, by decide, by decide, by decide +kernel⟩
theorem vc_L_103 : VC RL 103 RX5 yX5_addGap cX5_addGap 3 (Option.some Jvm.ClassFile.FieldType.int) 2 := ⟨wt_665, wt_666, wt_667, wt_5, wt_668, rfl, by decide, by decide, by decide +kernel⟩
theorem vc_L_106 : VC RL 106 RX5 yX5_clearGaps cX5_clearGaps 3 (Option.some Jvm.ClassFile.FieldType.int) 1 := ⟨wt_669, wt_670, wt_671, wt_5, wt_672, rfl, by decide, by decide, by decide +kernel⟩
theorem vc_L_109 : VC RL 109 RX5 yX5_setTimes cX5_setTimes 4 (Option.some Jvm.ClassFile.FieldType.int) 2 := ⟨wt_673, wt_674, wt_675, wt_5, wt_676, rfl, by decide, by decide, by decide +kernel⟩
theorem vc_L_112 : VC RL 112 RX5 yX5_bill cX5_bill 4 (Option.some Jvm.ClassFile.FieldType.int) 2 := ⟨wt_677, wt_678, wt_679, wt_5, wt_680, rfl, by decide, by decide, by decide +kernel⟩
theorem vc_X5_96 : VC RX5 96 RX5 yX5_chargingFrom cX5_chargingFrom 3 (Option.some Jvm.ClassFile.FieldType.int) 1 := ⟨wt_681, wt_683, wts_12, wt_5, wt_684, rfl, by decide, by decide, by decide +kernel⟩
theorem vc_X5_80 : VC RX5 80 RX5 yX5_charges cX5_charges 2 (Option.some Jvm.ClassFile.FieldType.boolean) 1 := ⟨wt_685, wt_687, wts_13, wt_5, wt_688, rfl, by decide, by decide, by decide +kernel⟩
theorem vc_X5_100 : VC RX5 100 RX5 yX5_enter cX5_enter 3 (Option.none : Option Jvm.ClassFile.FieldType) 2 := ⟨wt_689, wt_691, wts_14, wt_5, wt_692, rfl, by decide, by decide, by decide +kernel⟩
theorem vc_L_115 : VC RL 115 RX5 yX5_outcome cX5_outcome 3 (Option.some Jvm.ClassFile.FieldType.int) 2 := ⟨wt_693, wt_694, wt_695, wt_5, wt_696, rfl, by decide, by decide, by decide +kernel⟩
theorem vc_X5_107 : VC RX5 107 RX5 yX5_isBill cX5_isBill 2 (Option.some Jvm.ClassFile.FieldType.boolean) 1 := ⟨wt_697, wt_699, wts_15, wt_5, wt_700, rfl, by decide, by decide, by decide +kernel⟩
theorem vc_X5_110 : VC RX5 110 RX5 yX5_receive cX5_receive 3 (Option.none : Option Jvm.ClassFile.FieldType) 2 := ⟨wt_701, wt_703, wts_16, wt_5, wt_704, rfl, by decide, by decide, by decide +kernel⟩
theorem vc_X5_113 : VC RX5 113 RX5 yX5_fail cX5_fail 4 (Option.none : Option Jvm.ClassFile.FieldType) 2 := ⟨wt_705, wt_707, wts_17, wt_5, wt_708, rfl, by decide, by decide, by decide +kernel⟩
theorem vc_L_118 : VC RL 118 RX5 yX5_pay cX5_pay 3 (Option.some Jvm.ClassFile.FieldType.int) 2 := ⟨wt_709, wt_710, wt_711, wt_5, wt_712, rfl, by decide, by decide, by decide +kernel⟩
theorem vc_L_121 : VC RL 121 RX5 yX5_promise cX5_promise 4 (Option.some Jvm.ClassFile.FieldType.int) 2 := ⟨wt_713, wt_714, wt_715, wt_5, wt_716, rfl, by decide, by decide, by decide +kernel⟩
theorem vc_L_124 : VC RL 124 RX5 yX5_pass cX5_pass 4 (Option.some Jvm.ClassFile.FieldType.int) 1 := ⟨wt_717, wt_718, wt_719, wt_5, wt_720, rfl, by decide, by decide, by decide +kernel⟩
theorem vc_X5_129 : VC RX5 129 RX5 yX5_passDay cX5_passDay 3 (Option.some Jvm.ClassFile.FieldType.int) 0 := ⟨wt_721, wt_723, wts_18, wt_5, wt_724, rfl, by decide, by decide, by decide +kernel⟩
theorem vc_X5_126 : VC RX5 126 RX5 yX5_look cX5_look 3 (Option.some Jvm.ClassFile.FieldType.boolean) 1 := ⟨wt_725, wt_727, wts_19, wt_5, wt_728, rfl, by decide, by decide, by decide +kernel⟩
theorem vc_X5_122 : VC RX5 122 RX5 yX5_breakPromise cX5_breakPromise 2 (Option.none : Option Jvm.ClassFile.FieldType) 1 := ⟨wt_729, wt_731, wts_20, wt_5, wt_732, rfl, by decide, by decide, by decide +kernel⟩
theorem vc_L_128 : VC RL 128 RX5 yX5_today cX5_today 1 (Option.some Jvm.ClassFile.FieldType.int) 0 := ⟨wt_733, wt_734, wt_735, wt_5, wt_736, rfl, by decide, by decide, by decide +kernel⟩
theorem vc_L_131 : VC RL 131 RX5 yX5_isCharging cX5_isCharging 2 (Option.some Jvm.ClassFile.FieldType.boolean) 1 := ⟨wt_737, wt_738, wt_739, wt_5, wt_740, rfl, by decide, by decide, by decide +kernel⟩
theorem vc_L_135 : VC RL 135 RX5 yX5_bills cX5_bills 1 (Option.some Jvm.ClassFile.FieldType.int) 0 := ⟨wt_742, wt_743, wt_744, wt_5, wt_745, rfl, by decide, by decide, by decide +kernel⟩
theorem vc_L_138 : VC RL 138 RX5 yX5_stateOf cX5_stateOf 2 (Option.some Jvm.ClassFile.FieldType.int) 1 := ⟨wt_746, wt_747, wt_748, wt_5, wt_749, rfl, by decide, by decide, by decide +kernel⟩
theorem vc_L_141 : VC RL 141 RX5 yX5_left cX5_left 2 (Option.some Jvm.ClassFile.FieldType.int) 1 := ⟨wt_750, wt_751, wt_752, wt_5, wt_753, rfl, by decide, by decide, by decide +kernel⟩
theorem vc_L_144 : VC RL 144 RX5 yX5_tries cX5_tries 2 (Option.some Jvm.ClassFile.FieldType.int) 1 := ⟨wt_754, wt_755, wt_756, wt_5, wt_757, rfl, by decide, by decide, by decide +kernel⟩
theorem vc_L_147 : VC RL 147 RX5 yX5_failures cX5_failures 3 (Option.some Jvm.ClassFile.FieldType.int) 2 := ⟨wt_758, wt_759, wt_760, wt_5, wt_761, rfl, by decide, by decide, by decide +kernel⟩
theorem vc_L_150 : VC RL 150 RX5 yX5_waitsFor cX5_waitsFor 2 (Option.some Jvm.ClassFile.FieldType.int) 1 := ⟨wt_762, wt_763, wt_764, wt_5, wt_765, rfl, by decide, by decide, by decide +kernel⟩
theorem vc_L_153 : VC RL 153 RX5 yX5_broken cX5_broken 2 (Option.some Jvm.ClassFile.FieldType.int) 1 := ⟨wt_766, wt_767, wt_768, wt_5, wt_769, rfl, by decide, by decide, by decide +kernel⟩
theorem vc_L_156 : VC RL 156 RX5 yX5_service cX5_service 7 (Option.some Jvm.ClassFile.FieldType.int) 1 := ⟨wt_770, wt_771, wt_772, wt_5, wt_773, rfl, by decide, by decide, by decide +kernel⟩
theorem vc_L_160 : VC RL 160 RX5 yX5_billed cX5_billed 3 (Option.some Jvm.ClassFile.FieldType.int) 0 := ⟨wt_774, wt_775, wt_776, wt_5, wt_777, rfl, by decide, by decide, by decide +kernel⟩
theorem vc_L_164 : VC RL 164 RX5 yX5_paid cX5_paid 1 (Option.some Jvm.ClassFile.FieldType.int) 0 := ⟨wt_778, wt_779, wt_780, wt_5, wt_781, rfl, by decide, by decide, by decide +kernel⟩
theorem vc_L_168 : VC RL 168 RX5 yX5_writtenOff cX5_writtenOff 1 (Option.some Jvm.ClassFile.FieldType.int) 0 := ⟨wt_782, wt_783, wt_784, wt_5, wt_785, rfl, by decide, by decide, by decide +kernel⟩
theorem vc_L_172 : VC RL 172 RX5 yX5_broughtBack cX5_broughtBack 1 (Option.some Jvm.ClassFile.FieldType.int) 0 := ⟨wt_786, wt_787, wt_788, wt_5, wt_789, rfl, by decide, by decide, by decide +kernel⟩
theorem vc_L_175 : VC RL 175 RX5 yX5_leftIn cX5_leftIn 5 (Option.some Jvm.ClassFile.FieldType.int) 2 := ⟨wt_790, wt_791, wt_792, wt_5, wt_793, rfl, by decide, by decide, by decide +kernel⟩
theorem vc_L_179 : VC RL 179 RX5 yX5_events cX5_events 1 (Option.some Jvm.ClassFile.FieldType.int) 0 := ⟨wt_794, wt_795, wt_796, wt_5, wt_797, rfl, by decide, by decide, by decide +kernel⟩
theorem vc_L_182 : VC RL 182 RX5 yX5_event cX5_event 2 (Option.some Jvm.ClassFile.FieldType.int) 1 := ⟨wt_798, wt_799, wt_800, wt_5, wt_801, rfl, by decide, by decide, by decide +kernel⟩
theorem vc_L_185 : VC RL 185 RX5 yX5_stateAt cX5_stateAt 5 (Option.some Jvm.ClassFile.FieldType.int) 2 := ⟨wt_802, wt_803, wt_804, wt_5, wt_805, rfl, by decide, by decide, by decide +kernel⟩
end
section
section R5
variable {p : Program} {l : Launch} {e : Env} {R : Room} {s : State} {m : MethodId} {args : Array Value} {below : List Frame} {meth : Method} {c : Code} {D : va_G} {cs : Nat → ClassId} {sa : Nat → Nat} {A : Nat → Prop} {cc : ByteArray} {nL : Nat} {own : String} {ret : Option FieldType} {cells slots : Nat} {Q : State → Prop} {w : va_W} {pc : Nat} {lv : List (Nat × Value)} {st : List Value}
theorem j_inc (hc : CX p l e R s m args below meth c D cs sa A cc nL own ret) {i : Nat} {n : Int} {x z : Int32} (hdg : decode cc pc = .ok (.iinc i n, 3)) (hg : lgt lv i = some (.int x)) (hz : Int32.ofInt n = z) (hn : Nat.blt i nL = true) (k : J p l e R s m args below meth c D A nL cells slots Q w (pc + 3) (lst lv i (.int (x + z))) st) : J p l e R s m args below meth c D A nL cells slots Q w pc lv st := j_iinc hc hdg hg (by rw [hz]) hn k
theorem j_ldcw (hc : CX p l e R s m args below meth c D cs sa A cc nL own ret) {index : Nat} {v : Int32} (hm : Cond.constant own index v ∈ WT) (hdg : decode cc pc = .ok (.ldc_w index, 3)) (k : J p l e R s m args below meth c D A nL cells slots Q w (pc + 3) lv (.int v :: st)) : J p l e R s m args below meth c D A nL cells slots Q w pc lv st := fun H locs ls hP hD hS hl => lv_ldcw hc.1.1 hc.1.2.1 hc.1.2.2.2.1 (hc.1.2.2.2.2 _ hm) hdg (k H locs ls hP hD hS hl)
def exN : List String := ["java/lang/RuntimeException", "java/lang/Exception"]
def exB : List Cond := nwD.map (fun x => .declares x) ++ nwC.map (fun x => .castable x x)
theorem j_throwS (hc : CX p l e R s m args below meth c D cs sa A cc nL RX4 ret) {mc0 ms0 : Nat} {w0 : va_W} {r0 : Rs} (ho : ∀ x ∈ c.exceptionTable.toList, False) {cls tx : String} {ik is ic : Nat} (hfit : Bundle.fit cls = true) (hs : (is, tx) ∈ strs) (hk : Cond.classLink RX4 ik cls ∈ WT) (hini : Cond.initialized cls ∈ WT)
    (hg : ∀ w ∈ (vx_atS RX4 ic cls exN).filter goodWord, w ∈ WT) (hb : ∀ w ∈ (vx_atS RX4 ic cls exN).filter (fun w => !goodWord w), w ∈ exB) (hot : ∀ w ∈ Cond.classLink RX4 ik cls :: Cond.initialized cls :: vx_atS RX4 ic cls exN, vx_ot w = true)
    (d0 : decode cc pc = .ok (.new ik, 3)) (d3 : decode cc (pc + 3) = .ok (.dup, 1)) (d4 : decode cc (pc + 4) = .ok (.ldc is, 2)) (d6 : decode cc (pc + 6) = .ok (.invokespecial ic, 3)) (d9 : decode cc (pc + 9) = .ok (.athrow, 1))
    (hf : 5 < R.frames) (hlo : (st.map fun v => v.category).sum + 82 ≤ R.locals) (hrc : cells + 1 ≤ R.cells) (hrs : slots + 6 ≤ R.slots) (h1 : cells + 1 ≤ mc0) (h2 : slots + 6 ≤ ms0) (hr : r0.1 = some cls ∧ w = w0) : J p l e R s m args below meth c D A nL cells slots (QE below args s D A mc0 ms0 w0 r0) w pc lv st := fun H locs ls hP hD hS hl => by
  obtain ⟨hr, rfl⟩ := hr
  obtain ⟨z1, z2, z3, z4, z5, z6⟩ := hc.2.2.2.2.2.1
  have hB : ∀ w ∈ exB, w.before args s = true := fun w hw => by
    rcases List.mem_append.mp hw with h | h
    · obtain ⟨x, hx, rfl⟩ := List.mem_map.mp h
      exact va_Nw.use rfl (z3 x hx)
    · obtain ⟨x, hx, rfl⟩ := List.mem_map.mp h
      exact va_Nw.use rfl (z4 x hx)
  refine vx_throwS (names := exN) hc.1.1 hc.1.2.1 hc.2.2.2.2.2.2 hc.1.2.2.2.1 hfit (by decide) (hc.1.2.2.2.2 _ hk) (hc.1.2.2.2.2 _ hini) (z5 _ hs) (vx_hat (fun w h => hc.1.2.2.2.2 _ (hg w h)) hb hB) hot z1 z2 hS (hl.1.trans hc.1.2.2.1.symm) d0 d3 d4 d6 d9 (fun x hx => (ho x hx).elim) hf hlo hrc hrs hc.2.2.1 (fun t ht hz hk2 => ?_) hS.2.2 h1 h2
  have hP2 : va_P D vwCl w t.heap := hP.kept fun k q hq => hk2 _ (vx_lt hP hq)
  exact ⟨⟨hr, hP2, hD⟩, Nat.le_trans hS.1 hz, fun q h1 h2 => (hk2 q (Nat.lt_of_lt_of_le h1 hS.1)).trans (hS.2.1 q h1 h2)⟩
theorem xg_62 : ∀ w ∈ (vx_atS RX4 62 xIO exN).filter goodWord, w ∈ WT := by decide +kernel
theorem xb_62 : ∀ w ∈ (vx_atS RX4 62 xIO exN).filter (fun w => !goodWord w), w ∈ exB := by decide +kernel
theorem xo_62 : ∀ w ∈ Cond.classLink RX4 58 xIO :: Cond.initialized xIO :: vx_atS RX4 62 xIO exN, vx_ot w = true := by decide +kernel
theorem j_thr_62 (hc : CX p l e R s m args below meth c D cs sa A cc nL RX4 ret) {mc0 ms0 : Nat} {w0 : va_W} {r0 : Rs} (ho : ∀ x ∈ c.exceptionTable.toList, False) (is : Nat) {tx : String} (hs : (is, tx) ∈ strs) (d0 : decode cc pc = .ok (.new 58, 3)) (d3 : decode cc (pc + 3) = .ok (.dup, 1)) (d4 : decode cc (pc + 4) = .ok (.ldc is, 2)) (d6 : decode cc (pc + 6) = .ok (.invokespecial 62, 3)) (d9 : decode cc (pc + 9) = .ok (.athrow, 1))
    (hf : 5 < R.frames) (hlo : (st.map fun v => v.category).sum + 82 ≤ R.locals) (hrc : cells + 1 ≤ R.cells) (hrs : slots + 6 ≤ R.slots) (h1 : cells + 1 ≤ mc0) (h2 : slots + 6 ≤ ms0) (hr : r0.1 = some xIO ∧ w = w0) : J p l e R s m args below meth c D A nL cells slots (QE below args s D A mc0 ms0 w0 r0) w pc lv st :=
  j_throwS hc ho (by decide) hs wt_152 wt_9 xg_62 xb_62 xo_62 d0 d3 d4 d6 d9 hf hlo hrc hrs h1 h2 hr
theorem xg_73 : ∀ w ∈ (vx_atS RX4 73 xIS exN).filter goodWord, w ∈ WT := by decide +kernel
theorem xb_73 : ∀ w ∈ (vx_atS RX4 73 xIS exN).filter (fun w => !goodWord w), w ∈ exB := by decide +kernel
theorem xo_73 : ∀ w ∈ Cond.classLink RX4 69 xIS :: Cond.initialized xIS :: vx_atS RX4 73 xIS exN, vx_ot w = true := by decide +kernel
theorem j_thr_73 (hc : CX p l e R s m args below meth c D cs sa A cc nL RX4 ret) {mc0 ms0 : Nat} {w0 : va_W} {r0 : Rs} (ho : ∀ x ∈ c.exceptionTable.toList, False) (is : Nat) {tx : String} (hs : (is, tx) ∈ strs) (d0 : decode cc pc = .ok (.new 69, 3)) (d3 : decode cc (pc + 3) = .ok (.dup, 1)) (d4 : decode cc (pc + 4) = .ok (.ldc is, 2)) (d6 : decode cc (pc + 6) = .ok (.invokespecial 73, 3)) (d9 : decode cc (pc + 9) = .ok (.athrow, 1))
    (hf : 5 < R.frames) (hlo : (st.map fun v => v.category).sum + 82 ≤ R.locals) (hrc : cells + 1 ≤ R.cells) (hrs : slots + 6 ≤ R.slots) (h1 : cells + 1 ≤ mc0) (h2 : slots + 6 ≤ ms0) (hr : r0.1 = some xIS ∧ w = w0) : J p l e R s m args below meth c D A nL cells slots (QE below args s D A mc0 ms0 w0 r0) w pc lv st :=
  j_throwS hc ho (by decide) hs wt_224 wt_10 xg_73 xb_73 xo_73 d0 d3 d4 d6 d9 hf hlo hrc hrs h1 h2 hr
theorem xg_224 : ∀ w ∈ (vx_atS RX4 224 xIA exN).filter goodWord, w ∈ WT := by decide +kernel
theorem xb_224 : ∀ w ∈ (vx_atS RX4 224 xIA exN).filter (fun w => !goodWord w), w ∈ exB := by decide +kernel
theorem xo_224 : ∀ w ∈ Cond.classLink RX4 220 xIA :: Cond.initialized xIA :: vx_atS RX4 224 xIA exN, vx_ot w = true := by decide +kernel
theorem j_thr_224 (hc : CX p l e R s m args below meth c D cs sa A cc nL RX4 ret) {mc0 ms0 : Nat} {w0 : va_W} {r0 : Rs} (ho : ∀ x ∈ c.exceptionTable.toList, False) (is : Nat) {tx : String} (hs : (is, tx) ∈ strs) (d0 : decode cc pc = .ok (.new 220, 3)) (d3 : decode cc (pc + 3) = .ok (.dup, 1)) (d4 : decode cc (pc + 4) = .ok (.ldc is, 2)) (d6 : decode cc (pc + 6) = .ok (.invokespecial 224, 3)) (d9 : decode cc (pc + 9) = .ok (.athrow, 1))
    (hf : 5 < R.frames) (hlo : (st.map fun v => v.category).sum + 82 ≤ R.locals) (hrc : cells + 1 ≤ R.cells) (hrs : slots + 6 ≤ R.slots) (h1 : cells + 1 ≤ mc0) (h2 : slots + 6 ≤ ms0) (hr : r0.1 = some xIA ∧ w = w0) : J p l e R s m args below meth c D A nL cells slots (QE below args s D A mc0 ms0 w0 r0) w pc lv st :=
  j_throwS hc ho (by decide) hs wt_257 wt_12 xg_224 xb_224 xo_224 d0 d3 d4 d6 d9 hf hlo hrc hrs h1 h2 hr
theorem j_min_X4_191 (hc : CX p l e R s m args below meth c D cs sa A cc nL RX4 ret) {x y : Int32} (hfr : 1 ≤ R.frames) (hlo : (st.map fun v => v.category).sum + 13 ≤ R.locals) (hrc : cells ≤ R.cells) (hrs : slots ≤ R.slots) (hdg : decode cc pc = .ok (.invokestatic 191, 3)) (k : J p l e R s m args below meth c D A nL cells slots Q w (pc + 3) lv (.int (if y < x then y else x) :: st)) : J p l e R s m args below meth c D A nL cells slots Q w pc lv (.int y :: .int x :: st) := fun H locs ls hP hD hS hl => va_mmin hc.1.1 hc.1.2.1 (hc.1.2.2.1.trans hl.1.symm) hc.1.2.2.2.1 (hc.1.2.2.2.2 _ wt_516) (hc.1.2.2.2.2 _ wt_517) (hc.1.2.2.2.2 _ wt_14) (hc.1.2.2.2.2 _ wt_518) hfr hlo hrc hrs hdg (k H locs ls hP hD hS hl)
theorem j_min_X2_25 (hc : CX p l e R s m args below meth c D cs sa A cc nL RX2 ret) {x y : Int32} (hfr : 1 ≤ R.frames) (hlo : (st.map fun v => v.category).sum + 13 ≤ R.locals) (hrc : cells ≤ R.cells) (hrs : slots ≤ R.slots) (hdg : decode cc pc = .ok (.invokestatic 25, 3)) (k : J p l e R s m args below meth c D A nL cells slots Q w (pc + 3) lv (.int (if y < x then y else x) :: st)) : J p l e R s m args below meth c D A nL cells slots Q w pc lv (.int y :: .int x :: st) := fun H locs ls hP hD hS hl => va_mmin hc.1.1 hc.1.2.1 (hc.1.2.2.1.trans hl.1.symm) hc.1.2.2.2.1 (hc.1.2.2.2.2 _ wt_537) (hc.1.2.2.2.2 _ wt_517) (hc.1.2.2.2.2 _ wt_14) (hc.1.2.2.2.2 _ wt_518) hfr hlo hrc hrs hdg (k H locs ls hP hD hS hl)
variable {ad : Nat → Nat} {n : Nat} {E : ES} {S : MS} {o : Nat → Int64}
theorem al_gapsp (hc : CX p l e R s m args below meth c D cs sa A cc nL own ret) {k : Int32} (hin : vp_in k 4) (hdg : decode cc pc = .ok (.aaload, 1)) (kk : J p l e R s m args below meth c D A nL cells slots Q (WD ad cs n E S o) (pc + 1) lv (.ref (ad (4 + 2 * k.toNatClampNeg)) :: st)) : J p l e R s m args below meth c D A nL cells slots Q (WD ad cs n E S o) pc lv (.int k :: .ref (ad 3) :: st) := by
  obtain ⟨j, hj, rfl⟩ := vp_in_of hin (by decide)
  rw [nI_clamp (by omega)] at kk
  exact al_gaps hc hj rfl hdg kk
theorem al_rowp (hc : CX p l e R s m args below meth c D cs sa A cc nL own ret) (hn : n ≤ 30) {k : Int32} (hin : vp_in k 30) (hb : k.toNatClampNeg < n) (hdg : decode cc pc = .ok (.aaload, 1)) (kk : J p l e R s m args below meth c D A nL cells slots Q (WD ad cs n E S o) (pc + 1) lv (.ref (ad (33 + 2 * k.toNatClampNeg)) :: st)) : J p l e R s m args below meth c D A nL cells slots Q (WD ad cs n E S o) pc lv (.int k :: .ref (ad 12) :: st) := by
  obtain ⟨j, hj, rfl⟩ := vp_in_of hin (by decide)
  rw [nI_clamp (by omega)] at kk hb
  exact al_row hc hb hn rfl hdg kk
theorem al_rowNp (hc : CX p l e R s m args below meth c D cs sa A cc nL own ret) {k : Int32} (hin : vp_in k 30) (hb : ¬ k.toNatClampNeg < n) (hdg : decode cc pc = .ok (.aaload, 1)) (kk : J p l e R s m args below meth c D A nL cells slots Q (WD ad cs n E S o) (pc + 1) lv (.null :: st)) : J p l e R s m args below meth c D A nL cells slots Q (WD ad cs n E S o) pc lv (.int k :: .ref (ad 12) :: st) := by
  obtain ⟨j, hj, rfl⟩ := vp_in_of hin (by decide)
  rw [nI_clamp (by omega)] at hb
  exact al_rowN hc hb hj rfl hdg kk
end R5
theorem vpi {k N : Int32} {n : Nat} (h0 : ¬ k < 0) (h1 : ¬ N ≤ k) (hN : N.toInt = n) : vp_in k n := by
  rw [vp_in_iff]
  rw [Int32.lt_iff_toInt_lt] at h0
  rw [Int32.le_iff_toInt_le] at h1
  have : (0 : Int32).toInt = 0 := by decide
  omega
theorem i32_le (a b : Int32) : a ≤ b ↔ a.toInt ≤ b.toInt := Int32.le_iff_toInt_le
theorem i32_lt (a b : Int32) : a < b ↔ a.toInt < b.toInt := Int32.lt_iff_toInt_lt
theorem i32_b (a : Int32) : -2147483648 ≤ a.toInt ∧ a.toInt < 2147483648 := ⟨by have := Int32.le_toInt a; simpa using this, by have := Int32.toInt_lt a; simpa using this⟩
theorem i32_sub {a b : Int32} (h1 : -2147483648 ≤ a.toInt - b.toInt) (h2 : a.toInt - b.toInt < 2147483648) : (a - b).toInt = a.toInt - b.toInt := by
  rw [Int32.toInt_sub]; exact Int.bmod_eq_of_le (by simpa using h1) (by simpa using h2)
theorem i32_add {a b : Int32} (h1 : -2147483648 ≤ a.toInt + b.toInt) (h2 : a.toInt + b.toInt < 2147483648) : (a + b).toInt = a.toInt + b.toInt := by
  rw [Int32.toInt_add]; exact Int.bmod_eq_of_le (by simpa using h1) (by simpa using h2)
theorem i32_inc {a : Int32} (h : a.toInt < 2147483647) : (a + 1).toInt = a.toInt + 1 := by
  have e1 : (1 : Int32).toInt = 1 := by decide
  have := i32_b a
  rw [i32_add (by omega) (by omega), e1]
/-- Math.floorMod -/
def fmod (x y : Int32) : Int32 := if 0 ≤ x ^^^ y then x - x / y * y else if x - x / y * y = 0 then x - x / y * y else x - x / y * y + y
/-- thrown, answered, the state behind it -/
abbrev ER : Type := Option String × Int32 × ES
def ck (t : Option String) (E : ES) (k : ER) : ER := match t with
  | some x => (some x, 0, E)
  | none => k
theorem ck_none {t : Option String} {E : ES} {k : ER} (h : t = none) : ck t E k = k := by rw [h]; rfl
theorem ck_some {t : Option String} {E : ES} {k : ER} {x : String} (h : t = some x) : ck t E k = (some x, 0, E) := by rw [h]; rfl
def e_rng (p a b : Int32) : Option String := if p < a then some xIA else if p ≤ b then none else some xIA
def e_acc (p : Int32) : Option String := if p < 0 then some xIO else if p < 8 then none else some xIO
def e_rsn (p : Int32) : Option String := if p < 1 then some xIO else if p ≤ 4 then none else some xIO
def e_fb (n : Nat) (p : Int32) : Option String := if p < 0 then some xIO else if 30 ≤ p then some xIO else if p.toNatClampNeg < n then none else some xIO
def e_hol (E : ES) (d : Int32) : Int32 := if d >>> ((6 : Int32) &&& 31) < 0 then 0 else if 485 ≤ d >>> ((6 : Int32) &&& 31) then 0 else if lg_cmp (((E.2.2 (d >>> ((6 : Int32) &&& 31)).toNatClampNeg).toUInt64 >>> ((d &&& 63).toInt64.toUInt64 &&& Int64.toUInt64 63)).toInt64 &&& 1) 1 = 0 then 1 else 0
def e_khol (E : ES) (d : Int32) : ES := if d >>> ((6 : Int32) &&& 31) < 0 then E else if 485 ≤ d >>> ((6 : Int32) &&& 31) then E else eH E (d >>> ((6 : Int32) &&& 31)).toNatClampNeg (E.2.2 (d >>> ((6 : Int32) &&& 31)).toNatClampNeg ||| ((1 : Int64) <<< ((d &&& 63).toInt64 &&& 63)))
def e_chg (E : ES) (d : Int32) : Int32 := if E.1 12 &&& ((1 : Int32) <<< (fmod d 7 &&& 31)) = 0 then 0 else if e_hol E d = 0 then 1 else 0
def e_fcf (E : ES) : Nat → Int32 → Int32
  | 0, d => d
  | k + 1, d => if e_chg E d = 0 then e_fcf E k (d + 1) else d
def e_ww (E : ES) (k : Int32) (f : Int32) : Int32 := if f = 0 then E.1 12 &&& (((1 : Int32) <<< (k &&& 31)) ^^^ (-1)) else E.1 12 ||| ((1 : Int32) <<< (k &&& 31))
def e_add (E : ES) (d b s : Int32) : ES := eG (eV E 30 (fmod (E.1 13) 400).toNatClampNeg (1000 * d + 10 * b + s)) 13 (E.1 13 + 1)
def e_told (E : ES) : Int32 := if 400 < E.1 13 then 400 else E.1 13
def e_cda (E : ES) (k : Int32) : Int32 := E.2.1 30 (fmod (E.1 13 - 1 - k) 400).toNatClampNeg
/-- the search through the told events, k of them left, the next one at the place i -/
def e_lso (E : ES) (b d : Int32) : Nat → Int32 → Int32
  | 0, _ => -1
  | k + 1, i => if (e_cda E i - e_cda E i / 1000 * 1000) / 10 = b then (if d < e_cda E i / 1000 then e_lso E b d k (i + 1) else e_cda E i - e_cda E i / 10 * 10) else e_lso E b d k (i + 1)
def e_app (E : ES) (i : Nat) (v : Int32) : ES := if E.1 (14 + i) < 0 then E else if 6 ≤ E.1 (14 + i) then E else eG (eV E (20 + i) (E.1 (14 + i)).toNatClampNeg v) (14 + i) (E.1 (14 + i) + 1)
def e_db (E : ES) (i : Nat) (k : Int32) : Int32 := if k < 1 then 0 else if E.1 (14 + i) < k then 0 else if 6 < k then 0 else E.2.1 (20 + i) (k - 1).toNatClampNeg
def e_enter (E : ES) (b : Nat) (s wd : Int32) : ES := e_add (eV (eV E 4 b s) 5 b wd) (E.1 5) (E.2.1 0 b) s
def e_take (E : ES) (b : Nat) (v : Int32) : ES :=
  let E1 := eV E 3 b (E.2.1 3 b - v)
  let E2 := eG E1 9 (E1.1 9 + v)
  let E3 := if E2.2.1 4 b = 5 then eG E2 11 (E2.1 11 + v) else E2
  if E3.2.1 3 b = 0 then e_enter E3 b 6 (-1) else E3
def e_fail (E : ES) (b : Nat) (r : Int32) : ES :=
  let i := (r - 1).toNatClampNeg
  let E1 := eV E (40 + b) i (E.2.1 (40 + b) i + 1)
  let g := e_db E1 i (E1.2.1 (40 + b) i)
  if g = 0 then e_enter E1 b 2 (E1.1 5 + E1.1 6) else e_enter E1 b 0 (e_fcf E1 1000 (E1.1 5 + g))
def e_bp (E : ES) (b : Nat) : ES :=
  let E1 := eV E 8 b (E.2.1 8 b + 1)
  if E1.2.1 9 b = 0 then e_enter E1 b 0 (e_fcf E1 1000 (E1.1 5 + 1)) else e_enter E1 b (E1.2.1 9 b) (E1.1 5 + E1.2.1 10 b)
def e_bt (E : ES) (b : Nat) : Int32 × ES := if e_chg E (E.1 5) = 0 then (0, eV E 5 b (e_fcf E 1000 (E.1 5 + 1))) else (1, e_enter (eV E 6 b (E.2.1 6 b + 1)) b 1 (-1))
def e_look (E : ES) (b : Nat) : Int32 × ES :=
  if E.2.1 4 b = 0 then (if E.1 5 < E.2.1 5 b then (0, E) else e_bt E b)
  else if E.2.1 5 b = E.1 5 then (if E.2.1 4 b = 2 then (0, e_enter E b 3 (E.1 5 + E.1 7)) else if E.2.1 4 b = 3 then (0, e_enter (eG E 10 (E.1 10 + E.2.1 3 b)) b 5 (-1)) else if E.2.1 4 b = 4 then (0, e_bp E b) else (0, E))
  else (0, E)
def e_fut (n : Nat) : Nat → Nat → ES → ES
  | 0, _, E => E
  | k + 1, i, E => e_fut n k (i + 1) (if i < n then (if E.2.1 4 i = 1 then e_fail E i 4 else E) else E)
def e_lab (n : Nat) : Nat → Nat → Int32 → ES → Int32 × ES
  | 0, _, c, E => (c, E)
  | k + 1, i, c, E => if i < n then e_lab n k (i + 1) (if (e_look E i).1 = 0 then c else c + 1) (e_look E i).2 else e_lab n k (i + 1) c E
def e_sw (E : ES) (b : Nat) : Int32 := if E.2.1 4 b = 3 then 0 else if E.2.1 4 b = 5 then 0 else if E.2.1 4 b = 4 then (if E.2.1 4 b = 2 then 1 else if E.2.1 9 b = 0 then 2 else 1) else if E.2.1 4 b = 2 then 1 else 2
end
section
theorem xor_neg (x y : Int32) : (x ^^^ y).toInt < 0 ↔ ¬ (x.toInt < 0 ↔ y.toInt < 0) := by
  have h : ∀ z : Int32, z.toInt < 0 ↔ z.toBitVec.msb = true := fun z => by
    rw [BitVec.msb_eq_toInt, decide_eq_true_eq]; rfl
  rw [h, h, h, Int32.toBitVec_xor, BitVec.msb_xor]
  cases x.toBitVec.msb <;> cases y.toBitVec.msb <;> simp
theorem fmod_fmv {x m : Int32} (hm : 0 < m.toInt) : fmod x m = fmv x m := by
  have z0 : (0 : Int32).toInt = 0 := by decide
  have hx := xor_neg x m
  have hr := rem_toInt x m
  obtain ⟨b1, b2⟩ := tmod_bounds (a := x.toInt) hm
  unfold fmod fmv fmOf
  simp only [i32_le, z0, ← Int32.toInt_inj, hr]
  by_cases h : x.toInt < 0
  · have h1 : ¬ 0 ≤ (x ^^^ m).toInt := by have := hx.mpr (by omega); omega
    rw [if_neg h1]
    have h2 : x.toInt.tmod m.toInt ≤ 0 := by
      have := Int.tmod_nonneg (a := - x.toInt) m.toInt (by omega)
      rw [Int.neg_tmod] at this; omega
    by_cases h3 : x.toInt.tmod m.toInt = 0
    · rw [if_pos h3, if_pos (by omega)]
    · rw [if_neg h3, if_neg (by omega)]
  · have h1 : 0 ≤ (x ^^^ m).toInt := by
      have := fun z => hx.mp z
      omega
    have h2 := Int.tmod_nonneg (a := x.toInt) m.toInt (by omega)
    rw [if_pos h1, if_pos h2]
theorem fmod_in {x m : Int32} {k : Nat} (hm : m.toInt = k) (hk : 0 < k) : vp_in (fmod x m) k := by
  rw [fmod_fmv (by omega), vp_in_iff]
  have := fmv_bounds (a := x) (m := m) (by omega)
  omega
set_option maxRecDepth 100000 in
set_option maxHeartbeats 4000000 in
theorem c_J9_floorMod_7cf53 {l : Launch} {D : va_G} {cs : Nat → ClassId} {sa : Nat → Nat} (hl : l.stackTraces = false)  {w : va_W} {x y : Int32} (hy : ¬ y = 0) : CM l D cs sa yJ9_floorMod_7cf53 cJ9_floorMod_7cf53 3 (Option.some Jvm.ClassFile.FieldType.int) (RM 0 0 0) 0 0 [.int x, .int y] w (none, some (.int (fmod x y)), w) := by
  refine CM.ofF RJ9 hl (by decide +kernel) rfl (Nat.le_of_ble_eq_true rfl) ?_
  intro p e s m args below meth c A hc ho hmn
  refine j_iload_n hc dJ9_floorMod_7cf53_0 rfl ?_
  refine j_iload_n hc dJ9_floorMod_7cf53_1 rfl ?_
  refine j_irem hc dJ9_floorMod_7cf53_2 hy ?_
  refine j_istore_n hc dJ9_floorMod_7cf53_3 rfl ?_
  refine j_iload_n hc dJ9_floorMod_7cf53_4 rfl ?_
  refine j_iload_n hc dJ9_floorMod_7cf53_5 rfl ?_
  refine j_ixor hc dJ9_floorMod_7cf53_6 ?_
  refine j_if_ge hc 18 dJ9_floorMod_7cf53_7 (by decide) (fun h7 => ?_) (fun h7 => ?_)
  · -- if_pos h7
    refine j_iload_n hc dJ9_floorMod_7cf53_18 rfl ?_
    exact j_iret hc rfl (by decide) (by decide) (by simp only [fmod, if_pos h7] <;> rfl) dJ9_floorMod_7cf53_19
  · -- if_neg h7
    refine j_iload_n hc dJ9_floorMod_7cf53_10 rfl ?_
    refine j_if_eq hc 18 dJ9_floorMod_7cf53_11 (by decide) (fun h11 => ?_) (fun h11 => ?_)
    · -- if_pos h11
      refine j_iload_n hc dJ9_floorMod_7cf53_18 rfl ?_
      exact j_iret hc rfl (by decide) (by decide) (by simp only [fmod, if_neg h7, if_pos h11] <;> rfl) dJ9_floorMod_7cf53_19
    · -- if_neg h11
      refine j_iload_n hc dJ9_floorMod_7cf53_14 rfl ?_
      refine j_iload_n hc dJ9_floorMod_7cf53_15 rfl ?_
      refine j_iadd hc dJ9_floorMod_7cf53_16 ?_
      exact j_iret hc rfl (by decide) (by decide) (by simp only [fmod, if_neg h7, if_neg h11] <;> rfl) dJ9_floorMod_7cf53_17
set_option maxRecDepth 100000 in
set_option maxHeartbeats 4000000 in
theorem c_X1_weekdaysWith {l : Launch} {D : va_G} {cs : Nat → ClassId} {sa : Nat → Nat} (hl : l.stackTraces = false)  {ad : Nat → Nat} {n : Nat} {E : ES} {S : MS} {o : Nat → Int64} {k f : Int32} : CM l D cs sa yX1_weekdaysWith cX1_weekdaysWith 4 (Option.some Jvm.ClassFile.FieldType.int) (RM 0 0 0) 0 0 [.ref (ad 1), .int k, .int f] (WD ad cs n E S o) (none, some (.int (e_ww E k f)), (WD ad cs n E S o)) := by
  refine CM.of RX1 hl (by decide +kernel) rfl (Nat.le_of_ble_eq_true rfl) ?_
  intro p e s m args below meth c A hc ho hmn
  refine j_iconst hc (v := 1) dX1_weekdaysWith_0 (by decide) ?_
  refine j_iload_n hc dX1_weekdaysWith_1 rfl ?_
  refine j_ishl hc dX1_weekdaysWith_2 ?_
  refine j_istore_n hc dX1_weekdaysWith_3 rfl ?_
  refine j_iload_n hc dX1_weekdaysWith_4 rfl ?_
  refine j_if_eq hc 17 dX1_weekdaysWith_5 (by decide) (fun h5 => ?_) (fun h5 => ?_)
  · -- if_pos h5
    refine j_aload_n hc dX1_weekdaysWith_17 rfl ?_
    refine gf_X1_9 hc dX1_weekdaysWith_18 ?_
    refine j_iload_n hc dX1_weekdaysWith_21 rfl ?_
    refine j_iconst hc (v := -1) dX1_weekdaysWith_22 (by decide) ?_
    refine j_ixor hc dX1_weekdaysWith_23 ?_
    refine j_iand hc dX1_weekdaysWith_24 ?_
    exact j_iret hc rfl (by decide) (by decide) (by simp only [e_ww, if_pos h5] <;> rfl) dX1_weekdaysWith_25
  · -- if_neg h5
    refine j_aload_n hc dX1_weekdaysWith_8 rfl ?_
    refine gf_X1_9 hc dX1_weekdaysWith_9 ?_
    refine j_iload_n hc dX1_weekdaysWith_12 rfl ?_
    refine j_ior hc dX1_weekdaysWith_13 ?_
    refine j_goto hc 25 dX1_weekdaysWith_14 (by decide) ?_
    exact j_iret hc rfl (by decide) (by decide) (by simp only [e_ww, if_neg h5] <;> rfl) dX1_weekdaysWith_25
set_option maxRecDepth 100000 in
set_option maxHeartbeats 4000000 in
theorem c_X1_isHoliday {l : Launch} {D : va_G} {cs : Nat → ClassId} {sa : Nat → Nat} (hl : l.stackTraces = false)  {ad : Nat → Nat} {n : Nat} {E : ES} {S : MS} {o : Nat → Int64} {d : Int32} : CM l D cs sa yX1_isHoliday cX1_isHoliday 3 (Option.some Jvm.ClassFile.FieldType.boolean) (RM 0 0 0) 0 0 [.ref (ad 1), .int d] (WD ad cs n E S o) (none, some (.int (e_hol E d)), (WD ad cs n E S o)) := by
  refine CM.of RX1 hl (by decide +kernel) rfl (Nat.le_of_ble_eq_true rfl) ?_
  intro p e s m args below meth c A hc ho hmn
  refine j_iload_n hc dX1_isHoliday_0 rfl ?_
  refine j_bipush hc (v := 6) dX1_isHoliday_1 (by decide) ?_
  refine j_ishr hc dX1_isHoliday_3 ?_
  refine j_istore_n hc dX1_isHoliday_4 rfl ?_
  refine j_iload_n hc dX1_isHoliday_5 rfl ?_
  refine j_if_lt hc 40 dX1_isHoliday_6 (by decide) (fun h6 => ?_) (fun h6 => ?_)
  · -- if_pos h6
    refine j_iconst hc (v := 0) dX1_isHoliday_40 (by decide) ?_
    exact j_zret hc rfl rfl (by decide) (by decide) (by simp only [e_hol, if_pos h6] <;> rfl) dX1_isHoliday_41
  · -- if_neg h6
    refine j_iload_n hc dX1_isHoliday_9 rfl ?_
    refine j_aload_n hc dX1_isHoliday_10 rfl ?_
    refine gf_X1_13 hc dX1_isHoliday_11 ?_
    refine ln_hol hc dX1_isHoliday_14 ?_
    refine j_icmp_ge hc 40 dX1_isHoliday_15 (by decide) (fun h15 => ?_) (fun h15 => ?_)
    · -- if_pos h15
      refine j_iconst hc (v := 0) dX1_isHoliday_40 (by decide) ?_
      exact j_zret hc rfl rfl (by decide) (by decide) (by simp only [e_hol, if_neg h6, if_pos h15] <;> rfl) dX1_isHoliday_41
    · -- if_neg h15
      refine j_aload_n hc dX1_isHoliday_18 rfl ?_
      refine gf_X1_13 hc dX1_isHoliday_19 ?_
      refine j_iload_n hc dX1_isHoliday_22 rfl ?_
      refine al_hol hc (vpi (n := 485) h6 h15 (by decide)) dX1_isHoliday_23 ?_
      refine j_iload_n hc dX1_isHoliday_24 rfl ?_
      refine j_bipush hc (v := 63) dX1_isHoliday_25 (by decide) ?_
      refine j_iand hc dX1_isHoliday_27 ?_
      refine j_lushr hc dX1_isHoliday_28 ?_
      refine j_lconst hc (v := 1) dX1_isHoliday_29 (by decide) ?_
      refine j_land hc dX1_isHoliday_30 ?_
      refine j_lconst hc (v := 1) dX1_isHoliday_31 (by decide) ?_
      refine j_lcmp hc dX1_isHoliday_32 ?_
      refine j_if_ne hc 40 dX1_isHoliday_33 (by decide) (fun h33 => ?_) (fun h33 => ?_)
      · -- if_neg h33
        refine j_iconst hc (v := 0) dX1_isHoliday_40 (by decide) ?_
        exact j_zret hc rfl rfl (by decide) (by decide) (by simp only [e_hol, if_neg h6, if_neg h15, if_neg h33] <;> rfl) dX1_isHoliday_41
      · -- if_pos h33
        refine j_iconst hc (v := 1) dX1_isHoliday_36 (by decide) ?_
        refine j_goto hc 41 dX1_isHoliday_37 (by decide) ?_
        exact j_zret hc rfl rfl (by decide) (by decide) (by simp only [e_hol, if_neg h6, if_neg h15, if_pos h33] <;> rfl) dX1_isHoliday_41
set_option maxRecDepth 100000 in
set_option maxHeartbeats 4000000 in
theorem c_X1_keepHoliday {l : Launch} {D : va_G} {cs : Nat → ClassId} {sa : Nat → Nat} (hl : l.stackTraces = false)  {ad : Nat → Nat} {n : Nat} {E : ES} {S : MS} {o : Nat → Int64} {d : Int32} : CM l D cs sa yX1_keepHoliday cX1_keepHoliday 3 (Option.none : Option Jvm.ClassFile.FieldType) (RM 0 0 0) 0 0 [.ref (ad 1), .int d] (WD ad cs n E S o) (none, none, WD ad cs n (e_khol E d) S o) := by
  refine CM.of RX1 hl (by decide +kernel) rfl (Nat.le_of_ble_eq_true rfl) ?_
  intro p e s m args below meth c A hc ho hmn
  refine j_iload_n hc dX1_keepHoliday_0 rfl ?_
  refine j_bipush hc (v := 6) dX1_keepHoliday_1 (by decide) ?_
  refine j_ishr hc dX1_keepHoliday_3 ?_
  refine j_istore_n hc dX1_keepHoliday_4 rfl ?_
  refine j_iload_n hc dX1_keepHoliday_5 rfl ?_
  refine j_if_lt hc 33 dX1_keepHoliday_6 (by decide) (fun h6 => ?_) (fun h6 => ?_)
  · -- if_pos h6
    exact j_vret hc rfl (by decide) (by decide) (by simp only [e_khol, if_pos h6] <;> rfl) dX1_keepHoliday_33
  · -- if_neg h6
    refine j_iload_n hc dX1_keepHoliday_9 rfl ?_
    refine j_aload_n hc dX1_keepHoliday_10 rfl ?_
    refine gf_X1_13 hc dX1_keepHoliday_11 ?_
    refine ln_hol hc dX1_keepHoliday_14 ?_
    refine j_icmp_ge hc 33 dX1_keepHoliday_15 (by decide) (fun h15 => ?_) (fun h15 => ?_)
    · -- if_pos h15
      exact j_vret hc rfl (by decide) (by decide) (by simp only [e_khol, if_neg h6, if_pos h15] <;> rfl) dX1_keepHoliday_33
    · -- if_neg h15
      refine j_aload_n hc dX1_keepHoliday_18 rfl ?_
      refine gf_X1_13 hc dX1_keepHoliday_19 ?_
      refine j_iload_n hc dX1_keepHoliday_22 rfl ?_
      refine j_dup2 hc dX1_keepHoliday_23 rfl rfl ?_
      refine al_hol hc (vpi (n := 485) h6 h15 (by decide)) dX1_keepHoliday_24 ?_
      refine j_lconst hc (v := 1) dX1_keepHoliday_25 (by decide) ?_
      refine j_iload_n hc dX1_keepHoliday_26 rfl ?_
      refine j_bipush hc (v := 63) dX1_keepHoliday_27 (by decide) ?_
      refine j_iand hc dX1_keepHoliday_29 ?_
      refine j_lshl hc dX1_keepHoliday_30 ?_
      refine j_lor hc dX1_keepHoliday_31 ?_
      refine as_hol hc (vpi (n := 485) h6 h15 (by decide)) dX1_keepHoliday_32 ?_
      exact j_vret hc rfl (by decide) (by decide) (by simp only [e_khol, if_neg h6, if_neg h15] <;> rfl) dX1_keepHoliday_33
set_option maxRecDepth 100000 in
set_option maxHeartbeats 4000000 in
theorem c_X1_allowsCharging {l : Launch} {D : va_G} {cs : Nat → ClassId} {sa : Nat → Nat} (hl : l.stackTraces = false)  {ad : Nat → Nat} {n : Nat} {E : ES} {S : MS} {o : Nat → Int64} {d : Int32} : CM l D cs sa yX1_allowsCharging cX1_allowsCharging 3 (Option.some Jvm.ClassFile.FieldType.boolean) (RM 1 0 0) 0 0 [.ref (ad 1), .int d] (WD ad cs n E S o) (none, some (.int (e_chg E d)), (WD ad cs n E S o)) := by
  refine CM.of RX1 hl (by decide +kernel) rfl (Nat.le_of_ble_eq_true rfl) ?_
  intro p e s m args below meth c A hc ho hmn
  refine j_iconst hc (v := 1) dX1_allowsCharging_0 (by decide) ?_
  refine j_iload_n hc dX1_allowsCharging_1 rfl ?_
  refine j_bipush hc (v := 7) dX1_allowsCharging_2 (by decide) ?_
  refine j_callS hc ho (c_J9_floorMod_7cf53 (y := 7) hl (by decide)) sc_X1_17 rfl ⟨rfl, rfl, by decide, by decide⟩ rfl (Nat.le_of_ble_eq_true rfl) ⟨by decide, by decide⟩ dX1_allowsCharging_4 ⟨by decide, by decide⟩ (fun _ h => by cases h) (fun hr4 => ?_)
  refine j_ishl hc dX1_allowsCharging_7 ?_
  refine j_istore_n hc dX1_allowsCharging_8 rfl ?_
  refine j_aload_n hc dX1_allowsCharging_9 rfl ?_
  refine gf_X1_9 hc dX1_allowsCharging_10 ?_
  refine j_iload_n hc dX1_allowsCharging_13 rfl ?_
  refine j_iand hc dX1_allowsCharging_14 ?_
  refine j_if_eq hc 30 dX1_allowsCharging_15 (by decide) (fun h15 => ?_) (fun h15 => ?_)
  · -- if_pos h15
    refine j_iconst hc (v := 0) dX1_allowsCharging_30 (by decide) ?_
    exact j_zret hc rfl rfl (by decide) (by decide) (by simp only [e_chg, if_pos h15] <;> rfl) dX1_allowsCharging_31
  · -- if_neg h15
    refine j_aload_n hc dX1_allowsCharging_18 rfl ?_
    refine j_iload_n hc dX1_allowsCharging_19 rfl ?_
    refine j_callV hc ho (c_X1_isHoliday hl) vc_X1_23 rfl ⟨rfl, rfl, by decide, by decide⟩ 1 rfl rfl rfl (Nat.le_of_ble_eq_true rfl) ⟨by decide, by decide⟩ dX1_allowsCharging_20 ⟨by decide, by decide⟩ (fun _ h => by cases h) (fun hr20 => ?_)
    refine j_if_ne hc 30 dX1_allowsCharging_23 (by decide) (fun h23 => ?_) (fun h23 => ?_)
    · -- if_neg h23
      refine j_iconst hc (v := 0) dX1_allowsCharging_30 (by decide) ?_
      exact j_zret hc rfl rfl (by decide) (by decide) (by simp only [e_chg, if_neg h15, if_neg h23] <;> rfl) dX1_allowsCharging_31
    · -- if_pos h23
      refine j_iconst hc (v := 1) dX1_allowsCharging_26 (by decide) ?_
      refine j_goto hc 31 dX1_allowsCharging_27 (by decide) ?_
      exact j_zret hc rfl rfl (by decide) (by decide) (by simp only [e_chg, if_neg h15, if_pos h23] <;> rfl) dX1_allowsCharging_31
set_option maxRecDepth 100000 in
set_option maxHeartbeats 4000000 in
theorem c_X1_firstChargingFrom {l : Launch} {D : va_G} {cs : Nat → ClassId} {sa : Nat → Nat} (hl : l.stackTraces = false)  {ad : Nat → Nat} {n : Nat} {E : ES} {S : MS} {o : Nat → Int64} {d : Int32} : CM l D cs sa yX1_firstChargingFrom cX1_firstChargingFrom 4 (Option.some Jvm.ClassFile.FieldType.int) (RM 2 0 0) 0 0 [.ref (ad 1), .int d] (WD ad cs n E S o) (none, some (.int (e_fcf E 1000 d)), (WD ad cs n E S o)) := by
  refine CM.of RX1 hl (by decide +kernel) rfl (Nat.le_of_ble_eq_true rfl) ?_
  intro p e s m args below meth c A hc ho hmn
  have loop : ∀ (k i : Nat) (d0 : Int32), i + k = 1000 → e_fcf E 1000 d = e_fcf E k d0 → J p l e (RM 2 0 0) s m args below meth c D A 4 0 0 (QE below args s D A 0 0 (WD ad cs n E S o) (none, some (.int (e_fcf E 1000 d)), WD ad cs n E S o)) (WD ad cs n E S o) 4 [(0, .ref (ad 1)), (2, .int d0), (3, .int (nI i))] [] := by
    intro k
    induction k with
    | zero =>
      intro i d0 hi hd
      refine j_iload_n hc dX1_firstChargingFrom_4 rfl ?_
      refine j_sipush hc (v := 1000) dX1_firstChargingFrom_5 (by decide) ?_
      refine j_icmp_ge hc 28 dX1_firstChargingFrom_8 (by decide) (fun h8 => ?_) (fun h8 => by exact absurd h8 (fun z => z (nI_le (a := 1000) (by omega) (by omega))))
      refine j_iload_n hc dX1_firstChargingFrom_28 rfl ?_
      exact j_iret hc rfl (by decide) (by decide) (by rw [hd]; rfl) dX1_firstChargingFrom_29
    | succ k ih =>
      intro i d0 hi hd
      refine j_iload_n hc dX1_firstChargingFrom_4 rfl ?_
      refine j_sipush hc (v := 1000) dX1_firstChargingFrom_5 (by decide) ?_
      refine j_icmp_ge hc 28 dX1_firstChargingFrom_8 (by decide) (fun h8 => by exact absurd h8 (nI_ge (b := 1000) (by omega) (by omega))) (fun h8 => ?_)
      refine j_aload_n hc dX1_firstChargingFrom_11 rfl ?_
      refine j_iload_n hc dX1_firstChargingFrom_12 rfl ?_
      refine j_callV hc ho (c_X1_allowsCharging hl) vc_X1_27 rfl ⟨rfl, rfl, by decide, by decide⟩ 1 rfl rfl rfl (Nat.le_of_ble_eq_true rfl) ⟨by decide, by decide⟩ dX1_firstChargingFrom_13 ⟨by decide, by decide⟩ (fun _ h => by cases h) (fun hr13 => ?_)
      refine j_if_ne hc 28 dX1_firstChargingFrom_16 (by decide) (fun h16 => ?_) (fun h16 => ?_)
      · -- if_neg h16
        refine j_iload_n hc dX1_firstChargingFrom_28 rfl ?_
        exact j_iret hc rfl (by decide) (by decide) (by rw [hd]; simp only [e_fcf, if_neg h8, if_neg h16]) dX1_firstChargingFrom_29
      · -- if_pos h16
        refine j_inc hc dX1_firstChargingFrom_19 rfl (z := 1) (by decide) rfl ?_
        refine j_inc hc dX1_firstChargingFrom_22 rfl (z := 1) (by decide) rfl ?_
        refine j_goto hc 4 dX1_firstChargingFrom_25 (by decide) ?_
        refine j_lv [(0, .ref (ad 1)), (2, .int (d0 + 1)), (3, .int (nI i + 1))] ⟨rfl, rfl, rfl, trivial⟩ ?_
        rw [nI_1]
        exact ih (i + 1) (d0 + 1) (by omega) (by rw [hd]; simp only [e_fcf, if_neg h8, if_pos h16])
  refine j_iload_n hc dX1_firstChargingFrom_0 rfl ?_
  refine j_istore_n hc dX1_firstChargingFrom_1 rfl ?_
  refine j_iconst hc (v := 0) dX1_firstChargingFrom_2 (by decide) ?_
  refine j_istore_n hc dX1_firstChargingFrom_3 rfl ?_
  refine j_lv [(0, .ref (ad 1)), (2, .int d), (3, .int (nI 0))] ⟨rfl, rfl, rfl, trivial⟩ ?_
  exact loop 1000 0 d rfl rfl
set_option maxRecDepth 100000 in
set_option maxHeartbeats 4000000 in
theorem c_X2_add {l : Launch} {D : va_G} {cs : Nat → ClassId} {sa : Nat → Nat} (hl : l.stackTraces = false)  {ad : Nat → Nat} {n : Nat} {E : ES} {S : MS} {o : Nat → Int64} {d b s0 : Int32} : CM l D cs sa yX2_add cX2_add 4 (Option.none : Option Jvm.ClassFile.FieldType) (RM 1 0 0) 0 0 [.ref (ad 13), .int d, .int b, .int s0] (WD ad cs n E S o) (none, none, WD ad cs n (e_add E d b s0) S o) := by
  refine CM.of RX2 hl (by decide +kernel) rfl (Nat.le_of_ble_eq_true rfl) ?_
  intro p e s m args below meth c A hc ho hmn
  refine j_aload_n hc dX2_add_0 rfl ?_
  refine gf_X2_9 hc dX2_add_1 ?_
  refine j_aload_n hc dX2_add_4 rfl ?_
  refine gf_X2_15 hc dX2_add_5 ?_
  refine j_sipush hc (v := 400) dX2_add_8 (by decide) ?_
  refine j_callS hc ho (c_J9_floorMod_7cf53 (y := 400) hl (by decide)) sc_X2_19 rfl ⟨rfl, rfl, by decide, by decide⟩ rfl (Nat.le_of_ble_eq_true rfl) ⟨by decide, by decide⟩ dX2_add_11 ⟨by decide, by decide⟩ (fun _ h => by cases h) (fun hr11 => ?_)
  refine j_sipush hc (v := 1000) dX2_add_14 (by decide) ?_
  refine j_iload_n hc dX2_add_17 rfl ?_
  refine j_imul hc dX2_add_18 ?_
  refine j_bipush hc (v := 10) dX2_add_19 (by decide) ?_
  refine j_iload_n hc dX2_add_21 rfl ?_
  refine j_imul hc dX2_add_22 ?_
  refine j_iadd hc dX2_add_23 ?_
  refine j_iload_n hc dX2_add_24 rfl ?_
  refine j_iadd hc dX2_add_25 ?_
  refine as_codes hc (fmod_in (by decide) (by decide)) dX2_add_26 ?_
  refine j_aload_n hc dX2_add_27 rfl ?_
  refine j_dup hc dX2_add_28 rfl ?_
  refine gf_X2_15 hc dX2_add_29 ?_
  refine j_iconst hc (v := 1) dX2_add_32 (by decide) ?_
  refine j_iadd hc dX2_add_33 ?_
  refine pf_X2_15 hc dX2_add_34 ?_
  exact j_vret hc rfl (by decide) (by decide) (rfl) dX2_add_37
set_option maxRecDepth 100000 in
set_option maxHeartbeats 4000000 in
theorem c_X2_told {l : Launch} {D : va_G} {cs : Nat → ClassId} {sa : Nat → Nat} (hl : l.stackTraces = false)  {ad : Nat → Nat} {n : Nat} {E : ES} {S : MS} {o : Nat → Int64} : CM l D cs sa yX2_told cX2_told 1 (Option.some Jvm.ClassFile.FieldType.int) (RM 1 0 0) 0 0 [.ref (ad 13)] (WD ad cs n E S o) (none, some (.int (e_told E)), (WD ad cs n E S o)) := by
  refine CM.of RX2 hl (by decide +kernel) rfl (Nat.le_of_ble_eq_true rfl) ?_
  intro p e s m args below meth c A hc ho hmn
  refine j_aload_n hc dX2_told_0 rfl ?_
  refine gf_X2_15 hc dX2_told_1 ?_
  refine j_sipush hc (v := 400) dX2_told_4 (by decide) ?_
  refine j_min_X2_25 hc (by decide) (Nat.le_of_ble_eq_true rfl) (by decide) (by decide) dX2_told_7 ?_
  exact j_iret hc rfl (by decide) (by decide) rfl dX2_told_10
set_option maxRecDepth 100000 in
set_option maxHeartbeats 4000000 in
theorem c_X2_codeAt {l : Launch} {D : va_G} {cs : Nat → ClassId} {sa : Nat → Nat} (hl : l.stackTraces = false)  {ad : Nat → Nat} {n : Nat} {E : ES} {S : MS} {o : Nat → Int64} {k : Int32} : CM l D cs sa yX2_codeAt cX2_codeAt 2 (Option.some Jvm.ClassFile.FieldType.int) (RM 1 0 0) 0 0 [.ref (ad 13), .int k] (WD ad cs n E S o) (none, some (.int (e_cda E k)), (WD ad cs n E S o)) := by
  refine CM.of RX2 hl (by decide +kernel) rfl (Nat.le_of_ble_eq_true rfl) ?_
  intro p e s m args below meth c A hc ho hmn
  refine j_aload_n hc dX2_codeAt_0 rfl ?_
  refine gf_X2_9 hc dX2_codeAt_1 ?_
  refine j_aload_n hc dX2_codeAt_4 rfl ?_
  refine gf_X2_15 hc dX2_codeAt_5 ?_
  refine j_iconst hc (v := 1) dX2_codeAt_8 (by decide) ?_
  refine j_isub hc dX2_codeAt_9 ?_
  refine j_iload_n hc dX2_codeAt_10 rfl ?_
  refine j_isub hc dX2_codeAt_11 ?_
  refine j_sipush hc (v := 400) dX2_codeAt_12 (by decide) ?_
  refine j_callS hc ho (c_J9_floorMod_7cf53 (y := 400) hl (by decide)) sc_X2_19 rfl ⟨rfl, rfl, by decide, by decide⟩ rfl (Nat.le_of_ble_eq_true rfl) ⟨by decide, by decide⟩ dX2_codeAt_15 ⟨by decide, by decide⟩ (fun _ h => by cases h) (fun hr15 => ?_)
  refine al_codes hc (fmod_in (by decide) (by decide)) dX2_codeAt_18 ?_
  exact j_iret hc rfl (by decide) (by decide) (rfl) dX2_codeAt_19
set_option maxRecDepth 100000 in
set_option maxHeartbeats 4000000 in
theorem c_X2_lastStateOf {l : Launch} {D : va_G} {cs : Nat → ClassId} {sa : Nat → Nat} (hl : l.stackTraces = false)  {ad : Nat → Nat} {n : Nat} {E : ES} {S : MS} {o : Nat → Int64} {b d : Int32} (hE : 0 ≤ (e_told E).toInt) : CM l D cs sa yX2_lastStateOf cX2_lastStateOf 7 (Option.some Jvm.ClassFile.FieldType.int) (RM 2 0 0) 0 0 [.ref (ad 13), .int b, .int d] (WD ad cs n E S o) (none, some (.int (e_lso E b d (e_told E).toNatClampNeg 0)), WD ad cs n E S o) := by
  refine CM.of RX2 hl (by decide +kernel) rfl (Nat.le_of_ble_eq_true rfl) ?_
  intro p e s m args below meth c A hc ho hmn
  have loop : ∀ (k : Nat) (i : Int32), 0 ≤ i.toInt → i.toInt + k = (e_told E).toInt → e_lso E b d (e_told E).toNatClampNeg 0 = e_lso E b d k i → J p l e (RM 2 0 0) s m args below meth c D A 7 0 0 (QE below args s D A 0 0 (WD ad cs n E S o) (none, some (.int (e_lso E b d (e_told E).toNatClampNeg 0)), WD ad cs n E S o)) (WD ad cs n E S o) 8 [(0, .ref (ad 13)), (1, .int b), (2, .int d), (3, .int (e_told E)), (4, .int i)] [] := by
    intro k
    induction k with
    | zero =>
      intro i h0 hi hd
      refine j_iload hc dX2_lastStateOf_8 rfl ?_
      refine j_iload_n hc dX2_lastStateOf_10 rfl ?_
      refine j_icmp_ge hc 69 dX2_lastStateOf_11 (by decide) (fun h11 => ?_) (fun h11 => by exact absurd h11 (fun z => z (by rw [i32_le]; omega)))
      refine j_iconst hc (v := -1) dX2_lastStateOf_69 (by decide) ?_
      exact j_iret hc rfl (by decide) (by decide) (by rw [hd]; rfl) dX2_lastStateOf_70
    | succ k ih =>
      intro i h0 hi hd
      have hb := i32_b (e_told E)
      have hi1 : (i + 1).toInt = i.toInt + 1 := i32_inc (by omega)
      refine j_iload hc dX2_lastStateOf_8 rfl ?_
      refine j_iload_n hc dX2_lastStateOf_10 rfl ?_
      refine j_icmp_ge hc 69 dX2_lastStateOf_11 (by decide) (fun h11 => by exact absurd h11 (by rw [i32_le]; omega)) (fun h11 => ?_)
      refine j_aload_n hc dX2_lastStateOf_14 rfl ?_
      refine j_iload hc dX2_lastStateOf_15 rfl ?_
      refine j_callV hc ho (c_X2_codeAt hl) vc_X2_32 rfl ⟨rfl, rfl, by decide, by decide⟩ 13 rfl rfl rfl (Nat.le_of_ble_eq_true rfl) ⟨by decide, by decide⟩ dX2_lastStateOf_17 ⟨by decide, by decide⟩ (fun _ h => by cases h) (fun hr17 => ?_)
      refine j_istore hc dX2_lastStateOf_20 rfl ?_
      refine j_iload hc dX2_lastStateOf_22 rfl ?_
      refine j_sipush hc (v := 1000) dX2_lastStateOf_24 (by decide) ?_
      refine j_irem hc dX2_lastStateOf_27 (by decide) ?_
      refine j_bipush hc (v := 10) dX2_lastStateOf_28 (by decide) ?_
      refine j_idiv hc dX2_lastStateOf_30 (by decide) ?_
      refine j_iload_n hc dX2_lastStateOf_31 rfl ?_
      refine j_icmp_ne hc 39 dX2_lastStateOf_32 (by decide) (fun h32 => ?_) (fun h32 => ?_)
      · -- if_neg h32
        refine j_iconst hc (v := 0) dX2_lastStateOf_39 (by decide) ?_
        refine j_istore hc dX2_lastStateOf_40 rfl ?_
        refine j_iload hc dX2_lastStateOf_42 rfl ?_
        refine j_if_eq hc 63 dX2_lastStateOf_44 (by decide) (fun h44 => ?_) (fun h44 => by exact absurd h44 (by decide))
        refine j_inc hc dX2_lastStateOf_63 rfl (z := 1) (by decide) rfl ?_
        refine j_goto hc 8 dX2_lastStateOf_66 (by decide) ?_
        refine j_lv [(0, .ref (ad 13)), (1, .int b), (2, .int d), (3, .int (e_told E)), (4, .int (i + 1))] ⟨rfl, rfl, rfl, rfl, rfl, trivial⟩ ?_
        exact ih (i + 1) (by omega) (by omega) (by rw [hd]; simp only [e_lso, if_neg h11, if_neg h32, if_pos h44])
      · -- if_pos h32
        refine j_iconst hc (v := 1) dX2_lastStateOf_35 (by decide) ?_
        refine j_goto hc 40 dX2_lastStateOf_36 (by decide) ?_
        refine j_istore hc dX2_lastStateOf_40 rfl ?_
        refine j_iload hc dX2_lastStateOf_42 rfl ?_
        refine j_if_eq hc 63 dX2_lastStateOf_44 (by decide) (fun h44 => by exact absurd h44 (by decide)) (fun h44 => ?_)
        refine j_iload hc dX2_lastStateOf_47 rfl ?_
        refine j_sipush hc (v := 1000) dX2_lastStateOf_49 (by decide) ?_
        refine j_idiv hc dX2_lastStateOf_52 (by decide) ?_
        refine j_iload_n hc dX2_lastStateOf_53 rfl ?_
        refine j_icmp_gt hc 63 dX2_lastStateOf_54 (by decide) (fun h54 => ?_) (fun h54 => ?_)
        · -- if_pos h54
          refine j_inc hc dX2_lastStateOf_63 rfl (z := 1) (by decide) rfl ?_
          refine j_goto hc 8 dX2_lastStateOf_66 (by decide) ?_
          refine j_lv [(0, .ref (ad 13)), (1, .int b), (2, .int d), (3, .int (e_told E)), (4, .int (i + 1))] ⟨rfl, rfl, rfl, rfl, rfl, trivial⟩ ?_
          exact ih (i + 1) (by omega) (by omega) (by rw [hd]; simp only [e_lso, if_neg h11, if_pos h32, if_neg h44, if_pos h54])
        · -- if_neg h54
          refine j_iload hc dX2_lastStateOf_57 rfl ?_
          refine j_bipush hc (v := 10) dX2_lastStateOf_59 (by decide) ?_
          refine j_irem hc dX2_lastStateOf_61 (by decide) ?_
          exact j_iret hc rfl (by decide) (by decide) (by rw [hd]; simp only [e_lso, if_neg h11, if_pos h32, if_neg h44, if_neg h54]) dX2_lastStateOf_62
  refine j_aload_n hc dX2_lastStateOf_0 rfl ?_
  refine j_callV hc ho (c_X2_told hl) vc_X2_28 rfl ⟨rfl, rfl, by decide, by decide⟩ 13 rfl rfl rfl (Nat.le_of_ble_eq_true rfl) ⟨by decide, by decide⟩ dX2_lastStateOf_1 ⟨by decide, by decide⟩ (fun _ h => by cases h) (fun hr1 => ?_)
  refine j_istore_n hc dX2_lastStateOf_4 rfl ?_
  refine j_iconst hc (v := 0) dX2_lastStateOf_5 (by decide) ?_
  refine j_istore hc dX2_lastStateOf_6 rfl ?_
  refine j_lv [(0, .ref (ad 13)), (1, .int b), (2, .int d), (3, .int (e_told E)), (4, .int 0)] ⟨rfl, rfl, rfl, rfl, rfl, trivial⟩ ?_
  exact loop (e_told E).toNatClampNeg 0 (by decide) (by rw [show (0 : Int32).toInt = 0 by decide]; show 0 + ((e_told E).toInt.toNat : Int) = _; omega) rfl
set_option maxRecDepth 100000 in
set_option maxHeartbeats 4000000 in
theorem c_X3_append {l : Launch} {D : va_G} {cs : Nat → ClassId} {sa : Nat → Nat} (hl : l.stackTraces = false)  {ad : Nat → Nat} {n : Nat} {E : ES} {S : MS} {o : Nat → Int64} {i : Nat} (hi : i < 4) {v : Int32} : CM l D cs sa yX3_append cX3_append 2 (Option.none : Option Jvm.ClassFile.FieldType) (RM 0 0 0) 0 0 [.ref (ad (4 + 2 * i)), .int v] (WD ad cs n E S o) (none, none, WD ad cs n (e_app E i v) S o) := by
  refine CM.of RX3 hl (by decide +kernel) rfl (Nat.le_of_ble_eq_true rfl) ?_
  intro p e s m args below meth c A hc ho hmn
  refine j_aload_n hc dX3_append_0 rfl ?_
  refine gf_X3_15 hc hi dX3_append_1 ?_
  refine j_if_lt hc 39 dX3_append_4 (by decide) (fun h4 => ?_) (fun h4 => ?_)
  · -- if_pos h4
    exact j_vret hc rfl (by decide) (by decide) (by simp only [e_app, if_pos h4] <;> rfl) dX3_append_39
  · -- if_neg h4
    refine j_aload_n hc dX3_append_7 rfl ?_
    refine gf_X3_15 hc hi dX3_append_8 ?_
    refine j_aload_n hc dX3_append_11 rfl ?_
    refine gf_X3_9 hc hi dX3_append_12 ?_
    refine ln_gap hc hi dX3_append_15 ?_
    refine j_icmp_ge hc 39 dX3_append_16 (by decide) (fun h16 => ?_) (fun h16 => ?_)
    · -- if_pos h16
      exact j_vret hc rfl (by decide) (by decide) (by simp only [e_app, if_neg h4, if_pos h16] <;> rfl) dX3_append_39
    · -- if_neg h16
      refine j_aload_n hc dX3_append_19 rfl ?_
      refine gf_X3_9 hc hi dX3_append_20 ?_
      refine j_aload_n hc dX3_append_23 rfl ?_
      refine gf_X3_15 hc hi dX3_append_24 ?_
      refine j_iload_n hc dX3_append_27 rfl ?_
      refine as_gap hc hi (vpi (n := 6) h4 h16 (by decide)) dX3_append_28 ?_
      refine j_aload_n hc dX3_append_29 rfl ?_
      refine j_dup hc dX3_append_30 rfl ?_
      refine gf_X3_15 hc hi dX3_append_31 ?_
      refine j_iconst hc (v := 1) dX3_append_34 (by decide) ?_
      refine j_iadd hc dX3_append_35 ?_
      refine pf_X3_15 hc hi dX3_append_36 ?_
      exact j_vret hc rfl (by decide) (by decide) (by simp only [e_app, if_neg h4, if_neg h16] <;> rfl) dX3_append_39
theorem vdb {k : Int32} (h1 : ¬ k < 1) (h2 : ¬ 6 < k) : vp_in (k - 1) 6 := by
  rw [i32_lt] at h1 h2
  have e1 : (1 : Int32).toInt = 1 := by decide
  have e6 : (6 : Int32).toInt = 6 := by decide
  rw [vp_in_iff, i32_sub (by omega) (by omega)]
  omega
set_option maxRecDepth 100000 in
set_option maxHeartbeats 4000000 in
theorem c_X3_daysBehind {l : Launch} {D : va_G} {cs : Nat → ClassId} {sa : Nat → Nat} (hl : l.stackTraces = false)  {ad : Nat → Nat} {n : Nat} {E : ES} {S : MS} {o : Nat → Int64} {i : Nat} (hi : i < 4) {k : Int32} : CM l D cs sa yX3_daysBehind cX3_daysBehind 3 (Option.some Jvm.ClassFile.FieldType.int) (RM 0 0 0) 0 0 [.ref (ad (4 + 2 * i)), .int k] (WD ad cs n E S o) (none, some (.int (e_db E i k)), (WD ad cs n E S o)) := by
  refine CM.of RX3 hl (by decide +kernel) rfl (Nat.le_of_ble_eq_true rfl) ?_
  intro p e s m args below meth c A hc ho hmn
  refine j_iload_n hc dX3_daysBehind_0 rfl ?_
  refine j_iconst hc (v := 1) dX3_daysBehind_1 (by decide) ?_
  refine j_icmp_lt hc 26 dX3_daysBehind_2 (by decide) (fun h2 => ?_) (fun h2 => ?_)
  · -- if_pos h2
    refine j_iconst hc (v := 0) dX3_daysBehind_26 (by decide) ?_
    refine j_istore_n hc dX3_daysBehind_27 rfl ?_
    refine j_iload_n hc dX3_daysBehind_28 rfl ?_
    refine j_if_eq hc 43 dX3_daysBehind_29 (by decide) (fun h29 => ?_) (fun h29 => by exact absurd h29 (by decide))
    refine j_iconst hc (v := 0) dX3_daysBehind_43 (by decide) ?_
    exact j_iret hc rfl (by decide) (by decide) (by simp only [e_db, if_pos h2, if_pos h29] <;> rfl) dX3_daysBehind_44
  · -- if_neg h2
    refine j_iload_n hc dX3_daysBehind_5 rfl ?_
    refine j_aload_n hc dX3_daysBehind_6 rfl ?_
    refine gf_X3_15 hc hi dX3_daysBehind_7 ?_
    refine j_icmp_gt hc 26 dX3_daysBehind_10 (by decide) (fun h10 => ?_) (fun h10 => ?_)
    · -- if_pos h10
      refine j_iconst hc (v := 0) dX3_daysBehind_26 (by decide) ?_
      refine j_istore_n hc dX3_daysBehind_27 rfl ?_
      refine j_iload_n hc dX3_daysBehind_28 rfl ?_
      refine j_if_eq hc 43 dX3_daysBehind_29 (by decide) (fun h29 => ?_) (fun h29 => by exact absurd h29 (by decide))
      refine j_iconst hc (v := 0) dX3_daysBehind_43 (by decide) ?_
      exact j_iret hc rfl (by decide) (by decide) (by simp only [e_db, if_neg h2, if_pos h10, if_pos h29] <;> rfl) dX3_daysBehind_44
    · -- if_neg h10
      refine j_iload_n hc dX3_daysBehind_13 rfl ?_
      refine j_aload_n hc dX3_daysBehind_14 rfl ?_
      refine gf_X3_9 hc hi dX3_daysBehind_15 ?_
      refine ln_gap hc hi dX3_daysBehind_18 ?_
      refine j_icmp_gt hc 26 dX3_daysBehind_19 (by decide) (fun h19 => ?_) (fun h19 => ?_)
      · -- if_pos h19
        refine j_iconst hc (v := 0) dX3_daysBehind_26 (by decide) ?_
        refine j_istore_n hc dX3_daysBehind_27 rfl ?_
        refine j_iload_n hc dX3_daysBehind_28 rfl ?_
        refine j_if_eq hc 43 dX3_daysBehind_29 (by decide) (fun h29 => ?_) (fun h29 => by exact absurd h29 (by decide))
        refine j_iconst hc (v := 0) dX3_daysBehind_43 (by decide) ?_
        exact j_iret hc rfl (by decide) (by decide) (by simp only [e_db, if_neg h2, if_neg h10, if_pos h19, if_pos h29] <;> rfl) dX3_daysBehind_44
      · -- if_neg h19
        refine j_iconst hc (v := 1) dX3_daysBehind_22 (by decide) ?_
        refine j_goto hc 27 dX3_daysBehind_23 (by decide) ?_
        refine j_istore_n hc dX3_daysBehind_27 rfl ?_
        refine j_iload_n hc dX3_daysBehind_28 rfl ?_
        refine j_if_eq hc 43 dX3_daysBehind_29 (by decide) (fun h29 => by exact absurd h29 (by decide)) (fun h29 => ?_)
        refine j_aload_n hc dX3_daysBehind_32 rfl ?_
        refine gf_X3_9 hc hi dX3_daysBehind_33 ?_
        refine j_iload_n hc dX3_daysBehind_36 rfl ?_
        refine j_iconst hc (v := 1) dX3_daysBehind_37 (by decide) ?_
        refine j_isub hc dX3_daysBehind_38 ?_
        refine al_gap hc hi (vdb h2 h19) dX3_daysBehind_39 ?_
        refine j_goto hc 44 dX3_daysBehind_40 (by decide) ?_
        exact j_iret hc rfl (by decide) (by decide) (by simp only [e_db, if_neg h2, if_neg h10, if_neg h19, if_neg h29] <;> rfl) dX3_daysBehind_44
set_option maxRecDepth 100000 in
set_option maxHeartbeats 4000000 in
theorem c_X4_checkRange {l : Launch} {D : va_G} {cs : Nat → ClassId} {sa : Nat → Nat} (hl : l.stackTraces = false)  {w : va_W} {k x y : Int32} : CM l D cs sa yX4_checkRange cX4_checkRange 3 (Option.none : Option Jvm.ClassFile.FieldType) (RM 6 1 6) 1 6 [.int k, .int x, .int y] w (e_rng k x y, none, w) := by
  refine CM.of RX4 hl (by decide +kernel) rfl (Nat.le_of_ble_eq_true rfl) ?_
  intro p e s m args below meth c A hc ho hmn
  refine j_iload_n hc dX4_checkRange_0 rfl ?_
  refine j_iload_n hc dX4_checkRange_1 rfl ?_
  refine j_icmp_lt hc 10 dX4_checkRange_2 (by decide) (fun h2 => ?_) (fun h2 => ?_)
  · -- if_pos h2
    exact j_thr_224 hc ho 222 (tx := "an argument is out of range") (by decide) dX4_checkRange_10 dX4_checkRange_13 dX4_checkRange_14 dX4_checkRange_16 dX4_checkRange_19 (by decide) (Nat.le_of_ble_eq_true rfl) (by decide) (by decide) (by decide) (by decide) ⟨by simp only [e_rng, if_pos h2] <;> rfl, rfl⟩
  · -- if_neg h2
    refine j_iload_n hc dX4_checkRange_5 rfl ?_
    refine j_iload_n hc dX4_checkRange_6 rfl ?_
    refine j_icmp_le hc 20 dX4_checkRange_7 (by decide) (fun h7 => ?_) (fun h7 => ?_)
    · -- if_pos h7
      exact j_vret hc rfl (by decide) (by decide) (by simp only [e_rng, if_neg h2, if_pos h7] <;> rfl) dX4_checkRange_20
    · -- if_neg h7
      exact j_thr_224 hc ho 222 (tx := "an argument is out of range") (by decide) dX4_checkRange_10 dX4_checkRange_13 dX4_checkRange_14 dX4_checkRange_16 dX4_checkRange_19 (by decide) (Nat.le_of_ble_eq_true rfl) (by decide) (by decide) (by decide) (by decide) ⟨by simp only [e_rng, if_neg h2, if_neg h7] <;> rfl, rfl⟩
set_option maxRecDepth 100000 in
set_option maxHeartbeats 4000000 in
theorem c_X4_checkAccount {l : Launch} {D : va_G} {cs : Nat → ClassId} {sa : Nat → Nat} (hl : l.stackTraces = false)  {w : va_W} {k : Int32} : CM l D cs sa yX4_checkAccount cX4_checkAccount 1 (Option.none : Option Jvm.ClassFile.FieldType) (RM 6 1 6) 1 6 [.int k] w (e_acc k, none, w) := by
  refine CM.of RX4 hl (by decide +kernel) rfl (Nat.le_of_ble_eq_true rfl) ?_
  intro p e s m args below meth c A hc ho hmn
  refine j_iload_n hc dX4_checkAccount_0 rfl ?_
  refine j_if_lt hc 10 dX4_checkAccount_1 (by decide) (fun h1 => ?_) (fun h1 => ?_)
  · -- if_pos h1
    exact j_thr_62 hc ho 225 (tx := "no such account") (by decide) dX4_checkAccount_10 dX4_checkAccount_13 dX4_checkAccount_14 dX4_checkAccount_16 dX4_checkAccount_19 (by decide) (Nat.le_of_ble_eq_true rfl) (by decide) (by decide) (by decide) (by decide) ⟨by simp only [e_acc, if_pos h1] <;> rfl, rfl⟩
  · -- if_neg h1
    refine j_iload_n hc dX4_checkAccount_4 rfl ?_
    refine j_bipush hc (v := 8) dX4_checkAccount_5 (by decide) ?_
    refine j_icmp_lt hc 20 dX4_checkAccount_7 (by decide) (fun h7 => ?_) (fun h7 => ?_)
    · -- if_pos h7
      exact j_vret hc rfl (by decide) (by decide) (by simp only [e_acc, if_neg h1, if_pos h7] <;> rfl) dX4_checkAccount_20
    · -- if_neg h7
      exact j_thr_62 hc ho 225 (tx := "no such account") (by decide) dX4_checkAccount_10 dX4_checkAccount_13 dX4_checkAccount_14 dX4_checkAccount_16 dX4_checkAccount_19 (by decide) (Nat.le_of_ble_eq_true rfl) (by decide) (by decide) (by decide) (by decide) ⟨by simp only [e_acc, if_neg h1, if_neg h7] <;> rfl, rfl⟩
set_option maxRecDepth 100000 in
set_option maxHeartbeats 4000000 in
theorem c_X4_indexOfReason {l : Launch} {D : va_G} {cs : Nat → ClassId} {sa : Nat → Nat} (hl : l.stackTraces = false)  {w : va_W} {k : Int32} : CM l D cs sa yX4_indexOfReason cX4_indexOfReason 1 (Option.some Jvm.ClassFile.FieldType.int) (RM 6 1 6) 1 6 [.int k] w (e_rsn k, some (.int (k - 1)), w) := by
  refine CM.of RX4 hl (by decide +kernel) rfl (Nat.le_of_ble_eq_true rfl) ?_
  intro p e s m args below meth c A hc ho hmn
  refine j_iload_n hc dX4_indexOfReason_0 rfl ?_
  refine j_iconst hc (v := 1) dX4_indexOfReason_1 (by decide) ?_
  refine j_icmp_lt hc 10 dX4_indexOfReason_2 (by decide) (fun h2 => ?_) (fun h2 => ?_)
  · -- if_pos h2
    exact j_thr_62 hc ho 227 (tx := "no such reason") (by decide) dX4_indexOfReason_10 dX4_indexOfReason_13 dX4_indexOfReason_14 dX4_indexOfReason_16 dX4_indexOfReason_19 (by decide) (Nat.le_of_ble_eq_true rfl) (by decide) (by decide) (by decide) (by decide) ⟨by simp only [e_rsn, if_pos h2] <;> rfl, rfl⟩
  · -- if_neg h2
    refine j_iload_n hc dX4_indexOfReason_5 rfl ?_
    refine j_iconst hc (v := 4) dX4_indexOfReason_6 (by decide) ?_
    refine j_icmp_le hc 20 dX4_indexOfReason_7 (by decide) (fun h7 => ?_) (fun h7 => ?_)
    · -- if_pos h7
      refine j_iload_n hc dX4_indexOfReason_20 rfl ?_
      refine j_iconst hc (v := 1) dX4_indexOfReason_21 (by decide) ?_
      refine j_isub hc dX4_indexOfReason_22 ?_
      exact j_iret hc rfl (by decide) (by decide) (by simp only [e_rsn, if_neg h2, if_pos h7] <;> rfl) dX4_indexOfReason_23
    · -- if_neg h7
      exact j_thr_62 hc ho 227 (tx := "no such reason") (by decide) dX4_indexOfReason_10 dX4_indexOfReason_13 dX4_indexOfReason_14 dX4_indexOfReason_16 dX4_indexOfReason_19 (by decide) (Nat.le_of_ble_eq_true rfl) (by decide) (by decide) (by decide) (by decide) ⟨by simp only [e_rsn, if_neg h2, if_neg h7] <;> rfl, rfl⟩
set_option maxRecDepth 100000 in
set_option maxHeartbeats 4000000 in
theorem c_X4_indexOfReason_ok {l : Launch} {D : va_G} {cs : Nat → ClassId} {sa : Nat → Nat} (hl : l.stackTraces = false)  {w : va_W} {k : Int32} (hk : e_rsn k = none) : CM l D cs sa yX4_indexOfReason cX4_indexOfReason 1 (Option.some Jvm.ClassFile.FieldType.int) (RM 0 0 0) 0 0 [.int k] w (none, some (.int (k - 1)), w) := by
  refine CM.of RX4 hl (by decide +kernel) rfl (Nat.le_of_ble_eq_true rfl) ?_
  intro p e s m args below meth c A hc ho hmn
  refine j_iload_n hc dX4_indexOfReason_0 rfl ?_
  refine j_iconst hc (v := 1) dX4_indexOfReason_1 (by decide) ?_
  refine j_icmp_lt hc 10 dX4_indexOfReason_2 (by decide) (fun h2 => by simp only [e_rsn, h2, if_true] at hk; cases hk) (fun h2 => ?_)
  refine j_iload_n hc dX4_indexOfReason_5 rfl ?_
  refine j_iconst hc (v := 4) dX4_indexOfReason_6 (by decide) ?_
  refine j_icmp_le hc 20 dX4_indexOfReason_7 (by decide) (fun h7 => ?_) (fun h7 => by rw [e_rsn, if_neg h2, if_neg h7] at hk; cases hk)
  refine j_iload_n hc dX4_indexOfReason_20 rfl ?_
  refine j_iconst hc (v := 1) dX4_indexOfReason_21 (by decide) ?_
  refine j_isub hc dX4_indexOfReason_22 ?_
  exact j_iret hc rfl (by decide) (by decide) (rfl) dX4_indexOfReason_23
set_option maxRecDepth 100000 in
set_option maxHeartbeats 4000000 in
theorem c_X4_findBill {l : Launch} {D : va_G} {cs : Nat → ClassId} {sa : Nat → Nat} (hl : l.stackTraces = false)  {ad : Nat → Nat} {n : Nat} {E : ES} {S : MS} {o : Nat → Int64} (hn30 : n ≤ 30) {k : Int32} : CM l D cs sa yX4_findBill cX4_findBill 3 (Option.some (Jvm.ClassFile.FieldType.object "CollectionsEngine$Bill")) (RM 6 1 6) 1 6 [.ref (ad 0), .int k] (WD ad cs n E S o) (e_fb n k, some (.ref (ad (33 + 2 * k.toNatClampNeg))), WD ad cs n E S o) := by
  refine CM.of RX4 hl (by decide +kernel) rfl (Nat.le_of_ble_eq_true rfl) ?_
  intro p e s m args below meth c A hc ho hmn
  refine j_iload_n hc dX4_findBill_0 rfl ?_
  refine j_if_lt hc 22 dX4_findBill_1 (by decide) (fun h1 => ?_) (fun h1 => ?_)
  · -- if_pos h1
    refine j_null hc dX4_findBill_22 ?_
    refine j_astore_nN hc dX4_findBill_23 rfl ?_
    refine j_aload_nN hc dX4_findBill_24 rfl ?_
    refine j_ifnonnullN hc dX4_findBill_25 ?_
    exact j_thr_62 hc ho 229 (tx := "no such bill") (by decide) dX4_findBill_28 dX4_findBill_31 dX4_findBill_32 dX4_findBill_34 dX4_findBill_37 (by decide) (Nat.le_of_ble_eq_true rfl) (by decide) (by decide) (by decide) (by decide) ⟨by simp only [e_fb, if_pos h1] <;> rfl, rfl⟩
  · -- if_neg h1
    refine j_iload_n hc dX4_findBill_4 rfl ?_
    refine j_aload_n hc dX4_findBill_5 rfl ?_
    refine gf_X4_40 hc dX4_findBill_6 ?_
    refine ln_row hc dX4_findBill_9 ?_
    refine j_icmp_ge hc 22 dX4_findBill_10 (by decide) (fun h10 => ?_) (fun h10 => ?_)
    · -- if_pos h10
      refine j_null hc dX4_findBill_22 ?_
      refine j_astore_nN hc dX4_findBill_23 rfl ?_
      refine j_aload_nN hc dX4_findBill_24 rfl ?_
      refine j_ifnonnullN hc dX4_findBill_25 ?_
      exact j_thr_62 hc ho 229 (tx := "no such bill") (by decide) dX4_findBill_28 dX4_findBill_31 dX4_findBill_32 dX4_findBill_34 dX4_findBill_37 (by decide) (Nat.le_of_ble_eq_true rfl) (by decide) (by decide) (by decide) (by decide) ⟨by simp only [e_fb, if_neg h1, if_pos h10] <;> rfl, rfl⟩
    · -- if_neg h10
      refine j_aload_n hc dX4_findBill_13 rfl ?_
      refine gf_X4_40 hc dX4_findBill_14 ?_
      refine j_iload_n hc dX4_findBill_17 rfl ?_
      by_cases hb : k.toNatClampNeg < n
      · refine al_rowp hc hn30 (vpi (n := 30) h1 h10 (by decide)) hb dX4_findBill_18 ?_
        refine j_goto hc 23 dX4_findBill_19 (by decide) ?_
        refine j_astore_n hc dX4_findBill_23 rfl ?_
        refine j_aload_n hc dX4_findBill_24 rfl ?_
        refine j_ifnonnull hc 38 dX4_findBill_25 (by decide) ?_
        refine j_aload_n hc dX4_findBill_38 rfl ?_
        exact j_aret hc rfl (by decide) (by decide) (by simp only [e_fb, if_neg h1, if_neg h10, if_pos hb] <;> rfl) dX4_findBill_39
      · refine al_rowNp hc (vpi (n := 30) h1 h10 (by decide)) hb dX4_findBill_18 ?_
        refine j_goto hc 23 dX4_findBill_19 (by decide) ?_
        refine j_astore_nN hc dX4_findBill_23 rfl ?_
        refine j_aload_nN hc dX4_findBill_24 rfl ?_
        refine j_ifnonnullN hc dX4_findBill_25 ?_
        exact j_thr_62 hc ho 229 (tx := "no such bill") (by decide) dX4_findBill_28 dX4_findBill_31 dX4_findBill_32 dX4_findBill_34 dX4_findBill_37 (by decide) (Nat.le_of_ble_eq_true rfl) (by decide) (by decide) (by decide) (by decide) ⟨by simp only [e_fb, if_neg h1, if_neg h10, if_neg hb] <;> rfl, rfl⟩
end
section
set_option maxRecDepth 100000 in
set_option maxHeartbeats 4000000 in
theorem c_X4_enter {l : Launch} {D : va_G} {cs : Nat → ClassId} {sa : Nat → Nat} (hl : l.stackTraces = false)  {ad : Nat → Nat} {n : Nat} {E : ES} {S : MS} {o : Nat → Int64} {b : Nat} (hb : b < n) {s0 wd : Int32} : CM l D cs sa yX4_enter cX4_enter 4 (Option.none : Option Jvm.ClassFile.FieldType) (RM 2 0 0) 0 0 [.ref (ad 0), .ref (ad (33 + 2 * b)), .int s0, .int wd] (WD ad cs n E S o) (none, none, WD ad cs n (e_enter E b s0 wd) S o) := by
  refine CM.of RX4 hl (by decide +kernel) rfl (Nat.le_of_ble_eq_true rfl) ?_
  intro p e s m args below meth c A hc ho hmn
  refine j_aload_n hc dX4_enter_0 rfl ?_
  refine j_iload_n hc dX4_enter_1 rfl ?_
  refine pf_X4_133 hc hb dX4_enter_2 ?_
  refine j_aload_n hc dX4_enter_5 rfl ?_
  refine j_iload_n hc dX4_enter_6 rfl ?_
  refine pf_X4_158 hc hb dX4_enter_7 ?_
  refine j_aload_n hc dX4_enter_10 rfl ?_
  refine gf_X4_47 hc dX4_enter_11 ?_
  refine j_aload_n hc dX4_enter_14 rfl ?_
  refine gf_X4_83 hc dX4_enter_15 ?_
  refine j_aload_n hc dX4_enter_18 rfl ?_
  refine gf_X4_231 hc hb dX4_enter_19 ?_
  refine j_iload_n hc dX4_enter_22 rfl ?_
  refine j_callV hc ho (c_X2_add hl) vc_X4_234 rfl ⟨rfl, rfl, by decide, by decide⟩ 13 rfl rfl rfl (Nat.le_of_ble_eq_true rfl) ⟨by decide, by decide⟩ dX4_enter_23 ⟨by decide, by decide⟩ (fun _ h => by cases h) (fun hr23 => ?_)
  exact j_vret hc rfl (by decide) (by decide) (rfl) dX4_enter_26
set_option maxRecDepth 100000 in
set_option maxHeartbeats 4000000 in
theorem c_X4_takePayment {l : Launch} {D : va_G} {cs : Nat → ClassId} {sa : Nat → Nat} (hl : l.stackTraces = false)  {ad : Nat → Nat} {n : Nat} {E : ES} {S : MS} {o : Nat → Int64} {b : Nat} (hb : b < n) {v : Int32} : CM l D cs sa yX4_takePayment cX4_takePayment 3 (Option.none : Option Jvm.ClassFile.FieldType) (RM 3 0 0) 0 0 [.ref (ad 0), .ref (ad (33 + 2 * b)), .int v] (WD ad cs n E S o) (none, none, WD ad cs n (e_take E b v) S o) := by
  refine CM.of RX4 hl (by decide +kernel) rfl (Nat.le_of_ble_eq_true rfl) ?_
  intro p e s m args below meth c A hc ho hmn
  refine j_aload_n hc dX4_takePayment_0 rfl ?_
  refine j_dup hc dX4_takePayment_1 rfl ?_
  refine gf_X4_138 hc hb dX4_takePayment_2 ?_
  refine j_iload_n hc dX4_takePayment_5 rfl ?_
  refine j_isub hc dX4_takePayment_6 ?_
  refine pf_X4_138 hc hb dX4_takePayment_7 ?_
  refine j_aload_n hc dX4_takePayment_10 rfl ?_
  refine j_dup hc dX4_takePayment_11 rfl ?_
  refine gf_X4_197 hc dX4_takePayment_12 ?_
  refine j_iload_n hc dX4_takePayment_15 rfl ?_
  refine j_iadd hc dX4_takePayment_16 ?_
  refine pf_X4_197 hc dX4_takePayment_17 ?_
  refine j_aload_n hc dX4_takePayment_20 rfl ?_
  refine gf_X4_133 hc hb dX4_takePayment_21 ?_
  refine j_iconst hc (v := 5) dX4_takePayment_24 (by decide) ?_
  refine j_icmp_ne hc 38 dX4_takePayment_25 (by decide) (fun h25 => ?_) (fun h25 => ?_)
  · -- if_neg h25
    refine j_aload_n hc dX4_takePayment_38 rfl ?_
    refine gf_X4_138 hc hb dX4_takePayment_39 ?_
    refine j_if_ne hc 53 dX4_takePayment_42 (by decide) (fun h42 => ?_) (fun h42 => ?_)
    · -- if_neg h42
      exact j_vret hc rfl (by decide) (by decide) (by simp only [e_take, if_neg h25, if_neg h42] <;> rfl) dX4_takePayment_53
    · -- if_pos h42
      refine j_aload_n hc dX4_takePayment_45 rfl ?_
      refine j_aload_n hc dX4_takePayment_46 rfl ?_
      refine j_bipush hc (v := 6) dX4_takePayment_47 (by decide) ?_
      refine j_iconst hc (v := -1) dX4_takePayment_49 (by decide) ?_
      refine j_callV hc ho (c_X4_enter hl hb) vc_X4_125 rfl ⟨rfl, rfl, by decide, by decide⟩ 0 rfl rfl rfl (Nat.le_of_ble_eq_true rfl) ⟨by decide, by decide⟩ dX4_takePayment_50 ⟨by decide, by decide⟩ (fun _ h => by cases h) (fun hr50 => ?_)
      exact j_vret hc rfl (by decide) (by decide) (by simp only [e_take, if_neg h25, if_pos h42] <;> rfl) dX4_takePayment_53
  · -- if_pos h25
    refine j_aload_n hc dX4_takePayment_28 rfl ?_
    refine j_dup hc dX4_takePayment_29 rfl ?_
    refine gf_X4_203 hc dX4_takePayment_30 ?_
    refine j_iload_n hc dX4_takePayment_33 rfl ?_
    refine j_iadd hc dX4_takePayment_34 ?_
    refine pf_X4_203 hc dX4_takePayment_35 ?_
    refine j_aload_n hc dX4_takePayment_38 rfl ?_
    refine gf_X4_138 hc hb dX4_takePayment_39 ?_
    refine j_if_ne hc 53 dX4_takePayment_42 (by decide) (fun h42 => ?_) (fun h42 => ?_)
    · -- if_neg h42
      exact j_vret hc rfl (by decide) (by decide) (by simp only [e_take, if_pos h25, if_neg h42] <;> rfl) dX4_takePayment_53
    · -- if_pos h42
      refine j_aload_n hc dX4_takePayment_45 rfl ?_
      refine j_aload_n hc dX4_takePayment_46 rfl ?_
      refine j_bipush hc (v := 6) dX4_takePayment_47 (by decide) ?_
      refine j_iconst hc (v := -1) dX4_takePayment_49 (by decide) ?_
      refine j_callV hc ho (c_X4_enter hl hb) vc_X4_125 rfl ⟨rfl, rfl, by decide, by decide⟩ 0 rfl rfl rfl (Nat.le_of_ble_eq_true rfl) ⟨by decide, by decide⟩ dX4_takePayment_50 ⟨by decide, by decide⟩ (fun _ h => by cases h) (fun hr50 => ?_)
      exact j_vret hc rfl (by decide) (by decide) (by simp only [e_take, if_pos h25, if_pos h42] <;> rfl) dX4_takePayment_53
theorem vrs {k : Int32} (h : e_rsn k = none) : vp_in (k - 1) 4 := by
  have e1 : (1 : Int32).toInt = 1 := by decide
  have e4 : (4 : Int32).toInt = 4 := by decide
  unfold e_rsn at h
  simp only [i32_lt, i32_le] at h
  have h1 : ¬ k.toInt < 1 := fun z => by rw [if_pos (by omega)] at h; cases h
  rw [if_neg (by omega)] at h
  have h2 : k.toInt ≤ 4 := by
    by_cases z : k.toInt ≤ 4
    · exact z
    · rw [if_neg (by omega)] at h; cases h
  rw [vp_in_iff, i32_sub (by omega) (by omega)]
  omega
theorem vrs4 {k : Int32} (h : e_rsn k = none) : (k - 1).toNatClampNeg < 4 := by
  have := vp_in_iff.mp (vrs h)
  show (k - 1).toInt.toNat < 4
  omega
set_option maxRecDepth 100000 in
set_option maxHeartbeats 4000000 in
theorem c_X4_fail {l : Launch} {D : va_G} {cs : Nat → ClassId} {sa : Nat → Nat} (hl : l.stackTraces = false)  {ad : Nat → Nat} {n : Nat} {E : ES} {S : MS} {o : Nat → Int64} {b : Nat} (hb : b < n) {r : Int32} (hr : e_rsn r = none) : CM l D cs sa yX4_fail cX4_fail 5 (Option.none : Option Jvm.ClassFile.FieldType) (RM 3 0 0) 0 0 [.ref (ad 0), .ref (ad (33 + 2 * b)), .int r] (WD ad cs n E S o) (none, none, WD ad cs n (e_fail E b r) S o) := by
  refine CM.of RX4 hl (by decide +kernel) rfl (Nat.le_of_ble_eq_true rfl) ?_
  intro p e s m args below meth c A hc ho hmn
  refine j_iload_n hc dX4_fail_0 rfl ?_
  refine j_callS hc ho (c_X4_indexOfReason_ok hl hr) sc_X4_98 rfl ⟨rfl, rfl, by decide, by decide⟩ rfl (Nat.le_of_ble_eq_true rfl) ⟨by decide, by decide⟩ dX4_fail_1 ⟨by decide, by decide⟩ (fun _ h => by cases h) (fun hr1 => ?_)
  refine j_istore_n hc dX4_fail_4 rfl ?_
  refine j_aload_n hc dX4_fail_5 rfl ?_
  refine gf_X4_178 hc hb dX4_fail_6 ?_
  refine j_iload_n hc dX4_fail_9 rfl ?_
  refine j_dup2 hc dX4_fail_10 rfl rfl ?_
  refine al_fails hc hb (vrs hr) dX4_fail_11 ?_
  refine j_iconst hc (v := 1) dX4_fail_12 (by decide) ?_
  refine j_iadd hc dX4_fail_13 ?_
  refine as_fails hc hb (vrs hr) dX4_fail_14 ?_
  refine j_aload_n hc dX4_fail_15 rfl ?_
  refine gf_X4_34 hc dX4_fail_16 ?_
  refine j_iload_n hc dX4_fail_19 rfl ?_
  refine al_gapsp hc (vrs hr) dX4_fail_20 ?_
  refine j_aload_n hc dX4_fail_21 rfl ?_
  refine gf_X4_178 hc hb dX4_fail_22 ?_
  refine j_iload_n hc dX4_fail_25 rfl ?_
  refine al_fails hc hb (vrs hr) dX4_fail_26 ?_
  refine j_callV hc ho (c_X3_daysBehind hl (vrs4 hr)) vc_X4_237 rfl ⟨rfl, rfl, by decide, by decide⟩ _ (wd_gap (vrs4 hr)) rfl rfl (Nat.le_of_ble_eq_true rfl) ⟨by decide, by decide⟩ dX4_fail_27 ⟨by decide, by decide⟩ (fun _ h => by cases h) (fun hr27 => ?_)
  refine j_istore hc dX4_fail_30 rfl ?_
  refine j_iload hc dX4_fail_32 rfl ?_
  refine j_if_ne hc 55 dX4_fail_34 (by decide) (fun h34 => ?_) (fun h34 => ?_)
  · -- if_neg h34
    refine j_aload_n hc dX4_fail_55 rfl ?_
    refine j_aload_n hc dX4_fail_56 rfl ?_
    refine j_iconst hc (v := 0) dX4_fail_57 (by decide) ?_
    refine j_aload_n hc dX4_fail_58 rfl ?_
    refine gf_X4_10 hc dX4_fail_59 ?_
    refine j_aload_n hc dX4_fail_62 rfl ?_
    refine gf_X4_83 hc dX4_fail_63 ?_
    refine j_iload hc dX4_fail_66 rfl ?_
    refine j_iadd hc dX4_fail_68 ?_
    refine j_callV hc ho (c_X1_firstChargingFrom hl) vc_X4_122 rfl ⟨rfl, rfl, by decide, by decide⟩ 1 rfl rfl rfl (Nat.le_of_ble_eq_true rfl) ⟨by decide, by decide⟩ dX4_fail_69 ⟨by decide, by decide⟩ (fun _ h => by cases h) (fun hr69 => ?_)
    refine j_callV hc ho (c_X4_enter hl hb) vc_X4_125 rfl ⟨rfl, rfl, by decide, by decide⟩ 0 rfl rfl rfl (Nat.le_of_ble_eq_true rfl) ⟨by decide, by decide⟩ dX4_fail_72 ⟨by decide, by decide⟩ (fun _ h => by cases h) (fun hr72 => ?_)
    exact j_vret hc rfl (by decide) (by decide) (by simp only [e_fail, if_neg h34] <;> rfl) dX4_fail_75
  · -- if_pos h34
    refine j_aload_n hc dX4_fail_37 rfl ?_
    refine j_aload_n hc dX4_fail_38 rfl ?_
    refine j_iconst hc (v := 2) dX4_fail_39 (by decide) ?_
    refine j_aload_n hc dX4_fail_40 rfl ?_
    refine gf_X4_83 hc dX4_fail_41 ?_
    refine j_aload_n hc dX4_fail_44 rfl ?_
    refine gf_X4_51 hc dX4_fail_45 ?_
    refine j_iadd hc dX4_fail_48 ?_
    refine j_callV hc ho (c_X4_enter hl hb) vc_X4_125 rfl ⟨rfl, rfl, by decide, by decide⟩ 0 rfl rfl rfl (Nat.le_of_ble_eq_true rfl) ⟨by decide, by decide⟩ dX4_fail_49 ⟨by decide, by decide⟩ (fun _ h => by cases h) (fun hr49 => ?_)
    refine j_goto hc 75 dX4_fail_52 (by decide) ?_
    exact j_vret hc rfl (by decide) (by decide) (by simp only [e_fail, if_pos h34] <;> rfl) dX4_fail_75
set_option maxRecDepth 100000 in
set_option maxHeartbeats 4000000 in
theorem c_X4_breakPromise {l : Launch} {D : va_G} {cs : Nat → ClassId} {sa : Nat → Nat} (hl : l.stackTraces = false)  {ad : Nat → Nat} {n : Nat} {E : ES} {S : MS} {o : Nat → Int64} {b : Nat} (hb : b < n) : CM l D cs sa yX4_breakPromise cX4_breakPromise 2 (Option.none : Option Jvm.ClassFile.FieldType) (RM 3 0 0) 0 0 [.ref (ad 0), .ref (ad (33 + 2 * b))] (WD ad cs n E S o) (none, none, WD ad cs n (e_bp E b) S o) := by
  refine CM.of RX4 hl (by decide +kernel) rfl (Nat.le_of_ble_eq_true rfl) ?_
  intro p e s m args below meth c A hc ho hmn
  refine j_aload_n hc dX4_breakPromise_0 rfl ?_
  refine j_dup hc dX4_breakPromise_1 rfl ?_
  refine gf_X4_181 hc hb dX4_breakPromise_2 ?_
  refine j_iconst hc (v := 1) dX4_breakPromise_5 (by decide) ?_
  refine j_iadd hc dX4_breakPromise_6 ?_
  refine pf_X4_181 hc hb dX4_breakPromise_7 ?_
  refine j_aload_n hc dX4_breakPromise_10 rfl ?_
  refine gf_X4_155 hc hb dX4_breakPromise_11 ?_
  refine j_if_ne hc 39 dX4_breakPromise_14 (by decide) (fun h14 => ?_) (fun h14 => ?_)
  · -- if_neg h14
    refine j_aload_n hc dX4_breakPromise_39 rfl ?_
    refine j_aload_n hc dX4_breakPromise_40 rfl ?_
    refine j_aload_n hc dX4_breakPromise_41 rfl ?_
    refine gf_X4_155 hc hb dX4_breakPromise_42 ?_
    refine j_aload_n hc dX4_breakPromise_45 rfl ?_
    refine gf_X4_83 hc dX4_breakPromise_46 ?_
    refine j_aload_n hc dX4_breakPromise_49 rfl ?_
    refine gf_X4_161 hc hb dX4_breakPromise_50 ?_
    refine j_iadd hc dX4_breakPromise_53 ?_
    refine j_callV hc ho (c_X4_enter hl hb) vc_X4_125 rfl ⟨rfl, rfl, by decide, by decide⟩ 0 rfl rfl rfl (Nat.le_of_ble_eq_true rfl) ⟨by decide, by decide⟩ dX4_breakPromise_54 ⟨by decide, by decide⟩ (fun _ h => by cases h) (fun hr54 => ?_)
    exact j_vret hc rfl (by decide) (by decide) (by simp only [e_bp, if_neg h14] <;> rfl) dX4_breakPromise_57
  · -- if_pos h14
    refine j_aload_n hc dX4_breakPromise_17 rfl ?_
    refine j_aload_n hc dX4_breakPromise_18 rfl ?_
    refine j_iconst hc (v := 0) dX4_breakPromise_19 (by decide) ?_
    refine j_aload_n hc dX4_breakPromise_20 rfl ?_
    refine gf_X4_10 hc dX4_breakPromise_21 ?_
    refine j_aload_n hc dX4_breakPromise_24 rfl ?_
    refine gf_X4_83 hc dX4_breakPromise_25 ?_
    refine j_iconst hc (v := 1) dX4_breakPromise_28 (by decide) ?_
    refine j_iadd hc dX4_breakPromise_29 ?_
    refine j_callV hc ho (c_X1_firstChargingFrom hl) vc_X4_122 rfl ⟨rfl, rfl, by decide, by decide⟩ 1 rfl rfl rfl (Nat.le_of_ble_eq_true rfl) ⟨by decide, by decide⟩ dX4_breakPromise_30 ⟨by decide, by decide⟩ (fun _ h => by cases h) (fun hr30 => ?_)
    refine j_callV hc ho (c_X4_enter hl hb) vc_X4_125 rfl ⟨rfl, rfl, by decide, by decide⟩ 0 rfl rfl rfl (Nat.le_of_ble_eq_true rfl) ⟨by decide, by decide⟩ dX4_breakPromise_33 ⟨by decide, by decide⟩ (fun _ h => by cases h) (fun hr33 => ?_)
    refine j_goto hc 57 dX4_breakPromise_36 (by decide) ?_
    exact j_vret hc rfl (by decide) (by decide) (by simp only [e_bp, if_pos h14] <;> rfl) dX4_breakPromise_57
set_option maxRecDepth 100000 in
set_option maxHeartbeats 4000000 in
theorem c_X4_beginTry {l : Launch} {D : va_G} {cs : Nat → ClassId} {sa : Nat → Nat} (hl : l.stackTraces = false)  {ad : Nat → Nat} {n : Nat} {E : ES} {S : MS} {o : Nat → Int64} {b : Nat} (hb : b < n) : CM l D cs sa yX4_beginTry cX4_beginTry 2 (Option.some Jvm.ClassFile.FieldType.boolean) (RM 3 0 0) 0 0 [.ref (ad 0), .ref (ad (33 + 2 * b))] (WD ad cs n E S o) (none, some (.int (e_bt E b).1), WD ad cs n (e_bt E b).2 S o) := by
  refine CM.of RX4 hl (by decide +kernel) rfl (Nat.le_of_ble_eq_true rfl) ?_
  intro p e s m args below meth c A hc ho hmn
  refine j_aload_n hc dX4_beginTry_0 rfl ?_
  refine gf_X4_10 hc dX4_beginTry_1 ?_
  refine j_aload_n hc dX4_beginTry_4 rfl ?_
  refine gf_X4_83 hc dX4_beginTry_5 ?_
  refine j_callV hc ho (c_X1_allowsCharging hl) vc_X4_172 rfl ⟨rfl, rfl, by decide, by decide⟩ 1 rfl rfl rfl (Nat.le_of_ble_eq_true rfl) ⟨by decide, by decide⟩ dX4_beginTry_8 ⟨by decide, by decide⟩ (fun _ h => by cases h) (fun hr8 => ?_)
  refine j_if_ne hc 33 dX4_beginTry_11 (by decide) (fun h11 => ?_) (fun h11 => ?_)
  · -- if_neg h11
    refine j_aload_n hc dX4_beginTry_33 rfl ?_
    refine j_dup hc dX4_beginTry_34 rfl ?_
    refine gf_X4_175 hc hb dX4_beginTry_35 ?_
    refine j_iconst hc (v := 1) dX4_beginTry_38 (by decide) ?_
    refine j_iadd hc dX4_beginTry_39 ?_
    refine pf_X4_175 hc hb dX4_beginTry_40 ?_
    refine j_aload_n hc dX4_beginTry_43 rfl ?_
    refine j_aload_n hc dX4_beginTry_44 rfl ?_
    refine j_iconst hc (v := 1) dX4_beginTry_45 (by decide) ?_
    refine j_iconst hc (v := -1) dX4_beginTry_46 (by decide) ?_
    refine j_callV hc ho (c_X4_enter hl hb) vc_X4_125 rfl ⟨rfl, rfl, by decide, by decide⟩ 0 rfl rfl rfl (Nat.le_of_ble_eq_true rfl) ⟨by decide, by decide⟩ dX4_beginTry_47 ⟨by decide, by decide⟩ (fun _ h => by cases h) (fun hr47 => ?_)
    refine j_iconst hc (v := 1) dX4_beginTry_50 (by decide) ?_
    exact j_zret hc rfl rfl (by decide) (by decide) (by simp only [e_bt, if_neg h11] <;> rfl) dX4_beginTry_51
  · -- if_pos h11
    refine j_aload_n hc dX4_beginTry_14 rfl ?_
    refine j_aload_n hc dX4_beginTry_15 rfl ?_
    refine gf_X4_10 hc dX4_beginTry_16 ?_
    refine j_aload_n hc dX4_beginTry_19 rfl ?_
    refine gf_X4_83 hc dX4_beginTry_20 ?_
    refine j_iconst hc (v := 1) dX4_beginTry_23 (by decide) ?_
    refine j_iadd hc dX4_beginTry_24 ?_
    refine j_callV hc ho (c_X1_firstChargingFrom hl) vc_X4_122 rfl ⟨rfl, rfl, by decide, by decide⟩ 1 rfl rfl rfl (Nat.le_of_ble_eq_true rfl) ⟨by decide, by decide⟩ dX4_beginTry_25 ⟨by decide, by decide⟩ (fun _ h => by cases h) (fun hr25 => ?_)
    refine pf_X4_158 hc hb dX4_beginTry_28 ?_
    refine j_iconst hc (v := 0) dX4_beginTry_31 (by decide) ?_
    exact j_zret hc rfl rfl (by decide) (by decide) (by simp only [e_bt, if_pos h11] <;> rfl) dX4_beginTry_32
theorem bt_01 (E : ES) (b : Nat) : (e_bt E b).1 = 0 ∨ (e_bt E b).1 = 1 := by
  unfold e_bt
  split
  · exact Or.inl rfl
  · exact Or.inr rfl
theorem look_01 (E : ES) (b : Nat) : (e_look E b).1 = 0 ∨ (e_look E b).1 = 1 := by
  unfold e_look
  split
  · split
    · exact Or.inl rfl
    · exact bt_01 E b
  · split
    · split
      · exact Or.inl rfl
      · split
        · exact Or.inl rfl
        · split <;> exact Or.inl rfl
    · exact Or.inl rfl
set_option maxRecDepth 100000 in
set_option maxHeartbeats 4000000 in
theorem c_X4_lookAt {l : Launch} {D : va_G} {cs : Nat → ClassId} {sa : Nat → Nat} (hl : l.stackTraces = false)  {ad : Nat → Nat} {n : Nat} {E : ES} {S : MS} {o : Nat → Int64} {b : Nat} (hb : b < n) : CM l D cs sa yX4_lookAt cX4_lookAt 2 (Option.some Jvm.ClassFile.FieldType.boolean) (RM 4 0 0) 0 0 [.ref (ad 0), .ref (ad (33 + 2 * b))] (WD ad cs n E S o) (none, some (.int (e_look E b).1), WD ad cs n (e_look E b).2 S o) := by
  refine CM.of RX4 hl (by decide +kernel) rfl (Nat.le_of_ble_eq_true rfl) ?_
  intro p e s m args below meth c A hc ho hmn
  refine j_aload_n hc dX4_lookAt_0 rfl ?_
  refine gf_X4_133 hc hb dX4_lookAt_1 ?_
  refine j_if_ne hc 32 dX4_lookAt_4 (by decide) (fun h4 => ?_) (fun h4 => ?_)
  · -- if_neg h4
    refine j_aload_n hc dX4_lookAt_32 rfl ?_
    refine gf_X4_158 hc hb dX4_lookAt_33 ?_
    refine j_aload_n hc dX4_lookAt_36 rfl ?_
    refine gf_X4_83 hc dX4_lookAt_37 ?_
    refine j_icmp_eq hc 45 dX4_lookAt_40 (by decide) (fun h40 => ?_) (fun h40 => ?_)
    · -- if_pos h40
      refine j_aload_n hc dX4_lookAt_45 rfl ?_
      refine gf_X4_133 hc hb dX4_lookAt_46 ?_
      refine j_iconst hc (v := 2) dX4_lookAt_49 (by decide) ?_
      refine j_icmp_ne hc 71 dX4_lookAt_50 (by decide) (fun h50 => ?_) (fun h50 => ?_)
      · -- if_neg h50
        refine j_aload_n hc dX4_lookAt_71 rfl ?_
        refine gf_X4_133 hc hb dX4_lookAt_72 ?_
        refine j_iconst hc (v := 3) dX4_lookAt_75 (by decide) ?_
        refine j_icmp_ne hc 102 dX4_lookAt_76 (by decide) (fun h76 => ?_) (fun h76 => ?_)
        · -- if_neg h76
          refine j_aload_n hc dX4_lookAt_102 rfl ?_
          refine gf_X4_133 hc hb dX4_lookAt_103 ?_
          refine j_iconst hc (v := 4) dX4_lookAt_106 (by decide) ?_
          refine j_icmp_ne hc 115 dX4_lookAt_107 (by decide) (fun h107 => ?_) (fun h107 => ?_)
          · -- if_neg h107
            refine j_iconst hc (v := 0) dX4_lookAt_115 (by decide) ?_
            exact j_zret hc rfl rfl (by decide) (by decide) (by simp only [e_look, if_neg h4, if_pos h40, if_neg h50, if_neg h76, if_neg h107] <;> rfl) dX4_lookAt_116
          · -- if_pos h107
            refine j_aload_n hc dX4_lookAt_110 rfl ?_
            refine j_aload_n hc dX4_lookAt_111 rfl ?_
            refine j_callV hc ho (c_X4_breakPromise hl hb) vc_X4_247 rfl ⟨rfl, rfl, by decide, by decide⟩ 0 rfl rfl rfl (Nat.le_of_ble_eq_true rfl) ⟨by decide, by decide⟩ dX4_lookAt_112 ⟨by decide, by decide⟩ (fun _ h => by cases h) (fun hr112 => ?_)
            refine j_iconst hc (v := 0) dX4_lookAt_115 (by decide) ?_
            exact j_zret hc rfl rfl (by decide) (by decide) (by simp only [e_look, if_neg h4, if_pos h40, if_neg h50, if_neg h76, if_pos h107] <;> rfl) dX4_lookAt_116
        · -- if_pos h76
          refine j_aload_n hc dX4_lookAt_79 rfl ?_
          refine j_dup hc dX4_lookAt_80 rfl ?_
          refine gf_X4_200 hc dX4_lookAt_81 ?_
          refine j_aload_n hc dX4_lookAt_84 rfl ?_
          refine gf_X4_138 hc hb dX4_lookAt_85 ?_
          refine j_iadd hc dX4_lookAt_88 ?_
          refine pf_X4_200 hc dX4_lookAt_89 ?_
          refine j_aload_n hc dX4_lookAt_92 rfl ?_
          refine j_aload_n hc dX4_lookAt_93 rfl ?_
          refine j_iconst hc (v := 5) dX4_lookAt_94 (by decide) ?_
          refine j_iconst hc (v := -1) dX4_lookAt_95 (by decide) ?_
          refine j_callV hc ho (c_X4_enter hl hb) vc_X4_125 rfl ⟨rfl, rfl, by decide, by decide⟩ 0 rfl rfl rfl (Nat.le_of_ble_eq_true rfl) ⟨by decide, by decide⟩ dX4_lookAt_96 ⟨by decide, by decide⟩ (fun _ h => by cases h) (fun hr96 => ?_)
          refine j_goto hc 115 dX4_lookAt_99 (by decide) ?_
          refine j_iconst hc (v := 0) dX4_lookAt_115 (by decide) ?_
          exact j_zret hc rfl rfl (by decide) (by decide) (by simp only [e_look, if_neg h4, if_pos h40, if_neg h50, if_pos h76] <;> rfl) dX4_lookAt_116
      · -- if_pos h50
        refine j_aload_n hc dX4_lookAt_53 rfl ?_
        refine j_aload_n hc dX4_lookAt_54 rfl ?_
        refine j_iconst hc (v := 3) dX4_lookAt_55 (by decide) ?_
        refine j_aload_n hc dX4_lookAt_56 rfl ?_
        refine gf_X4_83 hc dX4_lookAt_57 ?_
        refine j_aload_n hc dX4_lookAt_60 rfl ?_
        refine gf_X4_55 hc dX4_lookAt_61 ?_
        refine j_iadd hc dX4_lookAt_64 ?_
        refine j_callV hc ho (c_X4_enter hl hb) vc_X4_125 rfl ⟨rfl, rfl, by decide, by decide⟩ 0 rfl rfl rfl (Nat.le_of_ble_eq_true rfl) ⟨by decide, by decide⟩ dX4_lookAt_65 ⟨by decide, by decide⟩ (fun _ h => by cases h) (fun hr65 => ?_)
        refine j_goto hc 115 dX4_lookAt_68 (by decide) ?_
        refine j_iconst hc (v := 0) dX4_lookAt_115 (by decide) ?_
        exact j_zret hc rfl rfl (by decide) (by decide) (by simp only [e_look, if_neg h4, if_pos h40, if_pos h50] <;> rfl) dX4_lookAt_116
    · -- if_neg h40
      refine j_iconst hc (v := 0) dX4_lookAt_43 (by decide) ?_
      exact j_zret hc rfl rfl (by decide) (by decide) (by simp only [e_look, if_neg h4, if_neg h40] <;> rfl) dX4_lookAt_44
  · -- if_pos h4
    refine j_aload_n hc dX4_lookAt_7 rfl ?_
    refine gf_X4_158 hc hb dX4_lookAt_8 ?_
    refine j_aload_n hc dX4_lookAt_11 rfl ?_
    refine gf_X4_83 hc dX4_lookAt_12 ?_
    refine j_icmp_gt hc 30 dX4_lookAt_15 (by decide) (fun h15 => ?_) (fun h15 => ?_)
    · -- if_pos h15
      refine j_iconst hc (v := 0) dX4_lookAt_30 (by decide) ?_
      exact j_zret hc rfl rfl (by decide) (by decide) (by simp only [e_look, if_pos h4, if_pos h15] <;> rfl) dX4_lookAt_31
    · -- if_neg h15
      refine j_aload_n hc dX4_lookAt_18 rfl ?_
      refine j_aload_n hc dX4_lookAt_19 rfl ?_
      refine j_callV hc ho (c_X4_beginTry hl hb) vc_X4_244 rfl ⟨rfl, rfl, by decide, by decide⟩ 0 rfl rfl rfl (Nat.le_of_ble_eq_true rfl) ⟨by decide, by decide⟩ dX4_lookAt_20 ⟨by decide, by decide⟩ (fun _ h => by cases h) (fun hr20 => ?_)
      refine j_if_eq hc 30 dX4_lookAt_23 (by decide) (fun h23 => ?_) (fun h23 => ?_)
      · -- if_pos h23
        refine j_iconst hc (v := 0) dX4_lookAt_30 (by decide) ?_
        exact j_zret hc rfl rfl (by decide) (by decide) (by simp only [e_look, if_pos h4, if_neg h15]; rw [show e_bt E b = ((e_bt E b).1, (e_bt E b).2) from rfl]; simp only [h23]) dX4_lookAt_31
      · -- if_neg h23
        refine j_iconst hc (v := 1) dX4_lookAt_26 (by decide) ?_
        refine j_goto hc 31 dX4_lookAt_27 (by decide) ?_
        exact j_zret hc rfl rfl (by decide) (by decide) (by simp only [e_look, if_pos h4, if_neg h15]; rw [show e_bt E b = ((e_bt E b).1, (e_bt E b).2) from rfl]; simp only [((bt_01 E b).resolve_left h23)]) dX4_lookAt_31
set_option maxRecDepth 100000 in
set_option maxHeartbeats 4000000 in
theorem c_X4_serviceWith {l : Launch} {D : va_G} {cs : Nat → ClassId} {sa : Nat → Nat} (hl : l.stackTraces = false)  {ad : Nat → Nat} {n : Nat} {E : ES} {S : MS} {o : Nat → Int64} {b : Nat} (hb : b < n) : CM l D cs sa yX4_serviceWith cX4_serviceWith 2 (Option.some Jvm.ClassFile.FieldType.int) (RM 0 0 0) 0 0 [.ref (ad (33 + 2 * b))] (WD ad cs n E S o) (none, some (.int (e_sw E b)), (WD ad cs n E S o)) := by
  refine CM.of RX4 hl (by decide +kernel) rfl (Nat.le_of_ble_eq_true rfl) ?_
  intro p e s m args below meth c A hc ho hmn
  refine j_aload_n hc dX4_serviceWith_0 rfl ?_
  refine gf_X4_133 hc hb dX4_serviceWith_1 ?_
  refine j_iconst hc (v := 3) dX4_serviceWith_4 (by decide) ?_
  refine j_icmp_eq hc 16 dX4_serviceWith_5 (by decide) (fun h5 => ?_) (fun h5 => ?_)
  · -- if_pos h5
    refine j_iconst hc (v := 0) dX4_serviceWith_16 (by decide) ?_
    exact j_iret hc rfl (by decide) (by decide) (by simp only [e_sw, if_pos h5] <;> rfl) dX4_serviceWith_17
  · -- if_neg h5
    refine j_aload_n hc dX4_serviceWith_8 rfl ?_
    refine gf_X4_133 hc hb dX4_serviceWith_9 ?_
    refine j_iconst hc (v := 5) dX4_serviceWith_12 (by decide) ?_
    refine j_icmp_ne hc 18 dX4_serviceWith_13 (by decide) (fun h13 => ?_) (fun h13 => ?_)
    · -- if_neg h13
      refine j_aload_n hc dX4_serviceWith_18 rfl ?_
      refine gf_X4_133 hc hb dX4_serviceWith_19 ?_
      refine j_iconst hc (v := 4) dX4_serviceWith_22 (by decide) ?_
      refine j_icmp_ne hc 37 dX4_serviceWith_23 (by decide) (fun h23 => ?_) (fun h23 => ?_)
      · -- if_neg h23
        refine j_iconst hc (v := 0) dX4_serviceWith_37 (by decide) ?_
        refine j_istore_n hc dX4_serviceWith_38 rfl ?_
        refine j_aload_n hc dX4_serviceWith_39 rfl ?_
        refine gf_X4_133 hc hb dX4_serviceWith_40 ?_
        refine j_iconst hc (v := 2) dX4_serviceWith_43 (by decide) ?_
        refine j_icmp_eq hc 51 dX4_serviceWith_44 (by decide) (fun h44 => ?_) (fun h44 => ?_)
        · -- if_pos h44
          refine j_iconst hc (v := 1) dX4_serviceWith_51 (by decide) ?_
          refine j_goto hc 56 dX4_serviceWith_52 (by decide) ?_
          exact j_iret hc rfl (by decide) (by decide) (by simp only [e_sw, if_neg h5, if_neg h13, if_neg h23, if_pos h44] <;> rfl) dX4_serviceWith_56
        · -- if_neg h44
          refine j_iload_n hc dX4_serviceWith_47 rfl ?_
          refine j_if_eq hc 55 dX4_serviceWith_48 (by decide) (fun h48 => ?_) (fun h48 => by exact absurd h48 (by decide))
          refine j_iconst hc (v := 2) dX4_serviceWith_55 (by decide) ?_
          exact j_iret hc rfl (by decide) (by decide) (by simp only [e_sw, if_neg h5, if_neg h13, if_neg h23, if_neg h44, if_pos h48] <;> rfl) dX4_serviceWith_56
      · -- if_pos h23
        refine j_aload_n hc dX4_serviceWith_26 rfl ?_
        refine gf_X4_155 hc hb dX4_serviceWith_27 ?_
        refine j_if_eq hc 37 dX4_serviceWith_30 (by decide) (fun h30 => ?_) (fun h30 => ?_)
        · -- if_pos h30
          refine j_iconst hc (v := 0) dX4_serviceWith_37 (by decide) ?_
          refine j_istore_n hc dX4_serviceWith_38 rfl ?_
          refine j_aload_n hc dX4_serviceWith_39 rfl ?_
          refine gf_X4_133 hc hb dX4_serviceWith_40 ?_
          refine j_iconst hc (v := 2) dX4_serviceWith_43 (by decide) ?_
          refine j_icmp_eq hc 51 dX4_serviceWith_44 (by decide) (fun h44 => ?_) (fun h44 => ?_)
          · -- if_pos h44
            refine j_iconst hc (v := 1) dX4_serviceWith_51 (by decide) ?_
            refine j_goto hc 56 dX4_serviceWith_52 (by decide) ?_
            exact j_iret hc rfl (by decide) (by decide) (by simp only [e_sw, if_neg h5, if_neg h13, if_pos h23, if_pos h30, if_pos h44] <;> rfl) dX4_serviceWith_56
          · -- if_neg h44
            refine j_iload_n hc dX4_serviceWith_47 rfl ?_
            refine j_if_eq hc 55 dX4_serviceWith_48 (by decide) (fun h48 => ?_) (fun h48 => by exact absurd h48 (by decide))
            refine j_iconst hc (v := 2) dX4_serviceWith_55 (by decide) ?_
            exact j_iret hc rfl (by decide) (by decide) (by simp only [e_sw, if_neg h5, if_neg h13, if_pos h23, if_pos h30, if_neg h44, if_pos h48] <;> rfl) dX4_serviceWith_56
        · -- if_neg h30
          refine j_iconst hc (v := 1) dX4_serviceWith_33 (by decide) ?_
          refine j_goto hc 38 dX4_serviceWith_34 (by decide) ?_
          refine j_istore_n hc dX4_serviceWith_38 rfl ?_
          refine j_aload_n hc dX4_serviceWith_39 rfl ?_
          refine gf_X4_133 hc hb dX4_serviceWith_40 ?_
          refine j_iconst hc (v := 2) dX4_serviceWith_43 (by decide) ?_
          refine j_icmp_eq hc 51 dX4_serviceWith_44 (by decide) (fun h44 => ?_) (fun h44 => ?_)
          · -- if_pos h44
            refine j_iconst hc (v := 1) dX4_serviceWith_51 (by decide) ?_
            refine j_goto hc 56 dX4_serviceWith_52 (by decide) ?_
            exact j_iret hc rfl (by decide) (by decide) (by simp only [e_sw, if_neg h5, if_neg h13, if_pos h23, if_neg h30, if_pos h44] <;> rfl) dX4_serviceWith_56
          · -- if_neg h44
            refine j_iload_n hc dX4_serviceWith_47 rfl ?_
            refine j_if_eq hc 55 dX4_serviceWith_48 (by decide) (fun h48 => by exact absurd h48 (by decide)) (fun h48 => ?_)
            refine j_iconst hc (v := 1) dX4_serviceWith_51 (by decide) ?_
            refine j_goto hc 56 dX4_serviceWith_52 (by decide) ?_
            exact j_iret hc rfl (by decide) (by decide) (by simp only [e_sw, if_neg h5, if_neg h13, if_pos h23, if_neg h30, if_neg h44, if_neg h48] <;> rfl) dX4_serviceWith_56
    · -- if_pos h13
      refine j_iconst hc (v := 0) dX4_serviceWith_16 (by decide) ?_
      exact j_iret hc rfl (by decide) (by decide) (by simp only [e_sw, if_neg h5, if_pos h13] <;> rfl) dX4_serviceWith_17
set_option maxRecDepth 100000 in
set_option maxHeartbeats 4000000 in
theorem c_X4_failUnansweredTries {l : Launch} {D : va_G} {cs : Nat → ClassId} {sa : Nat → Nat} (hl : l.stackTraces = false)  {ad : Nat → Nat} {n : Nat} {E : ES} {S : MS} {o : Nat → Int64} (hn30 : n ≤ 30) : CM l D cs sa yX4_failUnansweredTries cX4_failUnansweredTries 3 (Option.none : Option Jvm.ClassFile.FieldType) (RM 4 0 0) 0 0 [.ref (ad 0)] (WD ad cs n E S o) (none, none, WD ad cs n (e_fut n 30 0 E) S o) := by
  refine CM.of RX4 hl (by decide +kernel) rfl (Nat.le_of_ble_eq_true rfl) ?_
  intro p e s m args below meth c A hc ho hmn
  have loop : ∀ (k i : Nat) (E2 : ES), i + k = 30 → e_fut n 30 0 E = e_fut n k i E2 → J p l e (RM 4 0 0) s m args below meth c D A 3 0 0 (QE below args s D A 0 0 (WD ad cs n E S o) (none, none, WD ad cs n (e_fut n 30 0 E) S o)) (WD ad cs n E2 S o) 2 [(0, .ref (ad 0)), (1, .int (nI i))] [] := by
    intro k
    induction k with
    | zero =>
      intro i E2 hi hd
      refine j_iload_n hc dX4_failUnansweredTries_2 rfl ?_
      refine j_aload_n hc dX4_failUnansweredTries_3 rfl ?_
      refine gf_X4_40 hc dX4_failUnansweredTries_4 ?_
      refine ln_row hc dX4_failUnansweredTries_7 ?_
      refine j_icmp_ge hc 42 dX4_failUnansweredTries_8 (by decide) (fun h8 => ?_) (fun h8 => by exact absurd h8 (fun z => z (nI_le (a := 30) (by omega) (by omega))))
      exact j_vret hc rfl (by decide) (by decide) (by rw [hd]; rfl) dX4_failUnansweredTries_42
    | succ k ih =>
      intro i E2 hi hd
      refine j_iload_n hc dX4_failUnansweredTries_2 rfl ?_
      refine j_aload_n hc dX4_failUnansweredTries_3 rfl ?_
      refine gf_X4_40 hc dX4_failUnansweredTries_4 ?_
      refine ln_row hc dX4_failUnansweredTries_7 ?_
      refine j_icmp_ge hc 42 dX4_failUnansweredTries_8 (by decide) (fun h8 => by exact absurd h8 (nI_ge (b := 30) (by omega) (by omega))) (fun h8 => ?_)
      refine j_aload_n hc dX4_failUnansweredTries_11 rfl ?_
      refine gf_X4_40 hc dX4_failUnansweredTries_12 ?_
      refine j_iload_n hc dX4_failUnansweredTries_15 rfl ?_
      by_cases hb : i < n
      · refine al_row hc hb hn30 rfl dX4_failUnansweredTries_16 ?_
        refine j_astore_n hc dX4_failUnansweredTries_17 rfl ?_
        refine j_aload_n hc dX4_failUnansweredTries_18 rfl ?_
        refine j_ifnull hc dX4_failUnansweredTries_19 ?_
        refine j_aload_n hc dX4_failUnansweredTries_22 rfl ?_
        refine gf_X4_133 hc hb dX4_failUnansweredTries_23 ?_
        refine j_iconst hc (v := 1) dX4_failUnansweredTries_26 (by decide) ?_
        refine j_icmp_ne hc 36 dX4_failUnansweredTries_27 (by decide) (fun h27 => ?_) (fun h27 => ?_)
        · -- if_neg h27
          refine j_inc hc dX4_failUnansweredTries_36 rfl (z := 1) (by decide) rfl ?_
          refine j_goto hc 2 dX4_failUnansweredTries_39 (by decide) ?_
          refine j_lv [(0, .ref (ad 0)), (1, .int (nI i + 1))] ⟨rfl, rfl, trivial⟩ ?_
          rw [nI_1]
          exact ih (i + 1) _ (by omega) (by rw [hd]; simp only [e_fut, if_neg h8, if_pos hb, if_neg h27])
        · -- if_pos h27
          refine j_aload_n hc dX4_failUnansweredTries_30 rfl ?_
          refine j_aload_n hc dX4_failUnansweredTries_31 rfl ?_
          refine j_iconst hc (v := 4) dX4_failUnansweredTries_32 (by decide) ?_
          refine j_callV hc ho (c_X4_fail hl hb (by decide)) vc_X4_145 rfl ⟨rfl, rfl, by decide, by decide⟩ 0 rfl rfl rfl (Nat.le_of_ble_eq_true rfl) ⟨by decide, by decide⟩ dX4_failUnansweredTries_33 ⟨by decide, by decide⟩ (fun _ h => by cases h) (fun hr33 => ?_)
          refine j_inc hc dX4_failUnansweredTries_36 rfl (z := 1) (by decide) rfl ?_
          refine j_goto hc 2 dX4_failUnansweredTries_39 (by decide) ?_
          refine j_lv [(0, .ref (ad 0)), (1, .int (nI i + 1))] ⟨rfl, rfl, trivial⟩ ?_
          rw [nI_1]
          exact ih (i + 1) _ (by omega) (by rw [hd]; simp only [e_fut, if_neg h8, if_pos hb, if_pos h27])
      · refine al_rowN hc hb (by omega) rfl dX4_failUnansweredTries_16 ?_
        refine j_astore_nN hc dX4_failUnansweredTries_17 rfl ?_
        refine j_aload_nN hc dX4_failUnansweredTries_18 rfl ?_
        refine j_ifnullN hc 36 dX4_failUnansweredTries_19 (by decide) ?_
        refine j_inc hc dX4_failUnansweredTries_36 rfl (z := 1) (by decide) rfl ?_
        refine j_goto hc 2 dX4_failUnansweredTries_39 (by decide) ?_
        refine j_lv [(0, .ref (ad 0)), (1, .int (nI i + 1))] ⟨rfl, rfl, trivial⟩ ?_
        rw [nI_1]
        exact ih (i + 1) _ (by omega) (by rw [hd]; simp only [e_fut, if_neg h8, if_neg hb])
  refine j_iconst hc (v := 0) dX4_failUnansweredTries_0 (by decide) ?_
  refine j_istore_n hc dX4_failUnansweredTries_1 rfl ?_
  refine j_lv [(0, .ref (ad 0)), (1, .int 0)] ⟨rfl, rfl, trivial⟩ ?_
  exact loop 30 0 E rfl rfl
set_option maxRecDepth 100000 in
set_option maxHeartbeats 4000000 in
theorem c_X4_lookAtBills {l : Launch} {D : va_G} {cs : Nat → ClassId} {sa : Nat → Nat} (hl : l.stackTraces = false)  {ad : Nat → Nat} {n : Nat} {E : ES} {S : MS} {o : Nat → Int64} (hn30 : n ≤ 30) : CM l D cs sa yX4_lookAtBills cX4_lookAtBills 4 (Option.some Jvm.ClassFile.FieldType.int) (RM 5 0 0) 0 0 [.ref (ad 0)] (WD ad cs n E S o) (none, some (.int (e_lab n 30 0 0 E).1), WD ad cs n (e_lab n 30 0 0 E).2 S o) := by
  refine CM.of RX4 hl (by decide +kernel) rfl (Nat.le_of_ble_eq_true rfl) ?_
  intro p e s m args below meth c A hc ho hmn
  have loop : ∀ (k i : Nat) (c0 : Int32) (E2 : ES), i + k = 30 → e_lab n 30 0 0 E = e_lab n k i c0 E2 → J p l e (RM 5 0 0) s m args below meth c D A 4 0 0 (QE below args s D A 0 0 (WD ad cs n E S o) (none, some (.int (e_lab n 30 0 0 E).1), WD ad cs n (e_lab n 30 0 0 E).2 S o)) (WD ad cs n E2 S o) 4 [(0, .ref (ad 0)), (1, .int c0), (2, .int (nI i))] [] := by
    intro k
    induction k with
    | zero =>
      intro i c0 E2 hi hd
      refine j_iload_n hc dX4_lookAtBills_4 rfl ?_
      refine j_aload_n hc dX4_lookAtBills_5 rfl ?_
      refine gf_X4_40 hc dX4_lookAtBills_6 ?_
      refine ln_row hc dX4_lookAtBills_9 ?_
      refine j_icmp_ge hc 41 dX4_lookAtBills_10 (by decide) (fun h10 => ?_) (fun h10 => by exact absurd h10 (fun z => z (nI_le (a := 30) (by omega) (by omega))))
      refine j_iload_n hc dX4_lookAtBills_41 rfl ?_
      exact j_iret hc rfl (by decide) (by decide) (by rw [hd]; rfl) dX4_lookAtBills_42
    | succ k ih =>
      intro i c0 E2 hi hd
      refine j_iload_n hc dX4_lookAtBills_4 rfl ?_
      refine j_aload_n hc dX4_lookAtBills_5 rfl ?_
      refine gf_X4_40 hc dX4_lookAtBills_6 ?_
      refine ln_row hc dX4_lookAtBills_9 ?_
      refine j_icmp_ge hc 41 dX4_lookAtBills_10 (by decide) (fun h10 => by exact absurd h10 (nI_ge (b := 30) (by omega) (by omega))) (fun h10 => ?_)
      refine j_aload_n hc dX4_lookAtBills_13 rfl ?_
      refine gf_X4_40 hc dX4_lookAtBills_14 ?_
      refine j_iload_n hc dX4_lookAtBills_17 rfl ?_
      by_cases hb : i < n
      · refine al_row hc hb hn30 rfl dX4_lookAtBills_18 ?_
        refine j_astore_n hc dX4_lookAtBills_19 rfl ?_
        refine j_aload_n hc dX4_lookAtBills_20 rfl ?_
        refine j_ifnull hc dX4_lookAtBills_21 ?_
        refine j_aload_n hc dX4_lookAtBills_24 rfl ?_
        refine j_aload_n hc dX4_lookAtBills_25 rfl ?_
        refine j_callV hc ho (c_X4_lookAt hl hb) vc_X4_240 rfl ⟨rfl, rfl, by decide, by decide⟩ 0 rfl rfl rfl (Nat.le_of_ble_eq_true rfl) ⟨by decide, by decide⟩ dX4_lookAtBills_26 ⟨by decide, by decide⟩ (fun _ h => by cases h) (fun hr26 => ?_)
        refine j_if_eq hc 35 dX4_lookAtBills_29 (by decide) (fun h29 => ?_) (fun h29 => ?_)
        · -- if_pos h29
          refine j_inc hc dX4_lookAtBills_35 rfl (z := 1) (by decide) rfl ?_
          refine j_goto hc 4 dX4_lookAtBills_38 (by decide) ?_
          refine j_lv [(0, .ref (ad 0)), (1, .int c0), (2, .int (nI i + 1))] ⟨rfl, rfl, rfl, trivial⟩ ?_
          rw [nI_1]
          exact ih (i + 1) _ _ (by omega) (by rw [hd]; simp only [e_lab, if_neg h10, if_pos hb, if_pos h29])
        · -- if_neg h29
          refine j_inc hc dX4_lookAtBills_32 rfl (z := 1) (by decide) rfl ?_
          refine j_inc hc dX4_lookAtBills_35 rfl (z := 1) (by decide) rfl ?_
          refine j_goto hc 4 dX4_lookAtBills_38 (by decide) ?_
          refine j_lv [(0, .ref (ad 0)), (1, .int (c0 + 1)), (2, .int (nI i + 1))] ⟨rfl, rfl, rfl, trivial⟩ ?_
          rw [nI_1]
          exact ih (i + 1) _ _ (by omega) (by rw [hd]; simp only [e_lab, if_neg h10, if_pos hb, if_neg h29])
      · refine al_rowN hc hb (by omega) rfl dX4_lookAtBills_18 ?_
        refine j_astore_nN hc dX4_lookAtBills_19 rfl ?_
        refine j_aload_nN hc dX4_lookAtBills_20 rfl ?_
        refine j_ifnullN hc 35 dX4_lookAtBills_21 (by decide) ?_
        refine j_inc hc dX4_lookAtBills_35 rfl (z := 1) (by decide) rfl ?_
        refine j_goto hc 4 dX4_lookAtBills_38 (by decide) ?_
        refine j_lv [(0, .ref (ad 0)), (1, .int c0), (2, .int (nI i + 1))] ⟨rfl, rfl, rfl, trivial⟩ ?_
        rw [nI_1]
        exact ih (i + 1) _ _ (by omega) (by rw [hd]; simp only [e_lab, if_neg h10, if_neg hb])
  refine j_iconst hc (v := 0) dX4_lookAtBills_0 (by decide) ?_
  refine j_istore_n hc dX4_lookAtBills_1 rfl ?_
  refine j_iconst hc (v := 0) dX4_lookAtBills_2 (by decide) ?_
  refine j_istore_n hc dX4_lookAtBills_3 rfl ?_
  refine j_lv [(0, .ref (ad 0)), (1, .int 0), (2, .int 0)] ⟨rfl, rfl, rfl, trivial⟩ ?_
  exact loop 30 0 0 E rfl rfl
end
section
def ush (x k : Int32) : Int32 := (x.toUInt32 >>> (k.toUInt32 &&& Int32.toUInt32 31)).toInt32
/-- Integer.bitCount -/
def e_bc (x : Int32) : Int32 :=
  let x1 := x - (ush x 1 &&& 1431655765)
  let x2 := (x1 &&& 858993459) + (ush x1 2 &&& 858993459)
  let x3 := (x2 + ush x2 4) &&& 252645135
  let x4 := x3 + ush x3 8
  let x5 := x4 + ush x4 16
  x5 &&& 63
theorem fb_lt {n : Nat} {k : Int32} (h : e_fb n k = none) : k.toNatClampNeg < n := by
  unfold e_fb at h
  split at h
  · cases h
  · split at h
    · cases h
    · split at h
      · assumption
      · cases h
theorem fb_in {n : Nat} {k : Int32} (h : e_fb n k = none) : vp_in k 30 := by
  unfold e_fb at h
  split at h
  · cases h
  · rename_i h1
    split at h
    · cases h
    · rename_i h2
      exact vpi (n := 30) h1 h2 (by decide)
theorem rng_none {k x y : Int32} (h : e_rng k x y = none) : x.toInt ≤ k.toInt ∧ k.toInt ≤ y.toInt := by
  unfold e_rng at h
  split at h
  · cases h
  · rename_i h1
    split at h
    · rename_i h2
      rw [i32_lt] at h1
      rw [i32_le] at h2
      omega
    · cases h
/-- a throw, or the answer of a state -/
def e_setWeekday (E : ES) (k f : Int32) : ER := if k < 0 then (some xIO, 0, E) else if k < 7 then (if e_ww E k f = 0 then (some xIS, 0, E) else (none, e_bc (e_ww E k f), eG E 12 (e_ww E k f))) else (some xIO, 0, E)
def e_addHoliday (E : ES) (d : Int32) : ER := ck (e_rng d (E.1 5 + 1) (E.1 5 + 60)) E (none, if e_hol E d = 0 then 1 else 0, e_khol E d)
def e_addGap (E : ES) (r v : Int32) : ER := ck (e_rsn r) E (ck (e_rng v 1 30) E (if E.1 (14 + (r - 1).toNatClampNeg) < 6 then (none, (e_app E (r - 1).toNatClampNeg v).1 (14 + (r - 1).toNatClampNeg), e_app E (r - 1).toNatClampNeg v) else (some xIS, 0, E)))
def e_clearGaps (E : ES) (r : Int32) : ER := ck (e_rsn r) E (none, E.1 (14 + (r - 1).toNatClampNeg), eG E (14 + (r - 1).toNatClampNeg) 0)
def e_setTimes (E : ES) (x y : Int32) : ER := ck (e_rng x 1 60) E (ck (e_rng y 1 90) E (none, E.1 6, eG (eG E 6 x) 7 y))
def e_outcome (n : Nat) (E : ES) (p x : Int32) : ER := ck (e_fb n p) E (ck (e_rng x 0 4) E (if E.2.1 4 p.toNatClampNeg = 1 then (if x = 0 then (none, (e_take E p.toNatClampNeg (E.2.1 3 p.toNatClampNeg)).2.1 4 p.toNatClampNeg, e_take E p.toNatClampNeg (E.2.1 3 p.toNatClampNeg)) else (none, (e_fail E p.toNatClampNeg x).2.1 4 p.toNatClampNeg, e_fail E p.toNatClampNeg x)) else (some xIS, 0, E)))
def e_pay (n : Nat) (E : ES) (p v : Int32) : ER := ck (e_fb n p) E (ck (e_rng v 1 9999) E (if E.2.1 4 p.toNatClampNeg = 1 then (some xIS, 0, E) else if E.2.1 4 p.toNatClampNeg = 6 then (some xIS, 0, E) else if v ≤ E.2.1 3 p.toNatClampNeg then (none, (e_take E p.toNatClampNeg v).2.1 3 p.toNatClampNeg, e_take E p.toNatClampNeg v) else (some xIS, 0, E)))
def e_prom1 (E : ES) (b : Nat) (v : Int32) : ES :=
  let E1 := eV E 7 b (E.2.1 7 b + 1)
  let E2 := eV E1 9 b (E1.2.1 4 b)
  let E3 := eV E2 10 b (E2.2.1 5 b - E2.1 5)
  e_enter E3 b 4 (E3.1 5 + v)
def e_prom0 (E : ES) (b : Nat) (v : Int32) : ER := if E.2.1 7 b < 2 then (none, (e_prom1 E b v).2.1 5 b, e_prom1 E b v) else (some xIS, 0, E)
def e_promise (n : Nat) (E : ES) (p v : Int32) : ER := ck (e_fb n p) E (ck (e_rng v 1 30) E (if E.2.1 4 p.toNatClampNeg = 0 then e_prom0 E p.toNatClampNeg v else if E.2.1 4 p.toNatClampNeg = 2 then e_prom0 E p.toNatClampNeg v else if E.2.1 4 p.toNatClampNeg = 3 then e_prom0 E p.toNatClampNeg v else (some xIS, 0, E)))
def e_day (n : Nat) (E : ES) : Int32 × ES := e_lab n 30 0 0 (eG (e_fut n 30 0 E) 5 ((e_fut n 30 0 E).1 5 + 1))
def e_days (n : Nat) : Nat → Int32 → ES → Int32 × ES
  | 0, c, E => (c, E)
  | k + 1, c, E => e_days n k (c + (e_day n E).1) (e_day n E).2
def e_pass (n : Nat) (E : ES) (p : Int32) : ER := ck (e_rng p 1 60) E (none, (e_days n p.toNatClampNeg 0 E).1, (e_days n p.toNatClampNeg 0 E).2)
def e_isCharging (E : ES) (d : Int32) : ER := ck (e_rng d 0 1000000) E (none, e_chg E d, E)
def e_bf (n : Nat) (E : ES) (k : Nat) (p : Int32) : ER := ck (e_fb n p) E (none, E.2.1 k p.toNatClampNeg, E)
def e_failures (n : Nat) (E : ES) (p r : Int32) : ER := ck (e_fb n p) E (ck (e_rsn r) E (none, E.2.1 (40 + p.toNatClampNeg) (r - 1).toNatClampNeg, E))
def e_svc (n : Nat) (E : ES) (x : Int32) : Nat → Nat → Int32 → Int32
  | 0, _, c => c
  | k + 1, i, c => if i < n then (if E.2.1 1 i = x then e_svc n E x k (i + 1) (if e_sw E i < c then e_sw E i else c) else e_svc n E x k (i + 1) c) else e_svc n E x k (i + 1) c
def e_service (n : Nat) (E : ES) (x : Int32) : ER := ck (e_acc x) E (none, e_svc n E x 30 0 2, E)
def e_lin (n : Nat) (E : ES) (x y : Int32) : Nat → Nat → Int32 → Int32
  | 0, _, c => c
  | k + 1, i, c => if i < n then (if E.2.1 1 i = x then (if E.2.1 4 i = y then e_lin n E x y k (i + 1) (c + E.2.1 3 i) else e_lin n E x y k (i + 1) c) else e_lin n E x y k (i + 1) c) else e_lin n E x y k (i + 1) c
def e_leftIn (n : Nat) (E : ES) (x y : Int32) : ER := ck (e_acc x) E (ck (e_rng y 0 6) E (none, e_lin n E x y 30 0 0, E))
def e_event (E : ES) (k : Int32) : ER := if k < 0 then (some xIO, 0, E) else if k < e_told E then (none, e_cda E k, E) else (some xIO, 0, E)
def e_stateAt (n : Nat) (E : ES) (p d : Int32) : ER := ck (e_fb n p) E (ck (e_rng d 0 (E.1 5)) E (none, e_lso E p d (e_told E).toNatClampNeg 0, E))
set_option maxRecDepth 100000 in
set_option maxHeartbeats 4000000 in
theorem c_J6_bitCount_0f7a4 {l : Launch} {D : va_G} {cs : Nat → ClassId} {sa : Nat → Nat} (hl : l.stackTraces = false)  {w : va_W} {x : Int32} : CM l D cs sa yJ6_bitCount_0f7a4 cJ6_bitCount_0f7a4 1 (Option.some Jvm.ClassFile.FieldType.int) (RM 0 0 0) 0 0 [.int x] w (none, some (.int (e_bc x)), w) := by
  refine CM.ofF RJ6 hl (by decide +kernel) rfl (Nat.le_of_ble_eq_true rfl) ?_
  intro p e s m args below meth c A hc ho hmn
  refine j_iload_n hc dJ6_bitCount_0f7a4_0 rfl ?_
  refine j_iload_n hc dJ6_bitCount_0f7a4_1 rfl ?_
  refine j_iconst hc (v := 1) dJ6_bitCount_0f7a4_2 (by decide) ?_
  refine j_iushr hc dJ6_bitCount_0f7a4_3 ?_
  refine j_ldcw hc wt_243 dJ6_bitCount_0f7a4_4 ?_
  refine j_iand hc dJ6_bitCount_0f7a4_7 ?_
  refine j_isub hc dJ6_bitCount_0f7a4_8 ?_
  refine j_istore_n hc dJ6_bitCount_0f7a4_9 rfl ?_
  refine j_iload_n hc dJ6_bitCount_0f7a4_10 rfl ?_
  refine j_ldcw hc wt_244 dJ6_bitCount_0f7a4_11 ?_
  refine j_iand hc dJ6_bitCount_0f7a4_14 ?_
  refine j_iload_n hc dJ6_bitCount_0f7a4_15 rfl ?_
  refine j_iconst hc (v := 2) dJ6_bitCount_0f7a4_16 (by decide) ?_
  refine j_iushr hc dJ6_bitCount_0f7a4_17 ?_
  refine j_ldcw hc wt_244 dJ6_bitCount_0f7a4_18 ?_
  refine j_iand hc dJ6_bitCount_0f7a4_21 ?_
  refine j_iadd hc dJ6_bitCount_0f7a4_22 ?_
  refine j_istore_n hc dJ6_bitCount_0f7a4_23 rfl ?_
  refine j_iload_n hc dJ6_bitCount_0f7a4_24 rfl ?_
  refine j_iload_n hc dJ6_bitCount_0f7a4_25 rfl ?_
  refine j_iconst hc (v := 4) dJ6_bitCount_0f7a4_26 (by decide) ?_
  refine j_iushr hc dJ6_bitCount_0f7a4_27 ?_
  refine j_iadd hc dJ6_bitCount_0f7a4_28 ?_
  refine j_ldcw hc wt_245 dJ6_bitCount_0f7a4_29 ?_
  refine j_iand hc dJ6_bitCount_0f7a4_32 ?_
  refine j_istore_n hc dJ6_bitCount_0f7a4_33 rfl ?_
  refine j_iload_n hc dJ6_bitCount_0f7a4_34 rfl ?_
  refine j_iload_n hc dJ6_bitCount_0f7a4_35 rfl ?_
  refine j_bipush hc (v := 8) dJ6_bitCount_0f7a4_36 (by decide) ?_
  refine j_iushr hc dJ6_bitCount_0f7a4_38 ?_
  refine j_iadd hc dJ6_bitCount_0f7a4_39 ?_
  refine j_istore_n hc dJ6_bitCount_0f7a4_40 rfl ?_
  refine j_iload_n hc dJ6_bitCount_0f7a4_41 rfl ?_
  refine j_iload_n hc dJ6_bitCount_0f7a4_42 rfl ?_
  refine j_bipush hc (v := 16) dJ6_bitCount_0f7a4_43 (by decide) ?_
  refine j_iushr hc dJ6_bitCount_0f7a4_45 ?_
  refine j_iadd hc dJ6_bitCount_0f7a4_46 ?_
  refine j_istore_n hc dJ6_bitCount_0f7a4_47 rfl ?_
  refine j_iload_n hc dJ6_bitCount_0f7a4_48 rfl ?_
  refine j_bipush hc (v := 63) dJ6_bitCount_0f7a4_49 (by decide) ?_
  refine j_iand hc dJ6_bitCount_0f7a4_51 ?_
  exact j_iret hc rfl (by decide) (by decide) (rfl) dJ6_bitCount_0f7a4_52
set_option maxRecDepth 100000 in
set_option maxHeartbeats 4000000 in
theorem c_X4_setWeekday {l : Launch} {D : va_G} {cs : Nat → ClassId} {sa : Nat → Nat} (hl : l.stackTraces = false)  {ad : Nat → Nat} {n : Nat} {E : ES} {S : MS} {o : Nat → Int64} {k f : Int32} : CM l D cs sa yX4_setWeekday cX4_setWeekday 4 (Option.some Jvm.ClassFile.FieldType.int) (RM 7 8 64) 8 64 [.ref (ad 0), .int k, .int f] (WD ad cs n E S o) ((e_setWeekday E k f).1, some (.int (e_setWeekday E k f).2.1), WD ad cs n (e_setWeekday E k f).2.2 S o) := by
  refine CM.of RX4 hl (by decide +kernel) rfl (Nat.le_of_ble_eq_true rfl) ?_
  intro p e s m args below meth c A hc ho hmn
  refine j_iload_n hc dX4_setWeekday_0 rfl ?_
  refine j_if_lt hc 10 dX4_setWeekday_1 (by decide) (fun h1 => ?_) (fun h1 => ?_)
  · -- if_pos h1
    exact j_thr_62 hc ho 60 (tx := "no such weekday") (by decide) dX4_setWeekday_10 dX4_setWeekday_13 dX4_setWeekday_14 dX4_setWeekday_16 dX4_setWeekday_19 (by decide) (Nat.le_of_ble_eq_true rfl) (by decide) (by decide) (by decide) (by decide) ⟨by simp only [e_setWeekday, if_pos h1] <;> rfl, rfl⟩
  · -- if_neg h1
    refine j_iload_n hc dX4_setWeekday_4 rfl ?_
    refine j_bipush hc (v := 7) dX4_setWeekday_5 (by decide) ?_
    refine j_icmp_lt hc 20 dX4_setWeekday_7 (by decide) (fun h7 => ?_) (fun h7 => ?_)
    · -- if_pos h7
      refine j_aload_n hc dX4_setWeekday_20 rfl ?_
      refine gf_X4_10 hc dX4_setWeekday_21 ?_
      refine j_iload_n hc dX4_setWeekday_24 rfl ?_
      refine j_iload_n hc dX4_setWeekday_25 rfl ?_
      refine j_callV hc ho (c_X1_weekdaysWith hl) vc_X4_65 rfl ⟨rfl, rfl, by decide, by decide⟩ 1 rfl rfl rfl (Nat.le_of_ble_eq_true rfl) ⟨by decide, by decide⟩ dX4_setWeekday_26 ⟨by decide, by decide⟩ (fun _ h => by cases h) (fun hr26 => ?_)
      refine j_istore_n hc dX4_setWeekday_29 rfl ?_
      refine j_iload_n hc dX4_setWeekday_30 rfl ?_
      refine j_if_ne hc 44 dX4_setWeekday_31 (by decide) (fun h31 => ?_) (fun h31 => ?_)
      · -- if_neg h31
        refine j_aload_n hc dX4_setWeekday_44 rfl ?_
        refine gf_X4_10 hc dX4_setWeekday_45 ?_
        refine j_iload_n hc dX4_setWeekday_48 rfl ?_
        refine pf_X4_74 hc dX4_setWeekday_49 ?_
        refine j_iload_n hc dX4_setWeekday_52 rfl ?_
        refine j_callS hc ho (c_J6_bitCount_0f7a4 hl) sc_X4_77 rfl ⟨rfl, rfl, by decide, by decide⟩ rfl (Nat.le_of_ble_eq_true rfl) ⟨by decide, by decide⟩ dX4_setWeekday_53 ⟨by decide, by decide⟩ (fun _ h => by cases h) (fun hr53 => ?_)
        exact j_iret hc rfl (by decide) (by decide) (by simp only [e_setWeekday, if_neg h1, if_pos h7, if_neg h31] <;> rfl) dX4_setWeekday_56
      · -- if_pos h31
        exact j_thr_73 hc ho 71 (tx := "no weekday would be left for charging") (by decide) dX4_setWeekday_34 dX4_setWeekday_37 dX4_setWeekday_38 dX4_setWeekday_40 dX4_setWeekday_43 (by decide) (Nat.le_of_ble_eq_true rfl) (by decide) (by decide) (by decide) (by decide) ⟨by simp only [e_setWeekday, if_neg h1, if_pos h7, if_pos h31] <;> rfl, rfl⟩
    · -- if_neg h7
      exact j_thr_62 hc ho 60 (tx := "no such weekday") (by decide) dX4_setWeekday_10 dX4_setWeekday_13 dX4_setWeekday_14 dX4_setWeekday_16 dX4_setWeekday_19 (by decide) (Nat.le_of_ble_eq_true rfl) (by decide) (by decide) (by decide) (by decide) ⟨by simp only [e_setWeekday, if_neg h1, if_neg h7] <;> rfl, rfl⟩
set_option maxRecDepth 100000 in
set_option maxHeartbeats 4000000 in
theorem c_X4_addHoliday {l : Launch} {D : va_G} {cs : Nat → ClassId} {sa : Nat → Nat} (hl : l.stackTraces = false)  {ad : Nat → Nat} {n : Nat} {E : ES} {S : MS} {o : Nat → Int64} {d : Int32} : CM l D cs sa yX4_addHoliday cX4_addHoliday 3 (Option.some Jvm.ClassFile.FieldType.boolean) (RM 7 8 64) 8 64 [.ref (ad 0), .int d] (WD ad cs n E S o) ((e_addHoliday E d).1, some (.int (e_addHoliday E d).2.1), WD ad cs n (e_addHoliday E d).2.2 S o) := by
  refine CM.of RX4 hl (by decide +kernel) rfl (Nat.le_of_ble_eq_true rfl) ?_
  intro p e s m args below meth c A hc ho hmn
  refine j_iload_n hc dX4_addHoliday_0 rfl ?_
  refine j_aload_n hc dX4_addHoliday_1 rfl ?_
  refine gf_X4_83 hc dX4_addHoliday_2 ?_
  refine j_iconst hc (v := 1) dX4_addHoliday_5 (by decide) ?_
  refine j_iadd hc dX4_addHoliday_6 ?_
  refine j_aload_n hc dX4_addHoliday_7 rfl ?_
  refine gf_X4_83 hc dX4_addHoliday_8 ?_
  refine j_bipush hc (v := 60) dX4_addHoliday_11 (by decide) ?_
  refine j_iadd hc dX4_addHoliday_13 ?_
  refine j_callS hc ho (c_X4_checkRange hl) sc_X4_86 rfl ⟨rfl, rfl, by decide, by decide⟩ rfl (Nat.le_of_ble_eq_true rfl) ⟨by decide, by decide⟩ dX4_addHoliday_14 ⟨by decide, by decide⟩ (fun E9 h9 => ⟨by simp only [e_addHoliday, ck_some h9], rfl⟩) (fun hr14 => ?_)
  refine j_aload_n hc dX4_addHoliday_17 rfl ?_
  refine gf_X4_10 hc dX4_addHoliday_18 ?_
  refine j_iload_n hc dX4_addHoliday_21 rfl ?_
  refine j_callV hc ho (c_X1_isHoliday hl) vc_X4_90 rfl ⟨rfl, rfl, by decide, by decide⟩ 1 rfl rfl rfl (Nat.le_of_ble_eq_true rfl) ⟨by decide, by decide⟩ dX4_addHoliday_22 ⟨by decide, by decide⟩ (fun _ h => by cases h) (fun hr22 => ?_)
  refine j_if_ne hc 32 dX4_addHoliday_25 (by decide) (fun h25 => ?_) (fun h25 => ?_)
  · -- if_neg h25
    refine j_iconst hc (v := 0) dX4_addHoliday_32 (by decide) ?_
    refine j_istore_n hc dX4_addHoliday_33 rfl ?_
    refine j_aload_n hc dX4_addHoliday_34 rfl ?_
    refine gf_X4_10 hc dX4_addHoliday_35 ?_
    refine j_iload_n hc dX4_addHoliday_38 rfl ?_
    refine j_callV hc ho (c_X1_keepHoliday hl) vc_X4_94 rfl ⟨rfl, rfl, by decide, by decide⟩ 1 rfl rfl rfl (Nat.le_of_ble_eq_true rfl) ⟨by decide, by decide⟩ dX4_addHoliday_39 ⟨by decide, by decide⟩ (fun _ h => by cases h) (fun hr39 => ?_)
    refine j_iload_n hc dX4_addHoliday_42 rfl ?_
    exact j_zret hc rfl rfl (by decide) (by decide) (by simp only [e_addHoliday, ck_none hr14, if_neg h25] <;> rfl) dX4_addHoliday_43
  · -- if_pos h25
    refine j_iconst hc (v := 1) dX4_addHoliday_28 (by decide) ?_
    refine j_goto hc 33 dX4_addHoliday_29 (by decide) ?_
    refine j_istore_n hc dX4_addHoliday_33 rfl ?_
    refine j_aload_n hc dX4_addHoliday_34 rfl ?_
    refine gf_X4_10 hc dX4_addHoliday_35 ?_
    refine j_iload_n hc dX4_addHoliday_38 rfl ?_
    refine j_callV hc ho (c_X1_keepHoliday hl) vc_X4_94 rfl ⟨rfl, rfl, by decide, by decide⟩ 1 rfl rfl rfl (Nat.le_of_ble_eq_true rfl) ⟨by decide, by decide⟩ dX4_addHoliday_39 ⟨by decide, by decide⟩ (fun _ h => by cases h) (fun hr39 => ?_)
    refine j_iload_n hc dX4_addHoliday_42 rfl ?_
    exact j_zret hc rfl rfl (by decide) (by decide) (by simp only [e_addHoliday, ck_none hr14, if_pos h25] <;> rfl) dX4_addHoliday_43
set_option maxRecDepth 100000 in
set_option maxHeartbeats 4000000 in
theorem c_X4_addGap {l : Launch} {D : va_G} {cs : Nat → ClassId} {sa : Nat → Nat} (hl : l.stackTraces = false)  {ad : Nat → Nat} {n : Nat} {E : ES} {S : MS} {o : Nat → Int64} {r v : Int32} : CM l D cs sa yX4_addGap cX4_addGap 4 (Option.some Jvm.ClassFile.FieldType.int) (RM 7 8 64) 8 64 [.ref (ad 0), .int r, .int v] (WD ad cs n E S o) ((e_addGap E r v).1, some (.int (e_addGap E r v).2.1), WD ad cs n (e_addGap E r v).2.2 S o) := by
  refine CM.of RX4 hl (by decide +kernel) rfl (Nat.le_of_ble_eq_true rfl) ?_
  intro p e s m args below meth c A hc ho hmn
  refine j_aload_n hc dX4_addGap_0 rfl ?_
  refine gf_X4_34 hc dX4_addGap_1 ?_
  refine j_iload_n hc dX4_addGap_4 rfl ?_
  refine j_callS hc ho (c_X4_indexOfReason hl) sc_X4_98 rfl ⟨rfl, rfl, by decide, by decide⟩ rfl (Nat.le_of_ble_eq_true rfl) ⟨by decide, by decide⟩ dX4_addGap_5 ⟨by decide, by decide⟩ (fun E9 h9 => ⟨by simp only [e_addGap, ck_some h9], rfl⟩) (fun hr5 => ?_)
  refine al_gapsp hc (vrs hr5) dX4_addGap_8 ?_
  refine j_astore_n hc dX4_addGap_9 rfl ?_
  refine j_iload_n hc dX4_addGap_10 rfl ?_
  refine j_iconst hc (v := 1) dX4_addGap_11 (by decide) ?_
  refine j_bipush hc (v := 30) dX4_addGap_12 (by decide) ?_
  refine j_callS hc ho (c_X4_checkRange hl) sc_X4_86 rfl ⟨rfl, rfl, by decide, by decide⟩ rfl (Nat.le_of_ble_eq_true rfl) ⟨by decide, by decide⟩ dX4_addGap_14 ⟨by decide, by decide⟩ (fun E9 h9 => ⟨by simp only [e_addGap, ck_none hr5, ck_some h9], rfl⟩) (fun hr14 => ?_)
  refine j_aload_n hc dX4_addGap_17 rfl ?_
  refine gf_X4_101 hc (vrs4 hr5) dX4_addGap_18 ?_
  refine j_bipush hc (v := 6) dX4_addGap_21 (by decide) ?_
  refine j_icmp_lt hc 36 dX4_addGap_23 (by decide) (fun h23 => ?_) (fun h23 => ?_)
  · -- if_pos h23
    refine j_aload_n hc dX4_addGap_36 rfl ?_
    refine j_iload_n hc dX4_addGap_37 rfl ?_
    refine j_callV hc ho (c_X3_append hl (vrs4 hr5)) vc_X4_106 rfl ⟨rfl, rfl, by decide, by decide⟩ _ (wd_gap (vrs4 hr5)) rfl rfl (Nat.le_of_ble_eq_true rfl) ⟨by decide, by decide⟩ dX4_addGap_38 ⟨by decide, by decide⟩ (fun _ h => by cases h) (fun hr38 => ?_)
    refine j_aload_n hc dX4_addGap_41 rfl ?_
    refine gf_X4_101 hc (vrs4 hr5) dX4_addGap_42 ?_
    exact j_iret hc rfl (by decide) (by decide) (by simp only [e_addGap, ck_none hr5, ck_none hr14, if_pos h23] <;> rfl) dX4_addGap_45
  · -- if_neg h23
    exact j_thr_73 hc ho 104 (tx := "the row of gaps is full") (by decide) dX4_addGap_26 dX4_addGap_29 dX4_addGap_30 dX4_addGap_32 dX4_addGap_35 (by decide) (Nat.le_of_ble_eq_true rfl) (by decide) (by decide) (by decide) (by decide) ⟨by simp only [e_addGap, ck_none hr5, ck_none hr14, if_neg h23] <;> rfl, rfl⟩
set_option maxRecDepth 100000 in
set_option maxHeartbeats 4000000 in
theorem c_X4_clearGaps {l : Launch} {D : va_G} {cs : Nat → ClassId} {sa : Nat → Nat} (hl : l.stackTraces = false)  {ad : Nat → Nat} {n : Nat} {E : ES} {S : MS} {o : Nat → Int64} {r : Int32} : CM l D cs sa yX4_clearGaps cX4_clearGaps 4 (Option.some Jvm.ClassFile.FieldType.int) (RM 7 8 64) 8 64 [.ref (ad 0), .int r] (WD ad cs n E S o) ((e_clearGaps E r).1, some (.int (e_clearGaps E r).2.1), WD ad cs n (e_clearGaps E r).2.2 S o) := by
  refine CM.of RX4 hl (by decide +kernel) rfl (Nat.le_of_ble_eq_true rfl) ?_
  intro p e s m args below meth c A hc ho hmn
  refine j_aload_n hc dX4_clearGaps_0 rfl ?_
  refine gf_X4_34 hc dX4_clearGaps_1 ?_
  refine j_iload_n hc dX4_clearGaps_4 rfl ?_
  refine j_callS hc ho (c_X4_indexOfReason hl) sc_X4_98 rfl ⟨rfl, rfl, by decide, by decide⟩ rfl (Nat.le_of_ble_eq_true rfl) ⟨by decide, by decide⟩ dX4_clearGaps_5 ⟨by decide, by decide⟩ (fun E9 h9 => ⟨by simp only [e_clearGaps, ck_some h9], rfl⟩) (fun hr5 => ?_)
  refine al_gapsp hc (vrs hr5) dX4_clearGaps_8 ?_
  refine j_astore_n hc dX4_clearGaps_9 rfl ?_
  refine j_aload_n hc dX4_clearGaps_10 rfl ?_
  refine gf_X4_101 hc (vrs4 hr5) dX4_clearGaps_11 ?_
  refine j_istore_n hc dX4_clearGaps_14 rfl ?_
  refine j_aload_n hc dX4_clearGaps_15 rfl ?_
  refine j_iconst hc (v := 0) dX4_clearGaps_16 (by decide) ?_
  refine pf_X4_101 hc (vrs4 hr5) dX4_clearGaps_17 ?_
  refine j_iload_n hc dX4_clearGaps_20 rfl ?_
  exact j_iret hc rfl (by decide) (by decide) (by simp only [e_clearGaps, ck_none hr5] <;> rfl) dX4_clearGaps_21
set_option maxRecDepth 100000 in
set_option maxHeartbeats 4000000 in
theorem c_X4_setTimes {l : Launch} {D : va_G} {cs : Nat → ClassId} {sa : Nat → Nat} (hl : l.stackTraces = false)  {ad : Nat → Nat} {n : Nat} {E : ES} {S : MS} {o : Nat → Int64} {x y : Int32} : CM l D cs sa yX4_setTimes cX4_setTimes 4 (Option.some Jvm.ClassFile.FieldType.int) (RM 7 8 64) 8 64 [.ref (ad 0), .int x, .int y] (WD ad cs n E S o) ((e_setTimes E x y).1, some (.int (e_setTimes E x y).2.1), WD ad cs n (e_setTimes E x y).2.2 S o) := by
  refine CM.of RX4 hl (by decide +kernel) rfl (Nat.le_of_ble_eq_true rfl) ?_
  intro p e s m args below meth c A hc ho hmn
  refine j_iload_n hc dX4_setTimes_0 rfl ?_
  refine j_iconst hc (v := 1) dX4_setTimes_1 (by decide) ?_
  refine j_bipush hc (v := 60) dX4_setTimes_2 (by decide) ?_
  refine j_callS hc ho (c_X4_checkRange hl) sc_X4_86 rfl ⟨rfl, rfl, by decide, by decide⟩ rfl (Nat.le_of_ble_eq_true rfl) ⟨by decide, by decide⟩ dX4_setTimes_4 ⟨by decide, by decide⟩ (fun E9 h9 => ⟨by simp only [e_setTimes, ck_some h9], rfl⟩) (fun hr4 => ?_)
  refine j_iload_n hc dX4_setTimes_7 rfl ?_
  refine j_iconst hc (v := 1) dX4_setTimes_8 (by decide) ?_
  refine j_bipush hc (v := 90) dX4_setTimes_9 (by decide) ?_
  refine j_callS hc ho (c_X4_checkRange hl) sc_X4_86 rfl ⟨rfl, rfl, by decide, by decide⟩ rfl (Nat.le_of_ble_eq_true rfl) ⟨by decide, by decide⟩ dX4_setTimes_11 ⟨by decide, by decide⟩ (fun E9 h9 => ⟨by simp only [e_setTimes, ck_none hr4, ck_some h9], rfl⟩) (fun hr11 => ?_)
  refine j_aload_n hc dX4_setTimes_14 rfl ?_
  refine gf_X4_51 hc dX4_setTimes_15 ?_
  refine j_istore_n hc dX4_setTimes_18 rfl ?_
  refine j_aload_n hc dX4_setTimes_19 rfl ?_
  refine j_iload_n hc dX4_setTimes_20 rfl ?_
  refine pf_X4_51 hc dX4_setTimes_21 ?_
  refine j_aload_n hc dX4_setTimes_24 rfl ?_
  refine j_iload_n hc dX4_setTimes_25 rfl ?_
  refine pf_X4_55 hc dX4_setTimes_26 ?_
  refine j_iload_n hc dX4_setTimes_29 rfl ?_
  exact j_iret hc rfl (by decide) (by decide) (by simp only [e_setTimes, ck_none hr4, ck_none hr11] <;> rfl) dX4_setTimes_30
theorem oc_rsn {x : Int32} (h : e_rng x 0 4 = none) (h2 : ¬ x = 0) : e_rsn x = none := by
  have hh := rng_none h
  have e0 : (0 : Int32).toInt = 0 := by decide
  have e1 : (1 : Int32).toInt = 1 := by decide
  have e4 : (4 : Int32).toInt = 4 := by decide
  rw [← Int32.toInt_inj, e0] at h2
  unfold e_rsn
  rw [if_neg (by rw [i32_lt]; omega), if_pos (by rw [i32_le]; omega)]
set_option maxRecDepth 100000 in
set_option maxHeartbeats 4000000 in
theorem c_X4_outcome {l : Launch} {D : va_G} {cs : Nat → ClassId} {sa : Nat → Nat} (hl : l.stackTraces = false)  {ad : Nat → Nat} {n : Nat} {E : ES} {S : MS} {o : Nat → Int64} (hn30 : n ≤ 30) {p0 x : Int32} : CM l D cs sa yX4_outcome cX4_outcome 4 (Option.some Jvm.ClassFile.FieldType.int) (RM 7 8 64) 8 64 [.ref (ad 0), .int p0, .int x] (WD ad cs n E S o) ((e_outcome n E p0 x).1, some (.int (e_outcome n E p0 x).2.1), WD ad cs n (e_outcome n E p0 x).2.2 S o) := by
  refine CM.of RX4 hl (by decide +kernel) rfl (Nat.le_of_ble_eq_true rfl) ?_
  intro p e s m args below meth c A hc ho hmn
  refine j_aload_n hc dX4_outcome_0 rfl ?_
  refine j_iload_n hc dX4_outcome_1 rfl ?_
  refine j_callV hc ho (c_X4_findBill hl hn30) vc_X4_129 rfl ⟨rfl, rfl, by decide, by decide⟩ 0 rfl rfl rfl (Nat.le_of_ble_eq_true rfl) ⟨by decide, by decide⟩ dX4_outcome_2 ⟨by decide, by decide⟩ (fun E9 h9 => ⟨by simp only [e_outcome, ck_some h9], rfl⟩) (fun hr2 => ?_)
  have hb := fb_lt hr2
  refine j_astore_n hc dX4_outcome_5 rfl ?_
  refine j_iload_n hc dX4_outcome_6 rfl ?_
  refine j_iconst hc (v := 0) dX4_outcome_7 (by decide) ?_
  refine j_iconst hc (v := 4) dX4_outcome_8 (by decide) ?_
  refine j_callS hc ho (c_X4_checkRange hl) sc_X4_86 rfl ⟨rfl, rfl, by decide, by decide⟩ rfl (Nat.le_of_ble_eq_true rfl) ⟨by decide, by decide⟩ dX4_outcome_9 ⟨by decide, by decide⟩ (fun E9 h9 => ⟨by simp only [e_outcome, ck_none hr2, ck_some h9], rfl⟩) (fun hr9 => ?_)
  refine j_aload_n hc dX4_outcome_12 rfl ?_
  refine gf_X4_133 hc hb dX4_outcome_13 ?_
  refine j_iconst hc (v := 1) dX4_outcome_16 (by decide) ?_
  refine j_icmp_eq hc 30 dX4_outcome_17 (by decide) (fun h17 => ?_) (fun h17 => ?_)
  · -- if_pos h17
    refine j_iload_n hc dX4_outcome_30 rfl ?_
    refine j_if_ne hc 46 dX4_outcome_31 (by decide) (fun h31 => ?_) (fun h31 => ?_)
    · -- if_neg h31
      refine j_aload_n hc dX4_outcome_46 rfl ?_
      refine j_aload_n hc dX4_outcome_47 rfl ?_
      refine j_iload_n hc dX4_outcome_48 rfl ?_
      refine j_callV hc ho (c_X4_fail hl hb (oc_rsn hr9 h31)) vc_X4_145 rfl ⟨rfl, rfl, by decide, by decide⟩ 0 rfl rfl rfl (Nat.le_of_ble_eq_true rfl) ⟨by decide, by decide⟩ dX4_outcome_49 ⟨by decide, by decide⟩ (fun _ h => by cases h) (fun hr49 => ?_)
      refine j_aload_n hc dX4_outcome_52 rfl ?_
      refine gf_X4_133 hc hb dX4_outcome_53 ?_
      exact j_iret hc rfl (by decide) (by decide) (by simp only [e_outcome, ck_none hr2, ck_none hr9, if_pos h17, if_neg h31] <;> rfl) dX4_outcome_56
    · -- if_pos h31
      refine j_aload_n hc dX4_outcome_34 rfl ?_
      refine j_aload_n hc dX4_outcome_35 rfl ?_
      refine j_aload_n hc dX4_outcome_36 rfl ?_
      refine gf_X4_138 hc hb dX4_outcome_37 ?_
      refine j_callV hc ho (c_X4_takePayment hl hb) vc_X4_141 rfl ⟨rfl, rfl, by decide, by decide⟩ 0 rfl rfl rfl (Nat.le_of_ble_eq_true rfl) ⟨by decide, by decide⟩ dX4_outcome_40 ⟨by decide, by decide⟩ (fun _ h => by cases h) (fun hr40 => ?_)
      refine j_goto hc 52 dX4_outcome_43 (by decide) ?_
      refine j_aload_n hc dX4_outcome_52 rfl ?_
      refine gf_X4_133 hc hb dX4_outcome_53 ?_
      exact j_iret hc rfl (by decide) (by decide) (by simp only [e_outcome, ck_none hr2, ck_none hr9, if_pos h17, if_pos h31] <;> rfl) dX4_outcome_56
  · -- if_neg h17
    exact j_thr_73 hc ho 136 (tx := "the bill is not being tried") (by decide) dX4_outcome_20 dX4_outcome_23 dX4_outcome_24 dX4_outcome_26 dX4_outcome_29 (by decide) (Nat.le_of_ble_eq_true rfl) (by decide) (by decide) (by decide) (by decide) ⟨by simp only [e_outcome, ck_none hr2, ck_none hr9, if_neg h17] <;> rfl, rfl⟩
set_option maxRecDepth 100000 in
set_option maxHeartbeats 4000000 in
theorem c_X4_pay {l : Launch} {D : va_G} {cs : Nat → ClassId} {sa : Nat → Nat} (hl : l.stackTraces = false)  {ad : Nat → Nat} {n : Nat} {E : ES} {S : MS} {o : Nat → Int64} (hn30 : n ≤ 30) {p0 v : Int32} : CM l D cs sa yX4_pay cX4_pay 4 (Option.some Jvm.ClassFile.FieldType.int) (RM 7 8 64) 8 64 [.ref (ad 0), .int p0, .int v] (WD ad cs n E S o) ((e_pay n E p0 v).1, some (.int (e_pay n E p0 v).2.1), WD ad cs n (e_pay n E p0 v).2.2 S o) := by
  refine CM.of RX4 hl (by decide +kernel) rfl (Nat.le_of_ble_eq_true rfl) ?_
  intro p e s m args below meth c A hc ho hmn
  refine j_aload_n hc dX4_pay_0 rfl ?_
  refine j_iload_n hc dX4_pay_1 rfl ?_
  refine j_callV hc ho (c_X4_findBill hl hn30) vc_X4_129 rfl ⟨rfl, rfl, by decide, by decide⟩ 0 rfl rfl rfl (Nat.le_of_ble_eq_true rfl) ⟨by decide, by decide⟩ dX4_pay_2 ⟨by decide, by decide⟩ (fun E9 h9 => ⟨by simp only [e_pay, ck_some h9], rfl⟩) (fun hr2 => ?_)
  have hb := fb_lt hr2
  refine j_astore_n hc dX4_pay_5 rfl ?_
  refine j_iload_n hc dX4_pay_6 rfl ?_
  refine j_iconst hc (v := 1) dX4_pay_7 (by decide) ?_
  refine j_sipush hc (v := 9999) dX4_pay_8 (by decide) ?_
  refine j_callS hc ho (c_X4_checkRange hl) sc_X4_86 rfl ⟨rfl, rfl, by decide, by decide⟩ rfl (Nat.le_of_ble_eq_true rfl) ⟨by decide, by decide⟩ dX4_pay_11 ⟨by decide, by decide⟩ (fun E9 h9 => ⟨by simp only [e_pay, ck_none hr2, ck_some h9], rfl⟩) (fun hr11 => ?_)
  refine j_aload_n hc dX4_pay_14 rfl ?_
  refine gf_X4_133 hc hb dX4_pay_15 ?_
  refine j_iconst hc (v := 1) dX4_pay_18 (by decide) ?_
  refine j_icmp_eq hc 39 dX4_pay_19 (by decide) (fun h19 => ?_) (fun h19 => ?_)
  · -- if_pos h19
    exact j_thr_73 hc ho 148 (tx := "the bill takes no such payment") (by decide) dX4_pay_39 dX4_pay_42 dX4_pay_43 dX4_pay_45 dX4_pay_48 (by decide) (Nat.le_of_ble_eq_true rfl) (by decide) (by decide) (by decide) (by decide) ⟨by simp only [e_pay, ck_none hr2, ck_none hr11, if_pos h19] <;> rfl, rfl⟩
  · -- if_neg h19
    refine j_aload_n hc dX4_pay_22 rfl ?_
    refine gf_X4_133 hc hb dX4_pay_23 ?_
    refine j_bipush hc (v := 6) dX4_pay_26 (by decide) ?_
    refine j_icmp_eq hc 39 dX4_pay_28 (by decide) (fun h28 => ?_) (fun h28 => ?_)
    · -- if_pos h28
      exact j_thr_73 hc ho 148 (tx := "the bill takes no such payment") (by decide) dX4_pay_39 dX4_pay_42 dX4_pay_43 dX4_pay_45 dX4_pay_48 (by decide) (Nat.le_of_ble_eq_true rfl) (by decide) (by decide) (by decide) (by decide) ⟨by simp only [e_pay, ck_none hr2, ck_none hr11, if_neg h19, if_pos h28] <;> rfl, rfl⟩
    · -- if_neg h28
      refine j_iload_n hc dX4_pay_31 rfl ?_
      refine j_aload_n hc dX4_pay_32 rfl ?_
      refine gf_X4_138 hc hb dX4_pay_33 ?_
      refine j_icmp_le hc 49 dX4_pay_36 (by decide) (fun h36 => ?_) (fun h36 => ?_)
      · -- if_pos h36
        refine j_aload_n hc dX4_pay_49 rfl ?_
        refine j_aload_n hc dX4_pay_50 rfl ?_
        refine j_iload_n hc dX4_pay_51 rfl ?_
        refine j_callV hc ho (c_X4_takePayment hl hb) vc_X4_141 rfl ⟨rfl, rfl, by decide, by decide⟩ 0 rfl rfl rfl (Nat.le_of_ble_eq_true rfl) ⟨by decide, by decide⟩ dX4_pay_52 ⟨by decide, by decide⟩ (fun _ h => by cases h) (fun hr52 => ?_)
        refine j_aload_n hc dX4_pay_55 rfl ?_
        refine gf_X4_138 hc hb dX4_pay_56 ?_
        exact j_iret hc rfl (by decide) (by decide) (by simp only [e_pay, ck_none hr2, ck_none hr11, if_neg h19, if_neg h28, if_pos h36] <;> rfl) dX4_pay_59
      · -- if_neg h36
        exact j_thr_73 hc ho 148 (tx := "the bill takes no such payment") (by decide) dX4_pay_39 dX4_pay_42 dX4_pay_43 dX4_pay_45 dX4_pay_48 (by decide) (Nat.le_of_ble_eq_true rfl) (by decide) (by decide) (by decide) (by decide) ⟨by simp only [e_pay, ck_none hr2, ck_none hr11, if_neg h19, if_neg h28, if_neg h36] <;> rfl, rfl⟩
set_option maxRecDepth 100000 in
set_option maxHeartbeats 4000000 in
theorem c_X4_promise {l : Launch} {D : va_G} {cs : Nat → ClassId} {sa : Nat → Nat} (hl : l.stackTraces = false)  {ad : Nat → Nat} {n : Nat} {E : ES} {S : MS} {o : Nat → Int64} (hn30 : n ≤ 30) {p0 v : Int32} : CM l D cs sa yX4_promise cX4_promise 5 (Option.some Jvm.ClassFile.FieldType.int) (RM 7 8 64) 8 64 [.ref (ad 0), .int p0, .int v] (WD ad cs n E S o) ((e_promise n E p0 v).1, some (.int (e_promise n E p0 v).2.1), WD ad cs n (e_promise n E p0 v).2.2 S o) := by
  refine CM.of RX4 hl (by decide +kernel) rfl (Nat.le_of_ble_eq_true rfl) ?_
  intro p e s m args below meth c A hc ho hmn
  refine j_aload_n hc dX4_promise_0 rfl ?_
  refine j_iload_n hc dX4_promise_1 rfl ?_
  refine j_callV hc ho (c_X4_findBill hl hn30) vc_X4_129 rfl ⟨rfl, rfl, by decide, by decide⟩ 0 rfl rfl rfl (Nat.le_of_ble_eq_true rfl) ⟨by decide, by decide⟩ dX4_promise_2 ⟨by decide, by decide⟩ (fun E9 h9 => ⟨by simp only [e_promise, ck_some h9], rfl⟩) (fun hr2 => ?_)
  have hb := fb_lt hr2
  refine j_astore_n hc dX4_promise_5 rfl ?_
  refine j_iload_n hc dX4_promise_6 rfl ?_
  refine j_iconst hc (v := 1) dX4_promise_7 (by decide) ?_
  refine j_bipush hc (v := 30) dX4_promise_8 (by decide) ?_
  refine j_callS hc ho (c_X4_checkRange hl) sc_X4_86 rfl ⟨rfl, rfl, by decide, by decide⟩ rfl (Nat.le_of_ble_eq_true rfl) ⟨by decide, by decide⟩ dX4_promise_10 ⟨by decide, by decide⟩ (fun E9 h9 => ⟨by simp only [e_promise, ck_none hr2, ck_some h9], rfl⟩) (fun hr10 => ?_)
  refine j_aload_n hc dX4_promise_13 rfl ?_
  refine gf_X4_133 hc hb dX4_promise_14 ?_
  refine j_if_eq hc 36 dX4_promise_17 (by decide) (fun h17 => ?_) (fun h17 => ?_)
  · -- if_pos h17
    refine j_iconst hc (v := 1) dX4_promise_36 (by decide) ?_
    refine j_goto hc 41 dX4_promise_37 (by decide) ?_
    refine j_istore hc dX4_promise_41 rfl ?_
    refine j_iload hc dX4_promise_43 rfl ?_
    refine j_if_eq hc 56 dX4_promise_45 (by decide) (fun h45 => by exact absurd h45 (by decide)) (fun h45 => ?_)
    refine j_aload_n hc dX4_promise_48 rfl ?_
    refine gf_X4_150 hc hb dX4_promise_49 ?_
    refine j_iconst hc (v := 2) dX4_promise_52 (by decide) ?_
    refine j_icmp_lt hc 66 dX4_promise_53 (by decide) (fun h53 => ?_) (fun h53 => ?_)
    · -- if_pos h53
      refine j_aload_n hc dX4_promise_66 rfl ?_
      refine j_dup hc dX4_promise_67 rfl ?_
      refine gf_X4_150 hc hb dX4_promise_68 ?_
      refine j_iconst hc (v := 1) dX4_promise_71 (by decide) ?_
      refine j_iadd hc dX4_promise_72 ?_
      refine pf_X4_150 hc hb dX4_promise_73 ?_
      refine j_aload_n hc dX4_promise_76 rfl ?_
      refine j_aload_n hc dX4_promise_77 rfl ?_
      refine gf_X4_133 hc hb dX4_promise_78 ?_
      refine pf_X4_155 hc hb dX4_promise_81 ?_
      refine j_aload_n hc dX4_promise_84 rfl ?_
      refine j_aload_n hc dX4_promise_85 rfl ?_
      refine gf_X4_158 hc hb dX4_promise_86 ?_
      refine j_aload_n hc dX4_promise_89 rfl ?_
      refine gf_X4_83 hc dX4_promise_90 ?_
      refine j_isub hc dX4_promise_93 ?_
      refine pf_X4_161 hc hb dX4_promise_94 ?_
      refine j_aload_n hc dX4_promise_97 rfl ?_
      refine j_aload_n hc dX4_promise_98 rfl ?_
      refine j_iconst hc (v := 4) dX4_promise_99 (by decide) ?_
      refine j_aload_n hc dX4_promise_100 rfl ?_
      refine gf_X4_83 hc dX4_promise_101 ?_
      refine j_iload_n hc dX4_promise_104 rfl ?_
      refine j_iadd hc dX4_promise_105 ?_
      refine j_callV hc ho (c_X4_enter hl hb) vc_X4_125 rfl ⟨rfl, rfl, by decide, by decide⟩ 0 rfl rfl rfl (Nat.le_of_ble_eq_true rfl) ⟨by decide, by decide⟩ dX4_promise_106 ⟨by decide, by decide⟩ (fun _ h => by cases h) (fun hr106 => ?_)
      refine j_aload_n hc dX4_promise_109 rfl ?_
      refine gf_X4_158 hc hb dX4_promise_110 ?_
      exact j_iret hc rfl (by decide) (by decide) (by simp only [e_promise, e_prom0, e_prom1, ck_none hr2, ck_none hr10, if_pos h17, if_neg h45, if_pos h53] <;> rfl) dX4_promise_113
    · -- if_neg h53
      exact j_thr_73 hc ho 153 (tx := "the bill takes no promise") (by decide) dX4_promise_56 dX4_promise_59 dX4_promise_60 dX4_promise_62 dX4_promise_65 (by decide) (Nat.le_of_ble_eq_true rfl) (by decide) (by decide) (by decide) (by decide) ⟨by simp only [e_promise, e_prom0, e_prom1, ck_none hr2, ck_none hr10, if_pos h17, if_neg h45, if_neg h53] <;> rfl, rfl⟩
  · -- if_neg h17
    refine j_aload_n hc dX4_promise_20 rfl ?_
    refine gf_X4_133 hc hb dX4_promise_21 ?_
    refine j_iconst hc (v := 2) dX4_promise_24 (by decide) ?_
    refine j_icmp_eq hc 36 dX4_promise_25 (by decide) (fun h25 => ?_) (fun h25 => ?_)
    · -- if_pos h25
      refine j_iconst hc (v := 1) dX4_promise_36 (by decide) ?_
      refine j_goto hc 41 dX4_promise_37 (by decide) ?_
      refine j_istore hc dX4_promise_41 rfl ?_
      refine j_iload hc dX4_promise_43 rfl ?_
      refine j_if_eq hc 56 dX4_promise_45 (by decide) (fun h45 => by exact absurd h45 (by decide)) (fun h45 => ?_)
      refine j_aload_n hc dX4_promise_48 rfl ?_
      refine gf_X4_150 hc hb dX4_promise_49 ?_
      refine j_iconst hc (v := 2) dX4_promise_52 (by decide) ?_
      refine j_icmp_lt hc 66 dX4_promise_53 (by decide) (fun h53 => ?_) (fun h53 => ?_)
      · -- if_pos h53
        refine j_aload_n hc dX4_promise_66 rfl ?_
        refine j_dup hc dX4_promise_67 rfl ?_
        refine gf_X4_150 hc hb dX4_promise_68 ?_
        refine j_iconst hc (v := 1) dX4_promise_71 (by decide) ?_
        refine j_iadd hc dX4_promise_72 ?_
        refine pf_X4_150 hc hb dX4_promise_73 ?_
        refine j_aload_n hc dX4_promise_76 rfl ?_
        refine j_aload_n hc dX4_promise_77 rfl ?_
        refine gf_X4_133 hc hb dX4_promise_78 ?_
        refine pf_X4_155 hc hb dX4_promise_81 ?_
        refine j_aload_n hc dX4_promise_84 rfl ?_
        refine j_aload_n hc dX4_promise_85 rfl ?_
        refine gf_X4_158 hc hb dX4_promise_86 ?_
        refine j_aload_n hc dX4_promise_89 rfl ?_
        refine gf_X4_83 hc dX4_promise_90 ?_
        refine j_isub hc dX4_promise_93 ?_
        refine pf_X4_161 hc hb dX4_promise_94 ?_
        refine j_aload_n hc dX4_promise_97 rfl ?_
        refine j_aload_n hc dX4_promise_98 rfl ?_
        refine j_iconst hc (v := 4) dX4_promise_99 (by decide) ?_
        refine j_aload_n hc dX4_promise_100 rfl ?_
        refine gf_X4_83 hc dX4_promise_101 ?_
        refine j_iload_n hc dX4_promise_104 rfl ?_
        refine j_iadd hc dX4_promise_105 ?_
        refine j_callV hc ho (c_X4_enter hl hb) vc_X4_125 rfl ⟨rfl, rfl, by decide, by decide⟩ 0 rfl rfl rfl (Nat.le_of_ble_eq_true rfl) ⟨by decide, by decide⟩ dX4_promise_106 ⟨by decide, by decide⟩ (fun _ h => by cases h) (fun hr106 => ?_)
        refine j_aload_n hc dX4_promise_109 rfl ?_
        refine gf_X4_158 hc hb dX4_promise_110 ?_
        exact j_iret hc rfl (by decide) (by decide) (by simp only [e_promise, e_prom0, e_prom1, ck_none hr2, ck_none hr10, if_neg h17, if_pos h25, if_neg h45, if_pos h53] <;> rfl) dX4_promise_113
      · -- if_neg h53
        exact j_thr_73 hc ho 153 (tx := "the bill takes no promise") (by decide) dX4_promise_56 dX4_promise_59 dX4_promise_60 dX4_promise_62 dX4_promise_65 (by decide) (Nat.le_of_ble_eq_true rfl) (by decide) (by decide) (by decide) (by decide) ⟨by simp only [e_promise, e_prom0, e_prom1, ck_none hr2, ck_none hr10, if_neg h17, if_pos h25, if_neg h45, if_neg h53] <;> rfl, rfl⟩
    · -- if_neg h25
      refine j_aload_n hc dX4_promise_28 rfl ?_
      refine gf_X4_133 hc hb dX4_promise_29 ?_
      refine j_iconst hc (v := 3) dX4_promise_32 (by decide) ?_
      refine j_icmp_ne hc 40 dX4_promise_33 (by decide) (fun h33 => ?_) (fun h33 => ?_)
      · -- if_neg h33
        refine j_iconst hc (v := 0) dX4_promise_40 (by decide) ?_
        refine j_istore hc dX4_promise_41 rfl ?_
        refine j_iload hc dX4_promise_43 rfl ?_
        refine j_if_eq hc 56 dX4_promise_45 (by decide) (fun h45 => ?_) (fun h45 => by exact absurd h45 (by decide))
        exact j_thr_73 hc ho 153 (tx := "the bill takes no promise") (by decide) dX4_promise_56 dX4_promise_59 dX4_promise_60 dX4_promise_62 dX4_promise_65 (by decide) (Nat.le_of_ble_eq_true rfl) (by decide) (by decide) (by decide) (by decide) ⟨by simp only [e_promise, e_prom0, e_prom1, ck_none hr2, ck_none hr10, if_neg h17, if_neg h25, if_neg h33, if_pos h45] <;> rfl, rfl⟩
      · -- if_pos h33
        refine j_iconst hc (v := 1) dX4_promise_36 (by decide) ?_
        refine j_goto hc 41 dX4_promise_37 (by decide) ?_
        refine j_istore hc dX4_promise_41 rfl ?_
        refine j_iload hc dX4_promise_43 rfl ?_
        refine j_if_eq hc 56 dX4_promise_45 (by decide) (fun h45 => by exact absurd h45 (by decide)) (fun h45 => ?_)
        refine j_aload_n hc dX4_promise_48 rfl ?_
        refine gf_X4_150 hc hb dX4_promise_49 ?_
        refine j_iconst hc (v := 2) dX4_promise_52 (by decide) ?_
        refine j_icmp_lt hc 66 dX4_promise_53 (by decide) (fun h53 => ?_) (fun h53 => ?_)
        · -- if_pos h53
          refine j_aload_n hc dX4_promise_66 rfl ?_
          refine j_dup hc dX4_promise_67 rfl ?_
          refine gf_X4_150 hc hb dX4_promise_68 ?_
          refine j_iconst hc (v := 1) dX4_promise_71 (by decide) ?_
          refine j_iadd hc dX4_promise_72 ?_
          refine pf_X4_150 hc hb dX4_promise_73 ?_
          refine j_aload_n hc dX4_promise_76 rfl ?_
          refine j_aload_n hc dX4_promise_77 rfl ?_
          refine gf_X4_133 hc hb dX4_promise_78 ?_
          refine pf_X4_155 hc hb dX4_promise_81 ?_
          refine j_aload_n hc dX4_promise_84 rfl ?_
          refine j_aload_n hc dX4_promise_85 rfl ?_
          refine gf_X4_158 hc hb dX4_promise_86 ?_
          refine j_aload_n hc dX4_promise_89 rfl ?_
          refine gf_X4_83 hc dX4_promise_90 ?_
          refine j_isub hc dX4_promise_93 ?_
          refine pf_X4_161 hc hb dX4_promise_94 ?_
          refine j_aload_n hc dX4_promise_97 rfl ?_
          refine j_aload_n hc dX4_promise_98 rfl ?_
          refine j_iconst hc (v := 4) dX4_promise_99 (by decide) ?_
          refine j_aload_n hc dX4_promise_100 rfl ?_
          refine gf_X4_83 hc dX4_promise_101 ?_
          refine j_iload_n hc dX4_promise_104 rfl ?_
          refine j_iadd hc dX4_promise_105 ?_
          refine j_callV hc ho (c_X4_enter hl hb) vc_X4_125 rfl ⟨rfl, rfl, by decide, by decide⟩ 0 rfl rfl rfl (Nat.le_of_ble_eq_true rfl) ⟨by decide, by decide⟩ dX4_promise_106 ⟨by decide, by decide⟩ (fun _ h => by cases h) (fun hr106 => ?_)
          refine j_aload_n hc dX4_promise_109 rfl ?_
          refine gf_X4_158 hc hb dX4_promise_110 ?_
          exact j_iret hc rfl (by decide) (by decide) (by simp only [e_promise, e_prom0, e_prom1, ck_none hr2, ck_none hr10, if_neg h17, if_neg h25, if_pos h33, if_neg h45, if_pos h53] <;> rfl) dX4_promise_113
        · -- if_neg h53
          exact j_thr_73 hc ho 153 (tx := "the bill takes no promise") (by decide) dX4_promise_56 dX4_promise_59 dX4_promise_60 dX4_promise_62 dX4_promise_65 (by decide) (Nat.le_of_ble_eq_true rfl) (by decide) (by decide) (by decide) (by decide) ⟨by simp only [e_promise, e_prom0, e_prom1, ck_none hr2, ck_none hr10, if_neg h17, if_neg h25, if_pos h33, if_neg h45, if_neg h53] <;> rfl, rfl⟩
set_option maxRecDepth 100000 in
set_option maxHeartbeats 4000000 in
theorem c_X4_today {l : Launch} {D : va_G} {cs : Nat → ClassId} {sa : Nat → Nat} (hl : l.stackTraces = false)  {ad : Nat → Nat} {n : Nat} {E : ES} {S : MS} {o : Nat → Int64} : CM l D cs sa yX4_today cX4_today 1 (Option.some Jvm.ClassFile.FieldType.int) (RM 7 0 0) 0 0 [.ref (ad 0)] (WD ad cs n E S o) (none, some (.int (E.1 5)), (WD ad cs n E S o)) := by
  refine CM.of RX4 hl (by decide +kernel) rfl (Nat.le_of_ble_eq_true rfl) ?_
  intro p e s m args below meth c A hc ho hmn
  refine j_aload_n hc dX4_today_0 rfl ?_
  refine gf_X4_83 hc dX4_today_1 ?_
  exact j_iret hc rfl (by decide) (by decide) (rfl) dX4_today_4
set_option maxRecDepth 100000 in
set_option maxHeartbeats 4000000 in
theorem c_X4_bills {l : Launch} {D : va_G} {cs : Nat → ClassId} {sa : Nat → Nat} (hl : l.stackTraces = false)  {ad : Nat → Nat} {n : Nat} {E : ES} {S : MS} {o : Nat → Int64} : CM l D cs sa yX4_bills cX4_bills 1 (Option.some Jvm.ClassFile.FieldType.int) (RM 7 0 0) 0 0 [.ref (ad 0)] (WD ad cs n E S o) (none, some (.int (E.1 4)), (WD ad cs n E S o)) := by
  refine CM.of RX4 hl (by decide +kernel) rfl (Nat.le_of_ble_eq_true rfl) ?_
  intro p e s m args below meth c A hc ho hmn
  refine j_aload_n hc dX4_bills_0 rfl ?_
  refine gf_X4_112 hc dX4_bills_1 ?_
  exact j_iret hc rfl (by decide) (by decide) (rfl) dX4_bills_4
set_option maxRecDepth 100000 in
set_option maxHeartbeats 4000000 in
theorem c_X4_billed {l : Launch} {D : va_G} {cs : Nat → ClassId} {sa : Nat → Nat} (hl : l.stackTraces = false)  {ad : Nat → Nat} {n : Nat} {E : ES} {S : MS} {o : Nat → Int64} : CM l D cs sa yX4_billed cX4_billed 1 (Option.some Jvm.ClassFile.FieldType.int) (RM 7 0 0) 0 0 [.ref (ad 0)] (WD ad cs n E S o) (none, some (.int (E.1 8)), (WD ad cs n E S o)) := by
  refine CM.of RX4 hl (by decide +kernel) rfl (Nat.le_of_ble_eq_true rfl) ?_
  intro p e s m args below meth c A hc ho hmn
  refine j_aload_n hc dX4_billed_0 rfl ?_
  refine gf_X4_119 hc dX4_billed_1 ?_
  exact j_iret hc rfl (by decide) (by decide) (rfl) dX4_billed_4
set_option maxRecDepth 100000 in
set_option maxHeartbeats 4000000 in
theorem c_X4_paid {l : Launch} {D : va_G} {cs : Nat → ClassId} {sa : Nat → Nat} (hl : l.stackTraces = false)  {ad : Nat → Nat} {n : Nat} {E : ES} {S : MS} {o : Nat → Int64} : CM l D cs sa yX4_paid cX4_paid 1 (Option.some Jvm.ClassFile.FieldType.int) (RM 7 0 0) 0 0 [.ref (ad 0)] (WD ad cs n E S o) (none, some (.int (E.1 9)), (WD ad cs n E S o)) := by
  refine CM.of RX4 hl (by decide +kernel) rfl (Nat.le_of_ble_eq_true rfl) ?_
  intro p e s m args below meth c A hc ho hmn
  refine j_aload_n hc dX4_paid_0 rfl ?_
  refine gf_X4_197 hc dX4_paid_1 ?_
  exact j_iret hc rfl (by decide) (by decide) (rfl) dX4_paid_4
set_option maxRecDepth 100000 in
set_option maxHeartbeats 4000000 in
theorem c_X4_writtenOff {l : Launch} {D : va_G} {cs : Nat → ClassId} {sa : Nat → Nat} (hl : l.stackTraces = false)  {ad : Nat → Nat} {n : Nat} {E : ES} {S : MS} {o : Nat → Int64} : CM l D cs sa yX4_writtenOff cX4_writtenOff 1 (Option.some Jvm.ClassFile.FieldType.int) (RM 7 0 0) 0 0 [.ref (ad 0)] (WD ad cs n E S o) (none, some (.int (E.1 10)), (WD ad cs n E S o)) := by
  refine CM.of RX4 hl (by decide +kernel) rfl (Nat.le_of_ble_eq_true rfl) ?_
  intro p e s m args below meth c A hc ho hmn
  refine j_aload_n hc dX4_writtenOff_0 rfl ?_
  refine gf_X4_200 hc dX4_writtenOff_1 ?_
  exact j_iret hc rfl (by decide) (by decide) (rfl) dX4_writtenOff_4
set_option maxRecDepth 100000 in
set_option maxHeartbeats 4000000 in
theorem c_X4_broughtBack {l : Launch} {D : va_G} {cs : Nat → ClassId} {sa : Nat → Nat} (hl : l.stackTraces = false)  {ad : Nat → Nat} {n : Nat} {E : ES} {S : MS} {o : Nat → Int64} : CM l D cs sa yX4_broughtBack cX4_broughtBack 1 (Option.some Jvm.ClassFile.FieldType.int) (RM 7 0 0) 0 0 [.ref (ad 0)] (WD ad cs n E S o) (none, some (.int (E.1 11)), (WD ad cs n E S o)) := by
  refine CM.of RX4 hl (by decide +kernel) rfl (Nat.le_of_ble_eq_true rfl) ?_
  intro p e s m args below meth c A hc ho hmn
  refine j_aload_n hc dX4_broughtBack_0 rfl ?_
  refine gf_X4_203 hc dX4_broughtBack_1 ?_
  exact j_iret hc rfl (by decide) (by decide) (rfl) dX4_broughtBack_4
set_option maxRecDepth 100000 in
set_option maxHeartbeats 4000000 in
theorem c_X4_events {l : Launch} {D : va_G} {cs : Nat → ClassId} {sa : Nat → Nat} (hl : l.stackTraces = false)  {ad : Nat → Nat} {n : Nat} {E : ES} {S : MS} {o : Nat → Int64} : CM l D cs sa yX4_events cX4_events 1 (Option.some Jvm.ClassFile.FieldType.int) (RM 7 0 0) 0 0 [.ref (ad 0)] (WD ad cs n E S o) (none, some (.int (E.1 13)), (WD ad cs n E S o)) := by
  refine CM.of RX4 hl (by decide +kernel) rfl (Nat.le_of_ble_eq_true rfl) ?_
  intro p e s m args below meth c A hc ho hmn
  refine j_aload_n hc dX4_events_0 rfl ?_
  refine gf_X4_47 hc dX4_events_1 ?_
  refine gf_X4_206 hc dX4_events_4 ?_
  exact j_iret hc rfl (by decide) (by decide) (rfl) dX4_events_7
theorem chg_01 (E : ES) (d : Int32) : e_chg E d = 0 ∨ e_chg E d = 1 := by
  unfold e_chg
  split
  · exact Or.inl rfl
  · split
    · exact Or.inr rfl
    · exact Or.inl rfl
theorem nar_01 {v : Int32} (h : v = 0 ∨ v = 1) : narrow .boolean (.int v) = .int v := by
  rcases h with rfl | rfl <;> rfl
set_option maxRecDepth 100000 in
set_option maxHeartbeats 4000000 in
theorem c_X4_isCharging {l : Launch} {D : va_G} {cs : Nat → ClassId} {sa : Nat → Nat} (hl : l.stackTraces = false)  {ad : Nat → Nat} {n : Nat} {E : ES} {S : MS} {o : Nat → Int64} {d : Int32} : CM l D cs sa yX4_isCharging cX4_isCharging 2 (Option.some Jvm.ClassFile.FieldType.boolean) (RM 7 8 64) 8 64 [.ref (ad 0), .int d] (WD ad cs n E S o) ((e_isCharging E d).1, some (.int (e_isCharging E d).2.1), WD ad cs n (e_isCharging E d).2.2 S o) := by
  refine CM.of RX4 hl (by decide +kernel) rfl (Nat.le_of_ble_eq_true rfl) ?_
  intro p e s m args below meth c A hc ho hmn
  refine j_iload_n hc dX4_isCharging_0 rfl ?_
  refine j_iconst hc (v := 0) dX4_isCharging_1 (by decide) ?_
  refine j_ldc hc wt_463 dX4_isCharging_2 ?_
  refine j_callS hc ho (c_X4_checkRange hl) sc_X4_86 rfl ⟨rfl, rfl, by decide, by decide⟩ rfl (Nat.le_of_ble_eq_true rfl) ⟨by decide, by decide⟩ dX4_isCharging_4 ⟨by decide, by decide⟩ (fun E9 h9 => ⟨by simp only [e_isCharging, ck_some h9], rfl⟩) (fun hr4 => ?_)
  refine j_aload_n hc dX4_isCharging_7 rfl ?_
  refine gf_X4_10 hc dX4_isCharging_8 ?_
  refine j_iload_n hc dX4_isCharging_11 rfl ?_
  refine j_callV hc ho (c_X1_allowsCharging hl) vc_X4_172 rfl ⟨rfl, rfl, by decide, by decide⟩ 1 rfl rfl rfl (Nat.le_of_ble_eq_true rfl) ⟨by decide, by decide⟩ dX4_isCharging_12 ⟨by decide, by decide⟩ (fun _ h => by cases h) (fun hr12 => ?_)
  exact j_zret hc rfl (nar_01 (chg_01 E d)) (by decide) (by decide) (by simp only [e_isCharging, ck_none hr4] <;> rfl) dX4_isCharging_15
set_option maxRecDepth 100000 in
set_option maxHeartbeats 4000000 in
theorem c_X4_stateOf {l : Launch} {D : va_G} {cs : Nat → ClassId} {sa : Nat → Nat} (hl : l.stackTraces = false)  {ad : Nat → Nat} {n : Nat} {E : ES} {S : MS} {o : Nat → Int64} (hn30 : n ≤ 30) {p0 : Int32} : CM l D cs sa yX4_stateOf cX4_stateOf 2 (Option.some Jvm.ClassFile.FieldType.int) (RM 7 8 64) 8 64 [.ref (ad 0), .int p0] (WD ad cs n E S o) ((e_bf n E 4 p0).1, some (.int (e_bf n E 4 p0).2.1), WD ad cs n (e_bf n E 4 p0).2.2 S o) := by
  refine CM.of RX4 hl (by decide +kernel) rfl (Nat.le_of_ble_eq_true rfl) ?_
  intro p e s m args below meth c A hc ho hmn
  refine j_aload_n hc dX4_stateOf_0 rfl ?_
  refine j_iload_n hc dX4_stateOf_1 rfl ?_
  refine j_callV hc ho (c_X4_findBill hl hn30) vc_X4_129 rfl ⟨rfl, rfl, by decide, by decide⟩ 0 rfl rfl rfl (Nat.le_of_ble_eq_true rfl) ⟨by decide, by decide⟩ dX4_stateOf_2 ⟨by decide, by decide⟩ (fun E9 h9 => ⟨by simp only [e_bf, ck_some h9], rfl⟩) (fun hr2 => ?_)
  have hb := fb_lt hr2
  refine gf_X4_133 hc hb dX4_stateOf_5 ?_
  exact j_iret hc rfl (by decide) (by decide) (by simp only [e_bf, ck_none hr2] <;> rfl) dX4_stateOf_8
set_option maxRecDepth 100000 in
set_option maxHeartbeats 4000000 in
theorem c_X4_left {l : Launch} {D : va_G} {cs : Nat → ClassId} {sa : Nat → Nat} (hl : l.stackTraces = false)  {ad : Nat → Nat} {n : Nat} {E : ES} {S : MS} {o : Nat → Int64} (hn30 : n ≤ 30) {p0 : Int32} : CM l D cs sa yX4_left cX4_left 2 (Option.some Jvm.ClassFile.FieldType.int) (RM 7 8 64) 8 64 [.ref (ad 0), .int p0] (WD ad cs n E S o) ((e_bf n E 3 p0).1, some (.int (e_bf n E 3 p0).2.1), WD ad cs n (e_bf n E 3 p0).2.2 S o) := by
  refine CM.of RX4 hl (by decide +kernel) rfl (Nat.le_of_ble_eq_true rfl) ?_
  intro p e s m args below meth c A hc ho hmn
  refine j_aload_n hc dX4_left_0 rfl ?_
  refine j_iload_n hc dX4_left_1 rfl ?_
  refine j_callV hc ho (c_X4_findBill hl hn30) vc_X4_129 rfl ⟨rfl, rfl, by decide, by decide⟩ 0 rfl rfl rfl (Nat.le_of_ble_eq_true rfl) ⟨by decide, by decide⟩ dX4_left_2 ⟨by decide, by decide⟩ (fun E9 h9 => ⟨by simp only [e_bf, ck_some h9], rfl⟩) (fun hr2 => ?_)
  have hb := fb_lt hr2
  refine gf_X4_138 hc hb dX4_left_5 ?_
  exact j_iret hc rfl (by decide) (by decide) (by simp only [e_bf, ck_none hr2] <;> rfl) dX4_left_8
set_option maxRecDepth 100000 in
set_option maxHeartbeats 4000000 in
theorem c_X4_tries {l : Launch} {D : va_G} {cs : Nat → ClassId} {sa : Nat → Nat} (hl : l.stackTraces = false)  {ad : Nat → Nat} {n : Nat} {E : ES} {S : MS} {o : Nat → Int64} (hn30 : n ≤ 30) {p0 : Int32} : CM l D cs sa yX4_tries cX4_tries 2 (Option.some Jvm.ClassFile.FieldType.int) (RM 7 8 64) 8 64 [.ref (ad 0), .int p0] (WD ad cs n E S o) ((e_bf n E 6 p0).1, some (.int (e_bf n E 6 p0).2.1), WD ad cs n (e_bf n E 6 p0).2.2 S o) := by
  refine CM.of RX4 hl (by decide +kernel) rfl (Nat.le_of_ble_eq_true rfl) ?_
  intro p e s m args below meth c A hc ho hmn
  refine j_aload_n hc dX4_tries_0 rfl ?_
  refine j_iload_n hc dX4_tries_1 rfl ?_
  refine j_callV hc ho (c_X4_findBill hl hn30) vc_X4_129 rfl ⟨rfl, rfl, by decide, by decide⟩ 0 rfl rfl rfl (Nat.le_of_ble_eq_true rfl) ⟨by decide, by decide⟩ dX4_tries_2 ⟨by decide, by decide⟩ (fun E9 h9 => ⟨by simp only [e_bf, ck_some h9], rfl⟩) (fun hr2 => ?_)
  have hb := fb_lt hr2
  refine gf_X4_175 hc hb dX4_tries_5 ?_
  exact j_iret hc rfl (by decide) (by decide) (by simp only [e_bf, ck_none hr2] <;> rfl) dX4_tries_8
set_option maxRecDepth 100000 in
set_option maxHeartbeats 4000000 in
theorem c_X4_waitsFor {l : Launch} {D : va_G} {cs : Nat → ClassId} {sa : Nat → Nat} (hl : l.stackTraces = false)  {ad : Nat → Nat} {n : Nat} {E : ES} {S : MS} {o : Nat → Int64} (hn30 : n ≤ 30) {p0 : Int32} : CM l D cs sa yX4_waitsFor cX4_waitsFor 2 (Option.some Jvm.ClassFile.FieldType.int) (RM 7 8 64) 8 64 [.ref (ad 0), .int p0] (WD ad cs n E S o) ((e_bf n E 5 p0).1, some (.int (e_bf n E 5 p0).2.1), WD ad cs n (e_bf n E 5 p0).2.2 S o) := by
  refine CM.of RX4 hl (by decide +kernel) rfl (Nat.le_of_ble_eq_true rfl) ?_
  intro p e s m args below meth c A hc ho hmn
  refine j_aload_n hc dX4_waitsFor_0 rfl ?_
  refine j_iload_n hc dX4_waitsFor_1 rfl ?_
  refine j_callV hc ho (c_X4_findBill hl hn30) vc_X4_129 rfl ⟨rfl, rfl, by decide, by decide⟩ 0 rfl rfl rfl (Nat.le_of_ble_eq_true rfl) ⟨by decide, by decide⟩ dX4_waitsFor_2 ⟨by decide, by decide⟩ (fun E9 h9 => ⟨by simp only [e_bf, ck_some h9], rfl⟩) (fun hr2 => ?_)
  have hb := fb_lt hr2
  refine gf_X4_158 hc hb dX4_waitsFor_5 ?_
  exact j_iret hc rfl (by decide) (by decide) (by simp only [e_bf, ck_none hr2] <;> rfl) dX4_waitsFor_8
set_option maxRecDepth 100000 in
set_option maxHeartbeats 4000000 in
theorem c_X4_broken {l : Launch} {D : va_G} {cs : Nat → ClassId} {sa : Nat → Nat} (hl : l.stackTraces = false)  {ad : Nat → Nat} {n : Nat} {E : ES} {S : MS} {o : Nat → Int64} (hn30 : n ≤ 30) {p0 : Int32} : CM l D cs sa yX4_broken cX4_broken 2 (Option.some Jvm.ClassFile.FieldType.int) (RM 7 8 64) 8 64 [.ref (ad 0), .int p0] (WD ad cs n E S o) ((e_bf n E 8 p0).1, some (.int (e_bf n E 8 p0).2.1), WD ad cs n (e_bf n E 8 p0).2.2 S o) := by
  refine CM.of RX4 hl (by decide +kernel) rfl (Nat.le_of_ble_eq_true rfl) ?_
  intro p e s m args below meth c A hc ho hmn
  refine j_aload_n hc dX4_broken_0 rfl ?_
  refine j_iload_n hc dX4_broken_1 rfl ?_
  refine j_callV hc ho (c_X4_findBill hl hn30) vc_X4_129 rfl ⟨rfl, rfl, by decide, by decide⟩ 0 rfl rfl rfl (Nat.le_of_ble_eq_true rfl) ⟨by decide, by decide⟩ dX4_broken_2 ⟨by decide, by decide⟩ (fun E9 h9 => ⟨by simp only [e_bf, ck_some h9], rfl⟩) (fun hr2 => ?_)
  have hb := fb_lt hr2
  refine gf_X4_181 hc hb dX4_broken_5 ?_
  exact j_iret hc rfl (by decide) (by decide) (by simp only [e_bf, ck_none hr2] <;> rfl) dX4_broken_8
set_option maxRecDepth 100000 in
set_option maxHeartbeats 4000000 in
theorem c_X4_failures {l : Launch} {D : va_G} {cs : Nat → ClassId} {sa : Nat → Nat} (hl : l.stackTraces = false)  {ad : Nat → Nat} {n : Nat} {E : ES} {S : MS} {o : Nat → Int64} (hn30 : n ≤ 30) {p0 r : Int32} : CM l D cs sa yX4_failures cX4_failures 4 (Option.some Jvm.ClassFile.FieldType.int) (RM 7 8 64) 8 64 [.ref (ad 0), .int p0, .int r] (WD ad cs n E S o) ((e_failures n E p0 r).1, some (.int (e_failures n E p0 r).2.1), WD ad cs n (e_failures n E p0 r).2.2 S o) := by
  refine CM.of RX4 hl (by decide +kernel) rfl (Nat.le_of_ble_eq_true rfl) ?_
  intro p e s m args below meth c A hc ho hmn
  refine j_aload_n hc dX4_failures_0 rfl ?_
  refine j_iload_n hc dX4_failures_1 rfl ?_
  refine j_callV hc ho (c_X4_findBill hl hn30) vc_X4_129 rfl ⟨rfl, rfl, by decide, by decide⟩ 0 rfl rfl rfl (Nat.le_of_ble_eq_true rfl) ⟨by decide, by decide⟩ dX4_failures_2 ⟨by decide, by decide⟩ (fun E9 h9 => ⟨by simp only [e_failures, ck_some h9], rfl⟩) (fun hr2 => ?_)
  have hb := fb_lt hr2
  refine j_astore_n hc dX4_failures_5 rfl ?_
  refine j_aload_n hc dX4_failures_6 rfl ?_
  refine gf_X4_178 hc hb dX4_failures_7 ?_
  refine j_iload_n hc dX4_failures_10 rfl ?_
  refine j_callS hc ho (c_X4_indexOfReason hl) sc_X4_98 rfl ⟨rfl, rfl, by decide, by decide⟩ rfl (Nat.le_of_ble_eq_true rfl) ⟨by decide, by decide⟩ dX4_failures_11 ⟨by decide, by decide⟩ (fun E9 h9 => ⟨by simp only [e_failures, ck_none hr2, ck_some h9], rfl⟩) (fun hr11 => ?_)
  refine al_fails hc hb (vrs hr11) dX4_failures_14 ?_
  exact j_iret hc rfl (by decide) (by decide) (by simp only [e_failures, ck_none hr2, ck_none hr11] <;> rfl) dX4_failures_15
set_option maxRecDepth 100000 in
set_option maxHeartbeats 4000000 in
theorem c_X4_event {l : Launch} {D : va_G} {cs : Nat → ClassId} {sa : Nat → Nat} (hl : l.stackTraces = false)  {ad : Nat → Nat} {n : Nat} {E : ES} {S : MS} {o : Nat → Int64} {k : Int32} : CM l D cs sa yX4_event cX4_event 2 (Option.some Jvm.ClassFile.FieldType.int) (RM 7 8 64) 8 64 [.ref (ad 0), .int k] (WD ad cs n E S o) ((e_event E k).1, some (.int (e_event E k).2.1), WD ad cs n (e_event E k).2.2 S o) := by
  refine CM.of RX4 hl (by decide +kernel) rfl (Nat.le_of_ble_eq_true rfl) ?_
  intro p e s m args below meth c A hc ho hmn
  refine j_iload_n hc dX4_event_0 rfl ?_
  refine j_if_lt hc 15 dX4_event_1 (by decide) (fun h1 => ?_) (fun h1 => ?_)
  · -- if_pos h1
    exact j_thr_62 hc ho 212 (tx := "no such event") (by decide) dX4_event_15 dX4_event_18 dX4_event_19 dX4_event_21 dX4_event_24 (by decide) (Nat.le_of_ble_eq_true rfl) (by decide) (by decide) (by decide) (by decide) ⟨by simp only [e_event, if_pos h1] <;> rfl, rfl⟩
  · -- if_neg h1
    refine j_iload_n hc dX4_event_4 rfl ?_
    refine j_aload_n hc dX4_event_5 rfl ?_
    refine gf_X4_47 hc dX4_event_6 ?_
    refine j_callV hc ho (c_X2_told hl) vc_X4_209 rfl ⟨rfl, rfl, by decide, by decide⟩ 13 rfl rfl rfl (Nat.le_of_ble_eq_true rfl) ⟨by decide, by decide⟩ dX4_event_9 ⟨by decide, by decide⟩ (fun _ h => by cases h) (fun hr9 => ?_)
    refine j_icmp_lt hc 25 dX4_event_12 (by decide) (fun h12 => ?_) (fun h12 => ?_)
    · -- if_pos h12
      refine j_aload_n hc dX4_event_25 rfl ?_
      refine gf_X4_47 hc dX4_event_26 ?_
      refine j_iload_n hc dX4_event_29 rfl ?_
      refine j_callV hc ho (c_X2_codeAt hl) vc_X4_214 rfl ⟨rfl, rfl, by decide, by decide⟩ 13 rfl rfl rfl (Nat.le_of_ble_eq_true rfl) ⟨by decide, by decide⟩ dX4_event_30 ⟨by decide, by decide⟩ (fun _ h => by cases h) (fun hr30 => ?_)
      exact j_iret hc rfl (by decide) (by decide) (by simp only [e_event, if_neg h1, if_pos h12] <;> rfl) dX4_event_33
    · -- if_neg h12
      exact j_thr_62 hc ho 212 (tx := "no such event") (by decide) dX4_event_15 dX4_event_18 dX4_event_19 dX4_event_21 dX4_event_24 (by decide) (Nat.le_of_ble_eq_true rfl) (by decide) (by decide) (by decide) (by decide) ⟨by simp only [e_event, if_neg h1, if_neg h12] <;> rfl, rfl⟩
set_option maxRecDepth 100000 in
set_option maxHeartbeats 4000000 in
theorem c_X4_stateAt {l : Launch} {D : va_G} {cs : Nat → ClassId} {sa : Nat → Nat} (hl : l.stackTraces = false)  {ad : Nat → Nat} {n : Nat} {E : ES} {S : MS} {o : Nat → Int64} (hn30 : n ≤ 30) {p0 d : Int32} (hE : 0 ≤ (e_told E).toInt) : CM l D cs sa yX4_stateAt cX4_stateAt 3 (Option.some Jvm.ClassFile.FieldType.int) (RM 7 8 64) 8 64 [.ref (ad 0), .int p0, .int d] (WD ad cs n E S o) ((e_stateAt n E p0 d).1, some (.int (e_stateAt n E p0 d).2.1), WD ad cs n (e_stateAt n E p0 d).2.2 S o) := by
  refine CM.of RX4 hl (by decide +kernel) rfl (Nat.le_of_ble_eq_true rfl) ?_
  intro p e s m args below meth c A hc ho hmn
  refine j_aload_n hc dX4_stateAt_0 rfl ?_
  refine j_iload_n hc dX4_stateAt_1 rfl ?_
  refine j_callV hc ho (c_X4_findBill hl hn30) vc_X4_129 rfl ⟨rfl, rfl, by decide, by decide⟩ 0 rfl rfl rfl (Nat.le_of_ble_eq_true rfl) ⟨by decide, by decide⟩ dX4_stateAt_2 ⟨by decide, by decide⟩ (fun E9 h9 => ⟨by simp only [e_stateAt, ck_some h9], rfl⟩) (fun hr2 => ?_)
  have hb := fb_lt hr2
  refine j_pop hc dX4_stateAt_5 rfl ?_
  refine j_iload_n hc dX4_stateAt_6 rfl ?_
  refine j_iconst hc (v := 0) dX4_stateAt_7 (by decide) ?_
  refine j_aload_n hc dX4_stateAt_8 rfl ?_
  refine gf_X4_83 hc dX4_stateAt_9 ?_
  refine j_callS hc ho (c_X4_checkRange hl) sc_X4_86 rfl ⟨rfl, rfl, by decide, by decide⟩ rfl (Nat.le_of_ble_eq_true rfl) ⟨by decide, by decide⟩ dX4_stateAt_12 ⟨by decide, by decide⟩ (fun E9 h9 => ⟨by simp only [e_stateAt, ck_none hr2, ck_some h9], rfl⟩) (fun hr12 => ?_)
  refine j_aload_n hc dX4_stateAt_15 rfl ?_
  refine gf_X4_47 hc dX4_stateAt_16 ?_
  refine j_iload_n hc dX4_stateAt_19 rfl ?_
  refine j_iload_n hc dX4_stateAt_20 rfl ?_
  refine j_callV hc ho (c_X2_lastStateOf hl hE) vc_X4_217 rfl ⟨rfl, rfl, by decide, by decide⟩ 13 rfl rfl rfl (Nat.le_of_ble_eq_true rfl) ⟨by decide, by decide⟩ dX4_stateAt_21 ⟨by decide, by decide⟩ (fun _ h => by cases h) (fun hr21 => ?_)
  exact j_iret hc rfl (by decide) (by decide) (by simp only [e_stateAt, ck_none hr2, ck_none hr12] <;> rfl) dX4_stateAt_24
set_option maxRecDepth 100000 in
set_option maxHeartbeats 4000000 in
theorem c_X4_pass {l : Launch} {D : va_G} {cs : Nat → ClassId} {sa : Nat → Nat} (hl : l.stackTraces = false)  {ad : Nat → Nat} {n : Nat} {E : ES} {S : MS} {o : Nat → Int64} (hn30 : n ≤ 30) {p0 : Int32} : CM l D cs sa yX4_pass cX4_pass 4 (Option.some Jvm.ClassFile.FieldType.int) (RM 7 8 64) 8 64 [.ref (ad 0), .int p0] (WD ad cs n E S o) ((e_pass n E p0).1, some (.int (e_pass n E p0).2.1), WD ad cs n (e_pass n E p0).2.2 S o) := by
  refine CM.of RX4 hl (by decide +kernel) rfl (Nat.le_of_ble_eq_true rfl) ?_
  intro p e s m args below meth c A hc ho hmn
  refine j_iload_n hc dX4_pass_0 rfl ?_
  refine j_iconst hc (v := 1) dX4_pass_1 (by decide) ?_
  refine j_bipush hc (v := 60) dX4_pass_2 (by decide) ?_
  refine j_callS hc ho (c_X4_checkRange hl) sc_X4_86 rfl ⟨rfl, rfl, by decide, by decide⟩ rfl (Nat.le_of_ble_eq_true rfl) ⟨by decide, by decide⟩ dX4_pass_4 ⟨by decide, by decide⟩ (fun E9 h9 => ⟨by simp only [e_pass, ck_some h9], rfl⟩) (fun hr4 => ?_)
  obtain ⟨P, hP60, rfl⟩ : ∃ P : Nat, P ≤ 60 ∧ p0 = nI P := by
    have hh := rng_none hr4
    have e1 : (1 : Int32).toInt = 1 := by decide
    have e60 : (60 : Int32).toInt = 60 := by decide
    exact nI_of2 (n := 60) e60 (by rw [i32_lt]; have : (0 : Int32).toInt = 0 := by decide
                                   omega) (by rw [i32_le]; omega)
  have hre : (((e_pass n E (nI P)).1, some (.int (e_pass n E (nI P)).2.1), WD ad cs n (e_pass n E (nI P)).2.2 S o) : Rs) = (none, some (.int (e_days n P 0 E).1), WD ad cs n (e_days n P 0 E).2 S o) := by simp only [e_pass, ck_none hr4, nI_clamp (show P < 2 ^ 31 by omega)]
  rw [hre]
  have loop : ∀ (k i : Nat) (c0 : Int32) (E2 : ES), i + k = P → e_days n P 0 E = e_days n k c0 E2 → J p l e (RM 7 8 64) s m args below meth c D A 4 1 6 (QE below args s D A 8 64 (WD ad cs n E S o) (none, some (.int (e_days n P 0 E).1), WD ad cs n (e_days n P 0 E).2 S o)) (WD ad cs n E2 S o) 11 [(0, .ref (ad 0)), (1, .int (nI P)), (2, .int c0), (3, .int (nI i))] [] := by
    intro k
    induction k with
    | zero =>
      intro i c0 E2 hi hd
      refine j_iload_n hc dX4_pass_11 rfl ?_
      refine j_iload_n hc dX4_pass_12 rfl ?_
      refine j_icmp_ge hc 43 dX4_pass_13 (by decide) (fun h13 => ?_) (fun h13 => by exact absurd h13 (fun z => z (nI_le (by omega) (by omega))))
      refine j_iload_n hc dX4_pass_43 rfl ?_
      exact j_iret hc rfl (by decide) (by decide) (by rw [hd]; rfl) dX4_pass_44
    | succ k ih =>
      intro i c0 E2 hi hd
      refine j_iload_n hc dX4_pass_11 rfl ?_
      refine j_iload_n hc dX4_pass_12 rfl ?_
      refine j_icmp_ge hc 43 dX4_pass_13 (by decide) (fun h13 => by exact absurd h13 (nI_ge (by omega) (by omega))) (fun h13 => ?_)
      refine j_aload_n hc dX4_pass_16 rfl ?_
      refine j_callV hc ho (c_X4_failUnansweredTries hl hn30) vc_X4_164 rfl ⟨rfl, rfl, by decide, by decide⟩ 0 rfl rfl rfl (Nat.le_of_ble_eq_true rfl) ⟨by decide, by decide⟩ dX4_pass_17 ⟨by decide, by decide⟩ (fun _ h => by cases h) (fun hr17 => ?_)
      refine j_aload_n hc dX4_pass_20 rfl ?_
      refine j_dup hc dX4_pass_21 rfl ?_
      refine gf_X4_83 hc dX4_pass_22 ?_
      refine j_iconst hc (v := 1) dX4_pass_25 (by decide) ?_
      refine j_iadd hc dX4_pass_26 ?_
      refine pf_X4_83 hc dX4_pass_27 ?_
      refine j_iload_n hc dX4_pass_30 rfl ?_
      refine j_aload_n hc dX4_pass_31 rfl ?_
      refine j_callV hc ho (c_X4_lookAtBills hl hn30) vc_X4_167 rfl ⟨rfl, rfl, by decide, by decide⟩ 0 rfl rfl rfl (Nat.le_of_ble_eq_true rfl) ⟨by decide, by decide⟩ dX4_pass_32 ⟨by decide, by decide⟩ (fun _ h => by cases h) (fun hr32 => ?_)
      refine j_iadd hc dX4_pass_35 ?_
      refine j_istore_n hc dX4_pass_36 rfl ?_
      refine j_inc hc dX4_pass_37 rfl (z := 1) (by decide) rfl ?_
      refine j_goto hc 11 dX4_pass_40 (by decide) ?_
      refine j_lv [(0, .ref (ad 0)), (1, .int (nI P)), (2, .int _), (3, .int (nI i + 1))] ⟨rfl, rfl, rfl, rfl, trivial⟩ ?_
      rw [nI_1]
      exact ih (i + 1) _ _ (by omega) (by rw [hd]; rfl)
  refine j_iconst hc (v := 0) dX4_pass_7 (by decide) ?_
  refine j_istore_n hc dX4_pass_8 rfl ?_
  refine j_iconst hc (v := 0) dX4_pass_9 (by decide) ?_
  refine j_istore_n hc dX4_pass_10 rfl ?_
  refine j_lv [(0, .ref (ad 0)), (1, .int (nI P)), (2, .int 0), (3, .int 0)] ⟨rfl, rfl, rfl, rfl, trivial⟩ ?_
  exact loop P 0 0 E (by omega) rfl
set_option maxRecDepth 100000 in
set_option maxHeartbeats 4000000 in
theorem c_X4_service {l : Launch} {D : va_G} {cs : Nat → ClassId} {sa : Nat → Nat} (hl : l.stackTraces = false)  {ad : Nat → Nat} {n : Nat} {E : ES} {S : MS} {o : Nat → Int64} (hn30 : n ≤ 30) {x : Int32} : CM l D cs sa yX4_service cX4_service 5 (Option.some Jvm.ClassFile.FieldType.int) (RM 7 8 64) 8 64 [.ref (ad 0), .int x] (WD ad cs n E S o) ((e_service n E x).1, some (.int (e_service n E x).2.1), WD ad cs n (e_service n E x).2.2 S o) := by
  refine CM.of RX4 hl (by decide +kernel) rfl (Nat.le_of_ble_eq_true rfl) ?_
  intro p e s m args below meth c A hc ho hmn
  refine j_iload_n hc dX4_service_0 rfl ?_
  refine j_callS hc ho (c_X4_checkAccount hl) sc_X4_109 rfl ⟨rfl, rfl, by decide, by decide⟩ rfl (Nat.le_of_ble_eq_true rfl) ⟨by decide, by decide⟩ dX4_service_1 ⟨by decide, by decide⟩ (fun E9 h9 => ⟨by simp only [e_service, ck_some h9], rfl⟩) (fun hr1 => ?_)
  have hre : (((e_service n E x).1, some (.int (e_service n E x).2.1), WD ad cs n (e_service n E x).2.2 S o) : Rs) = (none, some (.int (e_svc n E x 30 0 2)), WD ad cs n E S o) := by simp only [e_service, ck_none hr1]
  rw [hre]
  have loop : ∀ (k i : Nat) (c0 : Int32), i + k = 30 → e_svc n E x 30 0 2 = e_svc n E x k i c0 → J p l e (RM 7 8 64) s m args below meth c D A 5 1 6 (QE below args s D A 8 64 (WD ad cs n E S o) (none, some (.int (e_svc n E x 30 0 2)), WD ad cs n E S o)) (WD ad cs n E S o) 8 [(0, .ref (ad 0)), (1, .int x), (2, .int c0), (3, .int (nI i))] [] := by
    intro k
    induction k with
    | zero =>
      intro i c0 hi hd
      refine j_iload_n hc dX4_service_8 rfl ?_
      refine j_aload_n hc dX4_service_9 rfl ?_
      refine gf_X4_40 hc dX4_service_10 ?_
      refine ln_row hc dX4_service_13 ?_
      refine j_icmp_ge hc 55 dX4_service_14 (by decide) (fun h14 => ?_) (fun h14 => by exact absurd h14 (fun z => z (nI_le (a := 30) (by omega) (by omega))))
      refine j_iload_n hc dX4_service_55 rfl ?_
      exact j_iret hc rfl (by decide) (by decide) (by rw [hd]; rfl) dX4_service_56
    | succ k ih =>
      intro i c0 hi hd
      refine j_iload_n hc dX4_service_8 rfl ?_
      refine j_aload_n hc dX4_service_9 rfl ?_
      refine gf_X4_40 hc dX4_service_10 ?_
      refine ln_row hc dX4_service_13 ?_
      refine j_icmp_ge hc 55 dX4_service_14 (by decide) (fun h14 => by exact absurd h14 (nI_ge (b := 30) (by omega) (by omega))) (fun h14 => ?_)
      refine j_aload_n hc dX4_service_17 rfl ?_
      refine gf_X4_40 hc dX4_service_18 ?_
      refine j_iload_n hc dX4_service_21 rfl ?_
      by_cases hb : i < n
      · refine al_row hc hb hn30 rfl dX4_service_22 ?_
        refine j_astore hc dX4_service_23 rfl ?_
        refine j_aload hc dX4_service_25 rfl ?_
        refine j_ifnull hc dX4_service_27 ?_
        refine j_aload hc dX4_service_30 rfl ?_
        refine gf_X4_184 hc hb dX4_service_32 ?_
        refine j_iload_n hc dX4_service_35 rfl ?_
        refine j_icmp_ne hc 49 dX4_service_36 (by decide) (fun h36 => ?_) (fun h36 => ?_)
        · -- if_neg h36
          refine j_inc hc dX4_service_49 rfl (z := 1) (by decide) rfl ?_
          refine j_goto hc 8 dX4_service_52 (by decide) ?_
          refine j_lv [(0, .ref (ad 0)), (1, .int x), (2, .int _), (3, .int (nI i + 1))] ⟨rfl, rfl, rfl, rfl, trivial⟩ ?_
          rw [nI_1]
          exact ih (i + 1) _ (by omega) (by rw [hd]; simp only [e_svc, if_neg h14, if_pos hb, if_neg h36])
        · -- if_pos h36
          refine j_iload_n hc dX4_service_39 rfl ?_
          refine j_aload hc dX4_service_40 rfl ?_
          refine j_callS hc ho (c_X4_serviceWith hl hb) sc_X4_187 rfl ⟨rfl, rfl, by decide, by decide⟩ rfl (Nat.le_of_ble_eq_true rfl) ⟨by decide, by decide⟩ dX4_service_42 ⟨by decide, by decide⟩ (fun _ h => by cases h) (fun hr42 => ?_)
          refine j_min_X4_191 hc (by decide) (Nat.le_of_ble_eq_true rfl) (by decide) (by decide) dX4_service_45 ?_
          refine j_istore_n hc dX4_service_48 rfl ?_
          refine j_inc hc dX4_service_49 rfl (z := 1) (by decide) rfl ?_
          refine j_goto hc 8 dX4_service_52 (by decide) ?_
          refine j_lv [(0, .ref (ad 0)), (1, .int x), (2, .int _), (3, .int (nI i + 1))] ⟨rfl, rfl, rfl, rfl, trivial⟩ ?_
          rw [nI_1]
          exact ih (i + 1) _ (by omega) (by rw [hd]; simp only [e_svc, if_neg h14, if_pos hb, if_pos h36])
      · refine al_rowN hc hb (by omega) rfl dX4_service_22 ?_
        refine j_astoreN hc dX4_service_23 rfl ?_
        refine j_aloadN hc dX4_service_25 rfl ?_
        refine j_ifnullN hc 49 dX4_service_27 (by decide) ?_
        refine j_inc hc dX4_service_49 rfl (z := 1) (by decide) rfl ?_
        refine j_goto hc 8 dX4_service_52 (by decide) ?_
        refine j_lv [(0, .ref (ad 0)), (1, .int x), (2, .int _), (3, .int (nI i + 1))] ⟨rfl, rfl, rfl, rfl, trivial⟩ ?_
        rw [nI_1]
        exact ih (i + 1) _ (by omega) (by rw [hd]; simp only [e_svc, if_neg h14, if_neg hb])
  refine j_iconst hc (v := 2) dX4_service_4 (by decide) ?_
  refine j_istore_n hc dX4_service_5 rfl ?_
  refine j_iconst hc (v := 0) dX4_service_6 (by decide) ?_
  refine j_istore_n hc dX4_service_7 rfl ?_
  refine j_lv [(0, .ref (ad 0)), (1, .int x), (2, .int 2), (3, .int 0)] ⟨rfl, rfl, rfl, rfl, trivial⟩ ?_
  exact loop 30 0 2 (by omega) rfl
set_option maxRecDepth 100000 in
set_option maxHeartbeats 4000000 in
theorem c_X4_leftIn {l : Launch} {D : va_G} {cs : Nat → ClassId} {sa : Nat → Nat} (hl : l.stackTraces = false)  {ad : Nat → Nat} {n : Nat} {E : ES} {S : MS} {o : Nat → Int64} (hn30 : n ≤ 30) {x y : Int32} : CM l D cs sa yX4_leftIn cX4_leftIn 6 (Option.some Jvm.ClassFile.FieldType.int) (RM 7 8 64) 8 64 [.ref (ad 0), .int x, .int y] (WD ad cs n E S o) ((e_leftIn n E x y).1, some (.int (e_leftIn n E x y).2.1), WD ad cs n (e_leftIn n E x y).2.2 S o) := by
  refine CM.of RX4 hl (by decide +kernel) rfl (Nat.le_of_ble_eq_true rfl) ?_
  intro p e s m args below meth c A hc ho hmn
  refine j_iload_n hc dX4_leftIn_0 rfl ?_
  refine j_callS hc ho (c_X4_checkAccount hl) sc_X4_109 rfl ⟨rfl, rfl, by decide, by decide⟩ rfl (Nat.le_of_ble_eq_true rfl) ⟨by decide, by decide⟩ dX4_leftIn_1 ⟨by decide, by decide⟩ (fun E9 h9 => ⟨by simp only [e_leftIn, ck_some h9], rfl⟩) (fun hr1 => ?_)
  refine j_iload_n hc dX4_leftIn_4 rfl ?_
  refine j_iconst hc (v := 0) dX4_leftIn_5 (by decide) ?_
  refine j_bipush hc (v := 6) dX4_leftIn_6 (by decide) ?_
  refine j_callS hc ho (c_X4_checkRange hl) sc_X4_86 rfl ⟨rfl, rfl, by decide, by decide⟩ rfl (Nat.le_of_ble_eq_true rfl) ⟨by decide, by decide⟩ dX4_leftIn_8 ⟨by decide, by decide⟩ (fun E9 h9 => ⟨by simp only [e_leftIn, ck_none hr1, ck_some h9], rfl⟩) (fun hr8 => ?_)
  have hre : (((e_leftIn n E x y).1, some (.int (e_leftIn n E x y).2.1), WD ad cs n (e_leftIn n E x y).2.2 S o) : Rs) = (none, some (.int (e_lin n E x y 30 0 0)), WD ad cs n E S o) := by simp only [e_leftIn, ck_none hr1, ck_none hr8]
  rw [hre]
  have loop : ∀ (k i : Nat) (c0 : Int32), i + k = 30 → e_lin n E x y 30 0 0 = e_lin n E x y k i c0 → J p l e (RM 7 8 64) s m args below meth c D A 6 2 12 (QE below args s D A 8 64 (WD ad cs n E S o) (none, some (.int (e_lin n E x y 30 0 0)), WD ad cs n E S o)) (WD ad cs n E S o) 16 [(0, .ref (ad 0)), (1, .int x), (2, .int y), (3, .int c0), (4, .int (nI i))] [] := by
    intro k
    induction k with
    | zero =>
      intro i c0 hi hd
      refine j_iload hc dX4_leftIn_16 rfl ?_
      refine j_aload_n hc dX4_leftIn_18 rfl ?_
      refine gf_X4_40 hc dX4_leftIn_19 ?_
      refine ln_row hc dX4_leftIn_22 ?_
      refine j_icmp_ge hc 72 dX4_leftIn_23 (by decide) (fun h23 => ?_) (fun h23 => by exact absurd h23 (fun z => z (nI_le (a := 30) (by omega) (by omega))))
      refine j_iload_n hc dX4_leftIn_72 rfl ?_
      exact j_iret hc rfl (by decide) (by decide) (by rw [hd]; rfl) dX4_leftIn_73
    | succ k ih =>
      intro i c0 hi hd
      refine j_iload hc dX4_leftIn_16 rfl ?_
      refine j_aload_n hc dX4_leftIn_18 rfl ?_
      refine gf_X4_40 hc dX4_leftIn_19 ?_
      refine ln_row hc dX4_leftIn_22 ?_
      refine j_icmp_ge hc 72 dX4_leftIn_23 (by decide) (fun h23 => by exact absurd h23 (nI_ge (b := 30) (by omega) (by omega))) (fun h23 => ?_)
      refine j_aload_n hc dX4_leftIn_26 rfl ?_
      refine gf_X4_40 hc dX4_leftIn_27 ?_
      refine j_iload hc dX4_leftIn_30 rfl ?_
      by_cases hb : i < n
      · refine al_row hc hb hn30 rfl dX4_leftIn_32 ?_
        refine j_astore hc dX4_leftIn_33 rfl ?_
        refine j_aload hc dX4_leftIn_35 rfl ?_
        refine j_ifnull hc dX4_leftIn_37 ?_
        refine j_aload hc dX4_leftIn_40 rfl ?_
        refine gf_X4_184 hc hb dX4_leftIn_42 ?_
        refine j_iload_n hc dX4_leftIn_45 rfl ?_
        refine j_icmp_ne hc 66 dX4_leftIn_46 (by decide) (fun h46 => ?_) (fun h46 => ?_)
        · -- if_neg h46
          refine j_inc hc dX4_leftIn_66 rfl (z := 1) (by decide) rfl ?_
          refine j_goto hc 16 dX4_leftIn_69 (by decide) ?_
          refine j_lv [(0, .ref (ad 0)), (1, .int x), (2, .int y), (3, .int _), (4, .int (nI i + 1))] ⟨rfl, rfl, rfl, rfl, rfl, trivial⟩ ?_
          rw [nI_1]
          exact ih (i + 1) _ (by omega) (by rw [hd]; simp only [e_lin, if_neg h23, if_pos hb, if_neg h46])
        · -- if_pos h46
          refine j_aload hc dX4_leftIn_49 rfl ?_
          refine gf_X4_133 hc hb dX4_leftIn_51 ?_
          refine j_iload_n hc dX4_leftIn_54 rfl ?_
          refine j_icmp_ne hc 66 dX4_leftIn_55 (by decide) (fun h55 => ?_) (fun h55 => ?_)
          · -- if_neg h55
            refine j_inc hc dX4_leftIn_66 rfl (z := 1) (by decide) rfl ?_
            refine j_goto hc 16 dX4_leftIn_69 (by decide) ?_
            refine j_lv [(0, .ref (ad 0)), (1, .int x), (2, .int y), (3, .int _), (4, .int (nI i + 1))] ⟨rfl, rfl, rfl, rfl, rfl, trivial⟩ ?_
            rw [nI_1]
            exact ih (i + 1) _ (by omega) (by rw [hd]; simp only [e_lin, if_neg h23, if_pos hb, if_pos h46, if_neg h55])
          · -- if_pos h55
            refine j_iload_n hc dX4_leftIn_58 rfl ?_
            refine j_aload hc dX4_leftIn_59 rfl ?_
            refine gf_X4_138 hc hb dX4_leftIn_61 ?_
            refine j_iadd hc dX4_leftIn_64 ?_
            refine j_istore_n hc dX4_leftIn_65 rfl ?_
            refine j_inc hc dX4_leftIn_66 rfl (z := 1) (by decide) rfl ?_
            refine j_goto hc 16 dX4_leftIn_69 (by decide) ?_
            refine j_lv [(0, .ref (ad 0)), (1, .int x), (2, .int y), (3, .int _), (4, .int (nI i + 1))] ⟨rfl, rfl, rfl, rfl, rfl, trivial⟩ ?_
            rw [nI_1]
            exact ih (i + 1) _ (by omega) (by rw [hd]; simp only [e_lin, if_neg h23, if_pos hb, if_pos h46, if_pos h55])
      · refine al_rowN hc hb (by omega) rfl dX4_leftIn_32 ?_
        refine j_astoreN hc dX4_leftIn_33 rfl ?_
        refine j_aloadN hc dX4_leftIn_35 rfl ?_
        refine j_ifnullN hc 66 dX4_leftIn_37 (by decide) ?_
        refine j_inc hc dX4_leftIn_66 rfl (z := 1) (by decide) rfl ?_
        refine j_goto hc 16 dX4_leftIn_69 (by decide) ?_
        refine j_lv [(0, .ref (ad 0)), (1, .int x), (2, .int y), (3, .int _), (4, .int (nI i + 1))] ⟨rfl, rfl, rfl, rfl, rfl, trivial⟩ ?_
        rw [nI_1]
        exact ih (i + 1) _ (by omega) (by rw [hd]; simp only [e_lin, if_neg h23, if_neg hb])
  refine j_iconst hc (v := 0) dX4_leftIn_11 (by decide) ?_
  refine j_istore_n hc dX4_leftIn_12 rfl ?_
  refine j_iconst hc (v := 0) dX4_leftIn_13 (by decide) ?_
  refine j_istore hc dX4_leftIn_14 rfl ?_
  refine j_lv [(0, .ref (ad 0)), (1, .int x), (2, .int y), (3, .int 0), (4, .int 0)] ⟨rfl, rfl, rfl, rfl, rfl, trivial⟩ ?_
  exact loop 30 0 0 (by omega) rfl
end
