section
-- ===== PART A: goes FIRST, ahead of the names: the tables' words, and 'selects' of the private methods out of them =====
/-- a private method of a class that the tables say can be made, by its rows of tables_1 -/
def lw_okq (q : MethodName × Nat) : Prop := (q.1.cls ≠ "java/lang/invoke/MethodHandle" ∧ q.1.cls ≠ "java/lang/invoke/VarHandle") ∧ Cond.instantiable q.1.cls q.2 ∈ tables_1 ∧ Cond.privateMethod q.1 ∈ tables_1 ∧ Cond.instanceMethod q.1 ∈ tables_1
theorem lw_p0 : lw_okq (⟨"java/lang/Throwable", "fillInStackTrace", "(I)Ljava/lang/Throwable;"⟩, 6) := ⟨⟨by decide +kernel, by decide +kernel⟩, List.mem_of_getElem? (i := 160) (by decide +kernel), List.mem_of_getElem? (i := 158) (by decide +kernel), List.mem_of_getElem? (i := 159) (by decide +kernel)⟩
theorem lw_p1 : lw_okq (⟨"CollectionsEngine", "enter", "(LCollectionsEngine$Bill;II)V"⟩, 12) := ⟨⟨by decide +kernel, by decide +kernel⟩, List.mem_of_getElem? (i := 15) (by decide +kernel), List.mem_of_getElem? (i := 304) (by decide +kernel), List.mem_of_getElem? (i := 305) (by decide +kernel)⟩
theorem lw_p2 : lw_okq (⟨"CollectionsEngine", "failUnansweredTries", "()V"⟩, 12) := ⟨⟨by decide +kernel, by decide +kernel⟩, List.mem_of_getElem? (i := 15) (by decide +kernel), List.mem_of_getElem? (i := 317) (by decide +kernel), List.mem_of_getElem? (i := 318) (by decide +kernel)⟩
theorem lw_p3 : lw_okq (⟨"CollectionsEngine", "fail", "(LCollectionsEngine$Bill;I)V"⟩, 12) := ⟨⟨by decide +kernel, by decide +kernel⟩, List.mem_of_getElem? (i := 15) (by decide +kernel), List.mem_of_getElem? (i := 321) (by decide +kernel), List.mem_of_getElem? (i := 322) (by decide +kernel)⟩
theorem lw_p4 : lw_okq (⟨"CollectionsEngine", "lookAtBills", "()I"⟩, 12) := ⟨⟨by decide +kernel, by decide +kernel⟩, List.mem_of_getElem? (i := 15) (by decide +kernel), List.mem_of_getElem? (i := 329) (by decide +kernel), List.mem_of_getElem? (i := 330) (by decide +kernel)⟩
theorem lw_p5 : lw_okq (⟨"CollectionsEngine", "lookAt", "(LCollectionsEngine$Bill;)Z"⟩, 12) := ⟨⟨by decide +kernel, by decide +kernel⟩, List.mem_of_getElem? (i := 15) (by decide +kernel), List.mem_of_getElem? (i := 333) (by decide +kernel), List.mem_of_getElem? (i := 334) (by decide +kernel)⟩
theorem lw_p6 : lw_okq (⟨"CollectionsEngine", "beginTry", "(LCollectionsEngine$Bill;)Z"⟩, 12) := ⟨⟨by decide +kernel, by decide +kernel⟩, List.mem_of_getElem? (i := 15) (by decide +kernel), List.mem_of_getElem? (i := 337) (by decide +kernel), List.mem_of_getElem? (i := 338) (by decide +kernel)⟩
theorem lw_p7 : lw_okq (⟨"CollectionsEngine", "breakPromise", "(LCollectionsEngine$Bill;)V"⟩, 12) := ⟨⟨by decide +kernel, by decide +kernel⟩, List.mem_of_getElem? (i := 15) (by decide +kernel), List.mem_of_getElem? (i := 342) (by decide +kernel), List.mem_of_getElem? (i := 343) (by decide +kernel)⟩
theorem lw_p8 : lw_okq (⟨"CollectionsEngine", "findBill", "(I)LCollectionsEngine$Bill;"⟩, 12) := ⟨⟨by decide +kernel, by decide +kernel⟩, List.mem_of_getElem? (i := 15) (by decide +kernel), List.mem_of_getElem? (i := 372) (by decide +kernel), List.mem_of_getElem? (i := 373) (by decide +kernel)⟩
theorem lw_p9 : lw_okq (⟨"CollectionsEngine", "takePayment", "(LCollectionsEngine$Bill;I)V"⟩, 12) := ⟨⟨by decide +kernel, by decide +kernel⟩, List.mem_of_getElem? (i := 15) (by decide +kernel), List.mem_of_getElem? (i := 378) (by decide +kernel), List.mem_of_getElem? (i := 379) (by decide +kernel)⟩
def lw_privs_1 : List (MethodName × Nat) := [(⟨"java/lang/Throwable", "fillInStackTrace", "(I)Ljava/lang/Throwable;"⟩, 6), (⟨"CollectionsEngine", "enter", "(LCollectionsEngine$Bill;II)V"⟩, 12), (⟨"CollectionsEngine", "failUnansweredTries", "()V"⟩, 12), (⟨"CollectionsEngine", "fail", "(LCollectionsEngine$Bill;I)V"⟩, 12), (⟨"CollectionsEngine", "lookAtBills", "()I"⟩, 12), (⟨"CollectionsEngine", "lookAt", "(LCollectionsEngine$Bill;)Z"⟩, 12), (⟨"CollectionsEngine", "beginTry", "(LCollectionsEngine$Bill;)Z"⟩, 12), (⟨"CollectionsEngine", "breakPromise", "(LCollectionsEngine$Bill;)V"⟩, 12), (⟨"CollectionsEngine", "findBill", "(I)LCollectionsEngine$Bill;"⟩, 12), (⟨"CollectionsEngine", "takePayment", "(LCollectionsEngine$Bill;I)V"⟩, 12)]
theorem lw_r1 : ∀ q ∈ lw_privs_1, lw_okq q := List.forall_mem_cons.mpr ⟨lw_p0, List.forall_mem_cons.mpr ⟨lw_p1, List.forall_mem_cons.mpr ⟨lw_p2, List.forall_mem_cons.mpr ⟨lw_p3, List.forall_mem_cons.mpr ⟨lw_p4, List.forall_mem_cons.mpr ⟨lw_p5, List.forall_mem_cons.mpr ⟨lw_p6, List.forall_mem_cons.mpr ⟨lw_p7, List.forall_mem_cons.mpr ⟨lw_p8, List.forall_mem_cons.mpr ⟨lw_p9, fun _ h => absurd h List.not_mem_nil⟩⟩⟩⟩⟩⟩⟩⟩⟩⟩
def lw_privs : List (MethodName × Nat) := lw_privs_1
def lw_tbl : List Cond := k2_sels lw_privs ++ tables_1
theorem lw_privs_ok : ∀ q ∈ lw_privs, lw_okq q := lw_r1
end
section
/-! ===== BEGIN words of one list among another's, by their places ===== -/
theorem goodIn_r {big : List Cond} (ws : List Cond) (ps : List Nat) (hp : ws = ps.filterMap (fun i => big[i]?)) (h : ws.all goodWord = true) : GoodIn big ws := by
  intro w hw
  have h1 := List.all_eq_true.mp h w hw
  rw [hp] at hw
  obtain ⟨i, -, hi⟩ := List.mem_filterMap.mp hw
  have hm : w ∈ big := by first | exact List.mem_of_getElem? hi | exact List.getElem?_mem hi
  exact ⟨hm, good_of_word h1⟩
theorem goodIn_app {big a b : List Cond} (ha : GoodIn big a) (hb : GoodIn big b) : GoodIn big (a ++ b) := fun w h => (List.mem_append.mp h).elim (ha w) (hb w)
theorem goodIn_ca {big a b : List Cond} {c : Cond} (ha : GoodIn big (c :: a)) (hb : GoodIn big b) : GoodIn big (c :: (a ++ b)) := fun w h => (List.mem_cons.mp h).elim (fun e => ha w (List.mem_cons.mpr (Or.inl e))) (fun h => (List.mem_append.mp h).elim (fun h => ha w (List.mem_cons.mpr (Or.inr h))) (hb w))
theorem goodIn_sub {big ws : List Cond} (hm : ∀ w ∈ ws, w ∈ big) (h : ws.all goodWord = true) : GoodIn big ws := fun w hw => ⟨hm w hw, good_of_word (List.all_eq_true.mp h w hw)⟩
/-! ===== END ===== -/

/-! ===== BEGIN exceptions that leave a method, and their catching by the caller (launches without stack traces) ===== -/
section VXA
/-! The laws vx_back, vx_callV, vx_callS, vx_callSW, vx_throw0, vx_throwS follow proofs of the library, with one case more: JvmDerived/Free/Laws.lean (Back.of_free), Shelf42/LK1.lean (callV, callS), Shelf/KitTraced.lean (throwNew0V, throwNewS). -/
/-- where a method has thrown q: the class by its name, the cell, what was written, the world -/
def vx_T (XC : String → State → State → Prop) (st : State) (q : Addr) (t : State) (mc ms : Nat) (free : Addr → Prop) : Prop :=
  ∃ (E : String) (ce : Cell) (L : List Loc), XC E st t ∧ t.heap[q]? = some ce ∧ ce.vm = .none ∧ st.vm.findClass E = some ce.cls ∧ st.WarmedH t.vm ∧ st.sameButNew ({ t with vm := st.vm } : State) L mc ms ∧ ∀ z ∈ L, free z.base
def vx_Q (Qc : Array Value → State → Outcome → State → Prop) (XC : String → State → State → Prop) (mc ms : Nat) (free : Addr → Prop) : Array Value → State → Outcome → State → Prop := fun a st o t =>
  (Qc a st o t ∧ ∃ L, FrameEnd st o t L mc ms ∧ ∀ q ∈ L, free q.base) ∨ ∃ q, o = .threw q ∧ vx_T XC st q t mc ms free
/-- a callee that returns or throws -/
def vx_Met (l : Launch) (y : MethodName) (ws : List Cond) (rm : Room) (Pc : Array Value → State → Prop) (Qc : Array Value → State → Outcome → State → Prop) (XC : String → State → State → Prop) (mc ms : Nat) (free : Addr → Prop) : Prop :=
  MetFree l y (headSpec ws rm) Pc (fun _ _ _ _ _ => True) (vx_Q Qc XC mc ms free)
def vx_Post (XC : String → State → State → Prop) (mc ms : Nat) (free : Addr → Prop) : Pt → Array Value → Addr → Pt → Prop := fun A a q B =>
  ∃ (g : JFrame) (mk : MethodId) (t : State) (L : List Loc) (E : String) (ce : Cell), B.U.heap = t.heap ∧ B.U.vm = t.vm ∧ XC E (A.U.calling g mk a) t ∧ t.heap[q]? = some ce ∧ ce.vm = .none ∧ A.U.vm.findClass E = some ce.cls ∧ B.locs = A.locs ++ L ∧ (∀ z ∈ L, free z.base) ∧ B.cells = A.cells + mc ∧ B.slots = A.slots + ms
def vx_Back (l : Launch) (R : Room) (p : Program) (e : Env) (below : List Frame) (s : State) (sargs : Array Value) (y : MethodName) (len W9 : Nat)
    (Pre : Pt → Array Value → Prop) (Post : Pt → Array Value → Option Value → Pt → Prop) (PostX : Pt → Array Value → Addr → Pt → Prop) : Prop :=
  ∀ (m : MethodId) (meth : Method) (c : Code) (A : Pt) (g : JFrame) (ig : Instr) (mk : MethodId) (a : Array Value),
    Stand p l e R s m sargs below meth c A.U A.locs A.cells A.slots → g.method = m → g.locals.size = c.maxLocals → decode c.code g.pc = .ok (ig, len) →
    2 * g.monitorRoom + (g.stack.map fun v => v.category).sum ≤ W9 → A.U.methodNamed? y = some mk → Pre A a →
    (∃ (v : Option Value) (B : Pt), Stand p l e R s m sargs below meth c B.U B.locs B.cells B.slots ∧ Post A a v B ∧
      Steps p.tables e below (doInvoke e (A.U.setTop g) [] mk a).1 (B.U.setTop { g with pc := g.pc + len, stack := v.toList ++ g.stack })) ∨
    (∃ (q : Addr) (B : Pt), Stand p l e R s m sargs below meth c B.U B.locs B.cells B.slots ∧ PostX A a q B ∧
      Steps p.tables e below (doInvoke e (A.U.setTop g) [] mk a).1 ((B.U.setTop g).pushFrame (.throwing q)))
section Payer
variable {l : Launch} {R : Room} {p : Program} {e : Env} {below : List Frame} {s : State} {sargs : Array Value} {y : MethodName} {len W9 : Nat}
theorem vx_back {ws : List Cond} {rm : Room} {Pc : Array Value → State → Prop} {Qc : Array Value → State → Outcome → State → Prop} {XC : String → State → State → Prop} {mc ms : Nat} {free : Addr → Prop} {bytes : ByteArray} {maxL : Nat} {ret : Option FieldType}
    (hM : vx_Met l y ws rm Pc Qc XC mc ms free) (hblind : FrameBlind Pc) (hrc : rm.cells = mc) (hrs : rm.slots = ms)
    (hframes : rm.frames + 1 ≤ R.frames) (hlocals : W9 + (maxL + 11) + rm.locals ≤ R.locals)
    (hws : ∀ w ∈ ws, ∀ a' U, s.WarmedH U.vm → w.before a' U = true) (hcode : Cond.code y bytes maxL ret ∈ ws) (hinit : ∀ a' U, s.WarmedH U.vm → (Cond.initialized y.cls).before a' U = true) :
    vx_Back l R p e below s sargs y len W9 (PreOf R mc ms Pc) (PostOf Qc mc ms free) (vx_Post XC mc ms free) := by
  intro m meth c A g ig mk a X hg hsize hdg hW hn hp
  have h1 : (headSpec ws rm).pre.before a A.U = true := atoms_intro fun w hw => hws w hw _ _ X.warmed
  have h2 : (Cond.code y bytes maxL ret).before a A.U = true := hws _ hcode _ _ X.warmed
  have h3 : (Cond.initialized y.cls).before a A.U = true := hinit _ _ X.warmed
  have h4 : A.cells + (headSpec ws rm).room.cells ≤ R.cells := by rw [show (headSpec ws rm).room.cells = mc from hrc]; exact hp.1
  have h5 : A.slots + (headSpec ws rm).room.slots ≤ R.slots := by rw [show (headSpec ws rm).room.slots = ms from hrs]; exact hp.2.1
  have hPc : Pc a (A.U.calling g mk a) := hblind _ _ _ _ hp.2.2
  obtain ⟨U, Ls, c0, s0⟩ := A
  dsimp only [Pt.U, Pt.locs, Pt.cells, Pt.slots] at h1 h2 h3 h4 h5 X hn hPc ⊢
  obtain ⟨methY, cY, hmY, hcY, -, hlY, -, -, -, -⟩ := Cond.code_spec hn h2
  obtain ⟨kY, hkY, -⟩ := className_of_methodNamed hn
  have hinitY : kY.init = .initialized := Cond.initialized_spec (findClass_of_methodNamed hn) hkY h3
  have h : At U g.method c below := by rw [hg]; exact X.here
  have hlocals9 : W9 + (maxL + 11) + (headSpec ws rm).room.locals ≤ R.locals := hlocals
  have happ : (headSpec ws rm).appliesLoose y e.platform (U.calling g mk a) = true :=
    Spec.appliesLoose_calling (g := g) h hdg hn hkY hinitY
      (X.room_calling (g := g) (R' := (headSpec ws rm).room) hsize hmY hcY hframes (by rw [hlY]; omega) h4 h5) h1
  obtain ⟨mid, hmid⟩ := h.above
  have hfr : (U.setTop g).frames = (.java g :: mid) ++ below := by rw [State.frames_setTop' g h.top, hmid]; rfl
  obtain ⟨o, s₂, hsteps, -, hend, hq⟩ := Steps.callFree hM p X.admits X.cas X.clock (acts := []) hfr happ hPc trivial
  have hq' : vx_Q Qc XC mc ms free a (U.calling g mk a) o s₂ := hq
  rw [State.frames_setTop' g h.top] at hend
  obtain ⟨g₀, hg0⟩ := Option.isSome_iff_exists.mp h.top
  obtain ⟨r, hr⟩ := State.topJava?_eq_some.mp hg0
  have hr' : (({ U with heap := s₂.heap, slotsUsed := s₂.slotsUsed } : State).setVm s₂.vm).frames = .java g₀ :: r := hr
  rcases hq' with ⟨hqc, L, hfe, hL⟩ | ⟨q, rfl, E, ce, L, hx, hce, hcv, hcl, hW₂, hsm, hL⟩
  · obtain ⟨⟨v, rfl⟩, hW₂, e2, q2, q3, q4, q5, q6⟩ := id hfe
    have e3 : s₂ = ({ (U.calling g mk a).setFrames s₂.frames with heap := s₂.heap, slotsUsed := s₂.slotsUsed } : State).setVm s₂.vm := by
      have : s₂ = ({ s₂ with vm := (U.calling g mk a).vm } : State).setVm s₂.vm := rfl
      rw [e2] at this
      exact this
    obtain ⟨c₂, i₂, len₂, hc₂, hd₂, hf₂⟩ := hend
    have hW' : U.WarmedH s₂.vm := hW₂
    have hcc : c₂ = c := by
      have h1 : s₂.code? g.method = U.code? g.method := by
        rw [State.code?_eq, State.code?_eq, hW'.alike.method?]
      exact Option.some.inj (hc₂.symm.trans (h1.trans h.code))
    subst hcc
    have hlen : len₂ = len := by rw [hdg] at hd₂; cases hd₂; rfl
    subst hlen
    have hs₂ : s₂ = (({ U with heap := s₂.heap, slotsUsed := s₂.slotsUsed } : State).setVm s₂.vm).setTop { g with pc := g.pc + len₂, stack := v.toList ++ g.stack } := by
      refine e3.trans ?_
      rw [hf₂, State.calling_eq h.top, State.setFrames_setFrames, State.setTop_of_frames _ hr', hr]
      rfl
    have hsame : U.sameButNew ({ U with heap := s₂.heap, slotsUsed := s₂.slotsUsed } : State) L mc ms := by
      refine ⟨?_, q2, q3, q4, q5, q6⟩
      obtain ⟨t, ht, -⟩ := State.frames_cons hr
      show ({ U with heap := s₂.heap, slotsUsed := s₂.slotsUsed } : State) = { U.setFrames U.frames with heap := s₂.heap, slotsUsed := s₂.slotsUsed }
      rw [State.setFrames_self ht]
    subst hg
    refine Or.inl ⟨v, ⟨(({ U with heap := s₂.heap, slotsUsed := s₂.slotsUsed } : State).setVm s₂.vm), Ls ++ L, c0 + mc, s0 + ms⟩,
      ⟨X.admits, X.cas, X.clock, X.frames, X.room, X.hears, X.method, X.code, (X.here.setHeapUsed s₂.heap s₂.slotsUsed).setVm hW'.alike, X.tail, State.WarmedH.trans X.warmed hW', X.limits, X.bytes, X.same.trans (hsame.setVm s.vm)⟩,
      ⟨g, mk, s₂, L, rfl, rfl, hqc, rfl, hL, rfl, rfl⟩, ?_⟩
    show Steps p.tables e below _ ((({ U with heap := s₂.heap, slotsUsed := s₂.slotsUsed } : State).setVm s₂.vm).setTop { g with pc := g.pc + len₂, stack := v.toList ++ g.stack })
    rw [← hs₂]
    exact hsteps
  · obtain ⟨e2, q2, q3, q4, q5, q6⟩ := id hsm
    have e3 : s₂ = ({ (U.calling g mk a).setFrames s₂.frames with heap := s₂.heap, slotsUsed := s₂.slotsUsed } : State).setVm s₂.vm := by
      have : s₂ = ({ s₂ with vm := (U.calling g mk a).vm } : State).setVm s₂.vm := rfl
      rw [e2] at this
      exact this
    have hf₂ : s₂.frames = .throwing q :: .java g :: U.frames.tail := hend
    have hW' : U.WarmedH s₂.vm := hW₂
    have hs₂ : s₂ = ((({ U with heap := s₂.heap, slotsUsed := s₂.slotsUsed } : State).setVm s₂.vm).setTop g).pushFrame (.throwing q) := by
      refine e3.trans ?_
      rw [hf₂, State.calling_eq h.top, State.setFrames_setFrames, State.pushFrame, State.frames_setTop _ hr', State.setTop_of_frames _ hr', State.setFrames_setFrames, hr]
      rfl
    have hsame : U.sameButNew ({ U with heap := s₂.heap, slotsUsed := s₂.slotsUsed } : State) L mc ms := by
      refine ⟨?_, q2, q3, q4, q5, q6⟩
      obtain ⟨t, ht, -⟩ := State.frames_cons hr
      show ({ U with heap := s₂.heap, slotsUsed := s₂.slotsUsed } : State) = { U.setFrames U.frames with heap := s₂.heap, slotsUsed := s₂.slotsUsed }
      rw [State.setFrames_self ht]
    subst hg
    refine Or.inr ⟨q, ⟨(({ U with heap := s₂.heap, slotsUsed := s₂.slotsUsed } : State).setVm s₂.vm), Ls ++ L, c0 + mc, s0 + ms⟩,
      ⟨X.admits, X.cas, X.clock, X.frames, X.room, X.hears, X.method, X.code, (X.here.setHeapUsed s₂.heap s₂.slotsUsed).setVm hW'.alike, X.tail, State.WarmedH.trans X.warmed hW', X.limits, X.bytes, X.same.trans (hsame.setVm s.vm)⟩,
      ⟨g, mk, s₂, L, E, ce, rfl, rfl, hx, hce, hcv, hcl, rfl, hL, rfl, rfl⟩, ?_⟩
    show Steps p.tables e below _ (((({ U with heap := s₂.heap, slotsUsed := s₂.slotsUsed } : State).setVm s₂.vm).setTop g).pushFrame (.throwing q))
    rw [← hs₂]
    exact hsteps
end Payer
section Calls
variable {p : Program} {l : Launch} {e : Env} {R : Room} {s : State} {m : MethodId} {args : Array Value} {below : List Frame} {meth : Method} {c : Code} {T : State} {locs : List Loc} {cells slots : Nat}
theorem vx_callV (X : Stand p l e R s m args below meth c T locs cells slots) (hexec : p.tables.exec = Jvm.exec) {own C : String} {index : Nat} {y : MethodName} {bytes : ByteArray} {maxL : Nat} {ret : Option FieldType}
    (hown : s.vm.findClass own = some m.cls) (hlink : (Cond.methodLink own index y).before args s = true) (hinst : (Cond.instanceMethod y).before args s = true) (hsel : (Cond.selects C y y).before args s = true)
    (hcode : (Cond.code y bytes maxL ret).before args s = true) (hy : y.cls ≠ "java/lang/invoke/MethodHandle" ∧ y.cls ≠ "java/lang/invoke/VarHandle")
    {W9 : Nat} {Pre : Pt → Array Value → Prop} {Post : Pt → Array Value → Option Value → Pt → Prop} {PostX : Pt → Array Value → Addr → Pt → Prop} (hK : vx_Back l R p e below s args y 3 W9 Pre Post PostX)
    {b : Addr} {cellB : Cell} (hcell : T.heap[b]? = some cellB) (hobj : cellB.vm.isStatics = false) (hcls : s.vm.findClass C = some cellB.cls)
    {g : JFrame} (hg : g.method = m) (hsize : g.locals.size = c.maxLocals) {argsL rest : List Value} (hlen : ∀ sig, parseMethodDescriptor y.desc = some sig → argsL.length = sig.parameters.length)
    (hstack : g.stack = argsL.reverse ++ .ref b :: rest) (hW : 2 * g.monitorRoom + (rest.map fun v => v.category).sum ≤ W9) (hdg : decode c.code g.pc = .ok (.invokevirtual index, 3))
    (hpre : ∀ vm₁, s.WarmedH vm₁ → Pre ⟨T.setVm vm₁, locs, cells, slots⟩ (Value.ref b :: argsL).toArray) :
    (∃ (v : Option Value) (vm₁ : Vm) (B : Pt), s.WarmedH vm₁ ∧ Stand p l e R s m args below meth c B.U B.locs B.cells B.slots ∧ Post ⟨T.setVm vm₁, locs, cells, slots⟩ (Value.ref b :: argsL).toArray v B ∧
      ∀ target, Steps p.tables e below (B.U.setTop { g with pc := g.pc + 3, stack := v.toList ++ rest }) target → Steps p.tables e below (T.setTop g) target) ∨
    (∃ (q : Addr) (vm₁ : Vm) (B : Pt), s.WarmedH vm₁ ∧ Stand p l e R s m args below meth c B.U B.locs B.cells B.slots ∧ PostX ⟨T.setVm vm₁, locs, cells, slots⟩ (Value.ref b :: argsL).toArray q B ∧
      Steps p.tables e below (T.setTop g) ((B.U.setTop { g with stack := rest }).pushFrame (.throwing q))) := by
  obtain ⟨mk, methM, hnamed, hmethM, hstM, habM⟩ := Cond.instanceMethod_spec hinst
  obtain ⟨methM', cM, hmethM', -, -, -, -, -, -, hsigM⟩ := Cond.code_spec hnamed hcode
  cases hmethM.symm.trans hmethM'
  obtain ⟨c2, r2, m2, q1, q2, q3, q4, kP, hkP, hkPi⟩ := Cond.selects_spec hsel
  cases hcls.symm.trans q1
  cases (State.methodFound?_of_named hnamed hy).symm.trans q2
  cases hnamed.symm.trans q3
  have hselP : selectMethod e.platform s.vm cellB.cls mk = .method mk := by rw [Launch.admits_selectMethod X.admits]; exact q4
  obtain ⟨vm₁, X₁, hstep₁⟩ := X.invokevirtual hexec hown hlink hnamed hmethM hstM hkP hkPi hy (a := b) (cell := cellB) hcell
    (fun z h => by rw [h] at hobj; cases hobj) hselP hmethM habM hkP hkPi (g := g) hg (argsL := argsL) (rest := rest) (hlen _ hsigM) hstack hdg
  rcases hK m meth c ⟨T.setVm vm₁, locs, cells, slots⟩ { g with stack := rest } (.invokevirtual index) mk (Value.ref b :: argsL).toArray X₁ hg hsize hdg hW (X₁.named hnamed) (hpre vm₁ X₁.warmed) with ⟨v, B, X', hpost, hsteps⟩ | ⟨q, B, X', hpost, hsteps⟩
  · exact Or.inl ⟨v, vm₁, B, X₁.warmed, X', hpost, fun target h => hstep₁ _ fun acts => by rw [doInvoke_state]; exact hsteps.trans h⟩
  · exact Or.inr ⟨q, vm₁, B, X₁.warmed, X', hpost, hstep₁ _ fun acts => by rw [doInvoke_state]; exact hsteps⟩
theorem vx_callS (X : Stand p l e R s m args below meth c T locs cells slots) (hexec : p.tables.exec = Jvm.exec) {own : String} {index : Nat} {y : MethodName} {bytes : ByteArray} {maxL : Nat} {ret : Option FieldType}
    (hown : s.vm.findClass own = some m.cls) (hlink : (Cond.methodLink own index y).before args s = true) (hstat : (Cond.static y).before args s = true) (hinit : (Cond.initialized y.cls).before args s = true)
    (hcode : (Cond.code y bytes maxL ret).before args s = true) (hy : y.cls ≠ "java/lang/invoke/MethodHandle" ∧ y.cls ≠ "java/lang/invoke/VarHandle")
    {W9 : Nat} {Pre : Pt → Array Value → Prop} {Post : Pt → Array Value → Option Value → Pt → Prop} {PostX : Pt → Array Value → Addr → Pt → Prop} (hK : vx_Back l R p e below s args y 3 W9 Pre Post PostX)
    {g : JFrame} (hg : g.method = m) (hsize : g.locals.size = c.maxLocals) {argsL rest : List Value} (hlen : ∀ sig, parseMethodDescriptor y.desc = some sig → argsL.length = sig.parameters.length)
    (hstack : g.stack = argsL.reverse ++ rest) (hW : 2 * g.monitorRoom + (rest.map fun v => v.category).sum ≤ W9) (hdg : decode c.code g.pc = .ok (.invokestatic index, 3))
    (hpre : ∀ vm₁, s.WarmedH vm₁ → Pre ⟨T.setVm vm₁, locs, cells, slots⟩ argsL.toArray) :
    (∃ (v : Option Value) (vm₁ : Vm) (B : Pt), s.WarmedH vm₁ ∧ Stand p l e R s m args below meth c B.U B.locs B.cells B.slots ∧ Post ⟨T.setVm vm₁, locs, cells, slots⟩ argsL.toArray v B ∧
      ∀ target, Steps p.tables e below (B.U.setTop { g with pc := g.pc + 3, stack := v.toList ++ rest }) target → Steps p.tables e below (T.setTop g) target) ∨
    (∃ (q : Addr) (vm₁ : Vm) (B : Pt), s.WarmedH vm₁ ∧ Stand p l e R s m args below meth c B.U B.locs B.cells B.slots ∧ PostX ⟨T.setVm vm₁, locs, cells, slots⟩ argsL.toArray q B ∧
      Steps p.tables e below (T.setTop g) ((B.U.setTop { g with stack := rest }).pushFrame (.throwing q))) := by
  obtain ⟨mk, hnamed⟩ := Cond.code_named hcode
  obtain ⟨methM, cM, hmethM, -, -, -, -, -, -, hsigM⟩ := Cond.code_spec hnamed hcode
  have hstatic : methM.isStatic = true := Cond.static_spec hnamed hmethM hstat
  obtain ⟨kP, hkP, -⟩ := className_of_methodNamed hnamed
  have hinitP : kP.init = .initialized := Cond.initialized_spec (findClass_of_methodNamed hnamed) hkP hinit
  obtain ⟨vm₁, X₁, hstep₁⟩ := X.invokestatic hexec hown hlink hnamed hmethM hstatic hkP hinitP hy (g := g) hg (argsL := argsL) (rest := rest) (hlen _ hsigM) hstack hdg
  rcases hK m meth c ⟨T.setVm vm₁, locs, cells, slots⟩ { g with stack := rest } (.invokestatic index) mk argsL.toArray X₁ hg hsize hdg hW (X₁.named hnamed) (hpre vm₁ X₁.warmed) with ⟨v, B, X', hpost, hsteps⟩ | ⟨q, B, X', hpost, hsteps⟩
  · exact Or.inl ⟨v, vm₁, B, X₁.warmed, X', hpost, fun target h => hstep₁ _ fun acts => by rw [doInvoke_state]; exact hsteps.trans h⟩
  · exact Or.inr ⟨q, vm₁, B, X₁.warmed, X', hpost, hstep₁ _ fun acts => by rw [doInvoke_state]; exact hsteps⟩
end Calls
theorem vx_cls {s : State} {T : State} {vm₁ : Vm} {E : String} {k : ClassId} (hW : s.WarmedH vm₁) (h : (T.setVm vm₁).vm.findClass E = some k) : s.vm.findClass E = some k := by
  have h1 : vm₁.findClass E = some k := h
  rw [hW.alike.findClass] at h1
  exact h1
/-- the method's frame g, with q thrown over it -/
def vx_W (p : Program) (l : Launch) (e : Env) (R : Room) (s : State) (m : MethodId) (args : Array Value) (below : List Frame) (meth : Method) (c : Code) (H : Heap) (locs : List Loc) (cells slots : Nat) (Q : State → Prop) (g : JFrame) (q : Addr) : Prop :=
  ∀ T : State, T.heap = H → Stand p l e R s m args below meth c T locs cells slots → ∃ t, Steps p.tables e below ((T.setTop g).pushFrame (.throwing q)) t ∧ Q t
def vx_Run (p : Program) (l : Launch) (e : Env) (R : Room) (s : State) (m : MethodId) (args : Array Value) (below : List Frame) (meth : Method) (c : Code) (H : Heap) (locs : List Loc) (cells slots mc ms : Nat) (g : JFrame) (rest : List Value) (Qa : State → Outcome → State → Prop) (XC : String → State → State → Prop) (free : Addr → Prop) : Prop :=
  ∀ T : State, T.heap = H → Stand p l e R s m args below meth c T locs cells slots →
    (∃ (v : Option Value) (st₀ t T' : State) (L : List Loc), st₀.heap = H ∧ Stand p l e R s m args below meth c T' (locs ++ L) (cells + mc) (slots + ms) ∧ (∀ q ∈ L, free q.base) ∧ T'.heap = t.heap ∧ T'.vm = t.vm ∧ Qa st₀ (.returned v) t ∧
      Goes p e below T g T' { g with pc := g.pc + 3, stack := v.toList ++ rest }) ∨
    (∃ (q : Addr) (st₀ t T' : State) (L : List Loc) (E : String) (ce : Cell), st₀.heap = H ∧ Stand p l e R s m args below meth c T' (locs ++ L) (cells + mc) (slots + ms) ∧ (∀ z ∈ L, free z.base) ∧ T'.heap = t.heap ∧ T'.vm = t.vm ∧ XC E st₀ t ∧ t.heap[q]? = some ce ∧ ce.vm = .none ∧ s.vm.findClass E = some ce.cls ∧
      Steps p.tables e below (T.setTop g) ((T'.setTop { g with stack := rest }).pushFrame (.throwing q)))
def vx_X {S : Type} (px : S → Prop) (B : String → S → State → Prop) (A : Nat → Prop) : String → State → State → Prop := fun E st t => ∃ u : S, px u ∧ B E u t ∧ va_F A st t
section Runs
variable {p : Program} {l : Launch} {e : Env} {R : Room} {s : State} {m : MethodId} {args : Array Value} {below : List Frame} {meth : Method} {c : Code} {H : Heap} {locs : List Loc} {cells slots : Nat}
variable {y : MethodName} {bytes cc : ByteArray} {maxL nL mc ms n index : Nat} {ret : Option FieldType} {ws : List Cond} {rm : Room} {Pc : Array Value → State → Prop} {Qc : Array Value → State → Outcome → State → Prop} {XC : String → State → State → Prop} {free : Addr → Prop} {Ts : List Cond} {own C : String} {b : Addr} {As rest : List Value} {g : JFrame}
theorem vx_callBack (cb : CallB R s args own index y bytes maxL ret ws rm mc ms n) (hM : vx_Met l y ws rm Pc Qc XC mc ms free) (hbl : FrameBlind Pc) : vx_Back l R p e below s args y 3 8 (PreOf R mc ms Pc) (PostOf Qc mc ms free) (vx_Post XC mc ms free) := by
  obtain ⟨hrc, hrs, hfr, hlo, hws, hcw, -, hini, -⟩ := cb
  exact vx_back (bytes := bytes) (maxL := maxL) (ret := ret) hM hbl hrc hrs hfr hlo hws hcw (fun a' U hW => word_at hW (Or.inl (by first | rfl | simp [Cond.onTables, Cond.keeps, Cond.steady])) hini)
theorem vx_runV (S : CallFix p m c cc nL s args Ts own) (hM : vx_Met l y ws rm Pc Qc XC mc ms free) (cw : CallW R s args own C index y bytes maxL ret ws rm mc ms n) (hp : PreV s H C b Pc As)
    (hg : g.method = m) (hn : As.length = n) (hsize : g.locals.size = nL) (hstack : g.stack = As.reverse ++ .ref b :: rest) (hW : 2 * g.monitorRoom + (rest.map fun v => v.category).sum ≤ 8) (hdg : decode cc g.pc = .ok (.invokevirtual index, 3)) (hf : cells + mc ≤ R.cells ∧ slots + ms ≤ R.slots) :
    vx_Run p l e R s m args below meth c H locs cells slots mc ms g rest (Qc (Value.ref b :: As).toArray) XC free := by
  have hK : vx_Back l R p e below s args y 3 8 (PreOf R mc ms Pc) (PostOf Qc mc ms free) (vx_Post XC mc ms free) := vx_callBack cw.1 hM hp.1
  obtain ⟨⟨-, -, -, -, -, -, hcode, -, hy, hlen, hl⟩, hin, hse⟩ := cw
  obtain ⟨hx, hb, hml, ho, -⟩ := S
  obtain ⟨-, ⟨cellB, hcB, hoB, hclB⟩, hPc⟩ := hp
  intro T hT X
  rcases vx_callV X hx (C := C) (bytes := bytes) (maxL := maxL) (ret := ret) ho hl hin hse hcode hy hK (by rw [hT]; exact hcB) hoB hclB hg (hsize.trans hml.symm) (argsL := As) (rest := rest) (fun sig h => hn.trans (hlen sig h)) hstack hW (by rw [hb]; exact hdg)
    (fun vm₁ hW₁ => ⟨hf.1, hf.2, hPc (T.setVm vm₁) hT hW₁⟩) with ⟨v, vm₁, ⟨U', l2, c2, s2⟩, hW₁, X', ⟨g', mk, t, L, e1, e2, hq, h1, hL, h2, h3⟩, st⟩ | ⟨q, vm₁, ⟨U', l2, c2, s2⟩, hW₁, X', ⟨g', mk, t, L, E, ce, e1, e2, hq, hce, hcv, hcl, h1, hL, h2, h3⟩, st⟩
  · dsimp only [Pt.U, Pt.locs, Pt.cells, Pt.slots] at X' e1 e2 h1 h2 h3 st
    subst h1; subst h2; subst h3
    exact Or.inl ⟨v, (T.setVm vm₁).calling g' mk (Value.ref b :: As).toArray, t, U', L, hT, X', hL, e1, e2, hq, st⟩
  · dsimp only [Pt.U, Pt.locs, Pt.cells, Pt.slots] at X' e1 e2 h1 h2 h3 st hcl
    subst h1; subst h2; subst h3
    exact Or.inr ⟨q, (T.setVm vm₁).calling g' mk (Value.ref b :: As).toArray, t, U', L, E, ce, hT, X', hL, e1, e2, hq, hce, hcv, vx_cls hW₁ hcl, st⟩
theorem vx_runS (S : CallFix p m c cc nL s args Ts own) (hM : vx_Met l y ws rm Pc Qc XC mc ms free) (cw : CallB R s args own index y bytes maxL ret ws rm mc ms n ∧ (Cond.static y).before args s = true) (hp : PreS s H Pc As)
    (hg : g.method = m) (hn : As.length = n) (hsize : g.locals.size = nL) (hstack : g.stack = As.reverse ++ rest) (hW : 2 * g.monitorRoom + (rest.map fun v => v.category).sum ≤ 8) (hdg : decode cc g.pc = .ok (.invokestatic index, 3)) (hf : cells + mc ≤ R.cells ∧ slots + ms ≤ R.slots) :
    vx_Run p l e R s m args below meth c H locs cells slots mc ms g rest (Qc As.toArray) XC free := by
  have hK : vx_Back l R p e below s args y 3 8 (PreOf R mc ms Pc) (PostOf Qc mc ms free) (vx_Post XC mc ms free) := vx_callBack cw.1 hM hp.1
  obtain ⟨⟨-, -, -, -, -, -, hcode, hini, hy, hlen, hl⟩, hstt⟩ := cw
  obtain ⟨hx, hb, hml, ho, -⟩ := S
  intro T hT X
  rcases vx_callS X hx (bytes := bytes) (maxL := maxL) (ret := ret) ho hl hstt hini hcode hy hK hg (hsize.trans hml.symm) (argsL := As) (rest := rest) (fun sig h => hn.trans (hlen sig h)) hstack hW (by rw [hb]; exact hdg)
    (fun vm₁ hW₁ => ⟨hf.1, hf.2, hp.2 (T.setVm vm₁) hT hW₁⟩) with ⟨v, vm₁, ⟨U', l2, c2, s2⟩, hW₁, X', ⟨g', mk, t, L, e1, e2, hq, h1, hL, h2, h3⟩, st⟩ | ⟨q, vm₁, ⟨U', l2, c2, s2⟩, hW₁, X', ⟨g', mk, t, L, E, ce, e1, e2, hq, hce, hcv, hcl, h1, hL, h2, h3⟩, st⟩
  · dsimp only [Pt.U, Pt.locs, Pt.cells, Pt.slots] at X' e1 e2 h1 h2 h3 st
    subst h1; subst h2; subst h3
    exact Or.inl ⟨v, (T.setVm vm₁).calling g' mk As.toArray, t, U', L, hT, X', hL, e1, e2, hq, st⟩
  · dsimp only [Pt.U, Pt.locs, Pt.cells, Pt.slots] at X' e1 e2 h1 h2 h3 st hcl
    subst h1; subst h2; subst h3
    exact Or.inr ⟨q, (T.setVm vm₁).calling g' mk As.toArray, t, U', L, E, ce, hT, X', hL, e1, e2, hq, hce, hcv, vx_cls hW₁ hcl, st⟩
end Runs
section Rows
variable {p : Program} {l : Launch} {e : Env} {R : Room} {s : State} {m : MethodId} {args : Array Value} {below : List Frame} {meth : Method} {c : Code} {H : Heap} {locs : List Loc} {cells slots : Nat} {Q : State → Prop}
variable {mc ms : Nat} {free : Addr → Prop} {A0 A1 : Nat → Prop} {H0 : Heap} {a : Array Value} {pc : Nat} {ls : Array Slot} {st0 rest : List Value}
theorem vx_keep {st₀ t T' : State} {L : List Loc} (h0 : st₀.heap = H) (e1 : T'.heap = t.heap) (hS : va_S A0 H0 H locs) (hA : ∀ q, q < H.size → A1 q → A0 q) (hf : ∀ q, free q → A0 q) (hL : ∀ q ∈ L, free q.base) (hF : va_F A1 st₀ t) :
    H.size ≤ T'.heap.size ∧ (∀ q : Nat, q < H.size → ¬ A1 q → T'.heap[q]? = H[q]?) ∧ va_S A0 H0 T'.heap (locs ++ L) := by
  obtain ⟨hz, hk⟩ := hF
  rw [h0] at hz hk
  exact ⟨by rw [e1]; exact hz, fun q h1 h2 => by rw [e1]; exact hk q h1 h2,
    ⟨Nat.le_trans hS.1 (by rw [e1]; exact hz), fun q h1 h2 => by rw [e1, hk q (Nat.lt_of_lt_of_le h1 hS.1) (fun z => h2 (hA q (Nat.lt_of_lt_of_le h1 hS.1) z))]; exact hS.2.1 q h1 h2, fun q hq => by
      rcases List.mem_append.mp hq with h | h
      · exact hS.2.2 q h
      · exact hf _ (hL q h)⟩⟩
theorem vx_calli {S SX : Type} {post : Int32 → S → Prop} {px : SX → Prop} {B : S → State → Prop} {BX : String → SX → State → Prop} {AX : Nat → Prop} (hr : vx_Run p l e R s m args below meth c H locs cells slots mc ms (F0 m pc ls st0) rest (va_Qi post B A1 a) (vx_X px BX AX) free) (hS : va_S A0 H0 H locs) (hA : ∀ q, q < H.size → A1 q → A0 q) (hf : ∀ q, free q → A0 q) (hAX : ∀ q, q < H.size → AX q → A0 q)
    (kx : ∀ (E : String) (ce : Cell) (q9 : Addr) (u : SX) (t : State) (H1 : Heap) (locs1 : List Loc), t.heap = H1 → s.vm.Alike t.vm → px u → BX E u t → H.size ≤ H1.size → (∀ q : Nat, q < H.size → ¬ AX q → H1[q]? = H[q]?) → va_S A0 H0 H1 locs1 → H1[q9]? = some ce → ce.vm = .none → s.vm.findClass E = some ce.cls → vx_W p l e R s m args below meth c H1 locs1 (cells + mc) (slots + ms) Q (F0 m pc ls rest) q9)
    (kk : ∀ (r : Int32) (u : S) (t : State) (H1 : Heap) (locs1 : List Loc), t.heap = H1 → s.vm.Alike t.vm → post r u → B u t → H.size ≤ H1.size → (∀ q : Nat, q < H.size → ¬ A1 q → H1[q]? = H[q]?) → va_S A0 H0 H1 locs1 → W p l e R s m args below meth c H1 locs1 (cells + mc) (slots + ms) Q (F0 m (pc + 3) ls (.int r :: rest))) : W p l e R s m args below meth c H locs cells slots Q (F0 m pc ls st0) := by
  intro T hT X
  rcases hr T hT X with ⟨v, st₀, t, T', L, h0, X', hL, e1, e2, ⟨⟨r, u, hv, hp, hb⟩, hF⟩, st⟩ | ⟨q, st₀, t, T', L, E, ce, h0, X', hL, e1, e2, ⟨u, hp, hb, hF⟩, hce, hcv, hcl, st⟩
  · cases hv
    obtain ⟨k1, k2, k3⟩ := vx_keep h0 e1 hS hA hf hL hF
    obtain ⟨t2, a1, b1⟩ := kk r u t T'.heap (locs ++ L) e1.symm (by rw [← e2]; exact X'.warmed.alike) hp hb k1 k2 k3 T' rfl X'
    exact ⟨t2, st t2 a1, b1⟩
  · obtain ⟨k1, k2, k3⟩ := vx_keep h0 e1 hS hAX hf hL hF
    obtain ⟨t2, a1, b1⟩ := kx E ce q u t T'.heap (locs ++ L) e1.symm (by rw [← e2]; exact X'.warmed.alike) hp hb k1 k2 k3 (by rw [e1]; exact hce) hcv hcl T' rfl X'
    exact ⟨t2, st.trans a1, b1⟩
theorem vx_calll {S SX : Type} {post : Int64 → S → Prop} {px : SX → Prop} {B : S → State → Prop} {BX : String → SX → State → Prop} {AX : Nat → Prop} (hr : vx_Run p l e R s m args below meth c H locs cells slots mc ms (F0 m pc ls st0) rest (va_Ql post B A1 a) (vx_X px BX AX) free) (hS : va_S A0 H0 H locs) (hA : ∀ q, q < H.size → A1 q → A0 q) (hf : ∀ q, free q → A0 q) (hAX : ∀ q, q < H.size → AX q → A0 q)
    (kx : ∀ (E : String) (ce : Cell) (q9 : Addr) (u : SX) (t : State) (H1 : Heap) (locs1 : List Loc), t.heap = H1 → s.vm.Alike t.vm → px u → BX E u t → H.size ≤ H1.size → (∀ q : Nat, q < H.size → ¬ AX q → H1[q]? = H[q]?) → va_S A0 H0 H1 locs1 → H1[q9]? = some ce → ce.vm = .none → s.vm.findClass E = some ce.cls → vx_W p l e R s m args below meth c H1 locs1 (cells + mc) (slots + ms) Q (F0 m pc ls rest) q9)
    (kk : ∀ (r : Int64) (u : S) (t : State) (H1 : Heap) (locs1 : List Loc), t.heap = H1 → s.vm.Alike t.vm → post r u → B u t → H.size ≤ H1.size → (∀ q : Nat, q < H.size → ¬ A1 q → H1[q]? = H[q]?) → va_S A0 H0 H1 locs1 → W p l e R s m args below meth c H1 locs1 (cells + mc) (slots + ms) Q (F0 m (pc + 3) ls (.long r :: rest))) : W p l e R s m args below meth c H locs cells slots Q (F0 m pc ls st0) := by
  intro T hT X
  rcases hr T hT X with ⟨v, st₀, t, T', L, h0, X', hL, e1, e2, ⟨⟨r, u, hv, hp, hb⟩, hF⟩, st⟩ | ⟨q, st₀, t, T', L, E, ce, h0, X', hL, e1, e2, ⟨u, hp, hb, hF⟩, hce, hcv, hcl, st⟩
  · cases hv
    obtain ⟨k1, k2, k3⟩ := vx_keep h0 e1 hS hA hf hL hF
    obtain ⟨t2, a1, b1⟩ := kk r u t T'.heap (locs ++ L) e1.symm (by rw [← e2]; exact X'.warmed.alike) hp hb k1 k2 k3 T' rfl X'
    exact ⟨t2, st t2 a1, b1⟩
  · obtain ⟨k1, k2, k3⟩ := vx_keep h0 e1 hS hAX hf hL hF
    obtain ⟨t2, a1, b1⟩ := kx E ce q u t T'.heap (locs ++ L) e1.symm (by rw [← e2]; exact X'.warmed.alike) hp hb k1 k2 k3 (by rw [e1]; exact hce) hcv hcl T' rfl X'
    exact ⟨t2, st.trans a1, b1⟩
theorem vx_callf {S SX : Type} {post : UInt32 → S → Prop} {px : SX → Prop} {B : S → State → Prop} {BX : String → SX → State → Prop} {AX : Nat → Prop} (hr : vx_Run p l e R s m args below meth c H locs cells slots mc ms (F0 m pc ls st0) rest (va_Qf post B A1 a) (vx_X px BX AX) free) (hS : va_S A0 H0 H locs) (hA : ∀ q, q < H.size → A1 q → A0 q) (hf : ∀ q, free q → A0 q) (hAX : ∀ q, q < H.size → AX q → A0 q)
    (kx : ∀ (E : String) (ce : Cell) (q9 : Addr) (u : SX) (t : State) (H1 : Heap) (locs1 : List Loc), t.heap = H1 → s.vm.Alike t.vm → px u → BX E u t → H.size ≤ H1.size → (∀ q : Nat, q < H.size → ¬ AX q → H1[q]? = H[q]?) → va_S A0 H0 H1 locs1 → H1[q9]? = some ce → ce.vm = .none → s.vm.findClass E = some ce.cls → vx_W p l e R s m args below meth c H1 locs1 (cells + mc) (slots + ms) Q (F0 m pc ls rest) q9)
    (kk : ∀ (r : UInt32) (u : S) (t : State) (H1 : Heap) (locs1 : List Loc), t.heap = H1 → s.vm.Alike t.vm → post r u → B u t → H.size ≤ H1.size → (∀ q : Nat, q < H.size → ¬ A1 q → H1[q]? = H[q]?) → va_S A0 H0 H1 locs1 → W p l e R s m args below meth c H1 locs1 (cells + mc) (slots + ms) Q (F0 m (pc + 3) ls (.float r :: rest))) : W p l e R s m args below meth c H locs cells slots Q (F0 m pc ls st0) := by
  intro T hT X
  rcases hr T hT X with ⟨v, st₀, t, T', L, h0, X', hL, e1, e2, ⟨⟨r, u, hv, hp, hb⟩, hF⟩, st⟩ | ⟨q, st₀, t, T', L, E, ce, h0, X', hL, e1, e2, ⟨u, hp, hb, hF⟩, hce, hcv, hcl, st⟩
  · cases hv
    obtain ⟨k1, k2, k3⟩ := vx_keep h0 e1 hS hA hf hL hF
    obtain ⟨t2, a1, b1⟩ := kk r u t T'.heap (locs ++ L) e1.symm (by rw [← e2]; exact X'.warmed.alike) hp hb k1 k2 k3 T' rfl X'
    exact ⟨t2, st t2 a1, b1⟩
  · obtain ⟨k1, k2, k3⟩ := vx_keep h0 e1 hS hAX hf hL hF
    obtain ⟨t2, a1, b1⟩ := kx E ce q u t T'.heap (locs ++ L) e1.symm (by rw [← e2]; exact X'.warmed.alike) hp hb k1 k2 k3 (by rw [e1]; exact hce) hcv hcl T' rfl X'
    exact ⟨t2, st.trans a1, b1⟩
theorem vx_calld {S SX : Type} {post : UInt64 → S → Prop} {px : SX → Prop} {B : S → State → Prop} {BX : String → SX → State → Prop} {AX : Nat → Prop} (hr : vx_Run p l e R s m args below meth c H locs cells slots mc ms (F0 m pc ls st0) rest (va_Qd post B A1 a) (vx_X px BX AX) free) (hS : va_S A0 H0 H locs) (hA : ∀ q, q < H.size → A1 q → A0 q) (hf : ∀ q, free q → A0 q) (hAX : ∀ q, q < H.size → AX q → A0 q)
    (kx : ∀ (E : String) (ce : Cell) (q9 : Addr) (u : SX) (t : State) (H1 : Heap) (locs1 : List Loc), t.heap = H1 → s.vm.Alike t.vm → px u → BX E u t → H.size ≤ H1.size → (∀ q : Nat, q < H.size → ¬ AX q → H1[q]? = H[q]?) → va_S A0 H0 H1 locs1 → H1[q9]? = some ce → ce.vm = .none → s.vm.findClass E = some ce.cls → vx_W p l e R s m args below meth c H1 locs1 (cells + mc) (slots + ms) Q (F0 m pc ls rest) q9)
    (kk : ∀ (r : UInt64) (u : S) (t : State) (H1 : Heap) (locs1 : List Loc), t.heap = H1 → s.vm.Alike t.vm → post r u → B u t → H.size ≤ H1.size → (∀ q : Nat, q < H.size → ¬ A1 q → H1[q]? = H[q]?) → va_S A0 H0 H1 locs1 → W p l e R s m args below meth c H1 locs1 (cells + mc) (slots + ms) Q (F0 m (pc + 3) ls (.double r :: rest))) : W p l e R s m args below meth c H locs cells slots Q (F0 m pc ls st0) := by
  intro T hT X
  rcases hr T hT X with ⟨v, st₀, t, T', L, h0, X', hL, e1, e2, ⟨⟨r, u, hv, hp, hb⟩, hF⟩, st⟩ | ⟨q, st₀, t, T', L, E, ce, h0, X', hL, e1, e2, ⟨u, hp, hb, hF⟩, hce, hcv, hcl, st⟩
  · cases hv
    obtain ⟨k1, k2, k3⟩ := vx_keep h0 e1 hS hA hf hL hF
    obtain ⟨t2, a1, b1⟩ := kk r u t T'.heap (locs ++ L) e1.symm (by rw [← e2]; exact X'.warmed.alike) hp hb k1 k2 k3 T' rfl X'
    exact ⟨t2, st t2 a1, b1⟩
  · obtain ⟨k1, k2, k3⟩ := vx_keep h0 e1 hS hAX hf hL hF
    obtain ⟨t2, a1, b1⟩ := kx E ce q u t T'.heap (locs ++ L) e1.symm (by rw [← e2]; exact X'.warmed.alike) hp hb k1 k2 k3 (by rw [e1]; exact hce) hcv hcl T' rfl X'
    exact ⟨t2, st.trans a1, b1⟩
theorem vx_callv {S SX : Type} {post : S → Prop} {px : SX → Prop} {B : S → State → Prop} {BX : String → SX → State → Prop} {AX : Nat → Prop} (hr : vx_Run p l e R s m args below meth c H locs cells slots mc ms (F0 m pc ls st0) rest (va_Qv post B A1 a) (vx_X px BX AX) free) (hS : va_S A0 H0 H locs) (hA : ∀ q, q < H.size → A1 q → A0 q) (hf : ∀ q, free q → A0 q) (hAX : ∀ q, q < H.size → AX q → A0 q)
    (kx : ∀ (E : String) (ce : Cell) (q9 : Addr) (u : SX) (t : State) (H1 : Heap) (locs1 : List Loc), t.heap = H1 → s.vm.Alike t.vm → px u → BX E u t → H.size ≤ H1.size → (∀ q : Nat, q < H.size → ¬ AX q → H1[q]? = H[q]?) → va_S A0 H0 H1 locs1 → H1[q9]? = some ce → ce.vm = .none → s.vm.findClass E = some ce.cls → vx_W p l e R s m args below meth c H1 locs1 (cells + mc) (slots + ms) Q (F0 m pc ls rest) q9)
    (kk : ∀ (u : S) (t : State) (H1 : Heap) (locs1 : List Loc), t.heap = H1 → s.vm.Alike t.vm → post u → B u t → H.size ≤ H1.size → (∀ q : Nat, q < H.size → ¬ A1 q → H1[q]? = H[q]?) → va_S A0 H0 H1 locs1 → W p l e R s m args below meth c H1 locs1 (cells + mc) (slots + ms) Q (F0 m (pc + 3) ls (rest))) : W p l e R s m args below meth c H locs cells slots Q (F0 m pc ls st0) := by
  intro T hT X
  rcases hr T hT X with ⟨v, st₀, t, T', L, h0, X', hL, e1, e2, ⟨⟨u, hv, hp, hb⟩, hF⟩, st⟩ | ⟨q, st₀, t, T', L, E, ce, h0, X', hL, e1, e2, ⟨u, hp, hb, hF⟩, hce, hcv, hcl, st⟩
  · cases hv
    obtain ⟨k1, k2, k3⟩ := vx_keep h0 e1 hS hA hf hL hF
    obtain ⟨t2, a1, b1⟩ := kk u t T'.heap (locs ++ L) e1.symm (by rw [← e2]; exact X'.warmed.alike) hp hb k1 k2 k3 T' rfl X'
    exact ⟨t2, st t2 a1, b1⟩
  · obtain ⟨k1, k2, k3⟩ := vx_keep h0 e1 hS hAX hf hL hF
    obtain ⟨t2, a1, b1⟩ := kx E ce q u t T'.heap (locs ++ L) e1.symm (by rw [← e2]; exact X'.warmed.alike) hp hb k1 k2 k3 (by rw [e1]; exact hce) hcv hcl T' rfl X'
    exact ⟨t2, st.trans a1, b1⟩
/-- caught by the row x of this method's table; the rows ahead don't take it -/
theorem vx_catch {own name : String} {E : String} {ce : Cell} {q : Addr} (hown : s.vm.findClass own = some m.cls) (pre : List ExceptionTableEntry) (x : ExceptionTableEntry) (suf : List ExceptionTableEntry) (hsplit : c.exceptionTable.toList = pre ++ x :: suf)
    (hpass : ∀ z ∈ pre, covers z pc = false ∨ (z.catchType ≠ 0 ∧ ∃ nm : String, (Cond.classLink own z.catchType nm).before args s = true ∧ va_Nc E nm s)) (hx : covers x pc = true) (h0 : x.catchType ≠ 0)
    (hlink : (Cond.classLink own x.catchType name).before args s = true) (hcast : (Cond.castable E name).before args s = true) (hcell : H[q]? = some ce) (hv : ce.vm = .none) (hcl : s.vm.findClass E = some ce.cls)
    (kk : W p l e R s m args below meth c H locs cells slots Q (F0 m x.handlerPc ls [.ref q])) : vx_W p l e R s m args below meth c H locs cells slots Q (F0 m pc ls rest) q := by
  intro T hT X
  have hpl : e.platform.magicAccessors = ({} : Platform).magicAccessors := by rw [X.admits.platform]
  obtain ⟨c3, c4, hc3, hc4, hasg⟩ := Cond.castable_spec hcast
  cases Option.some.inj (hc3.symm.trans hcl)
  obtain ⟨c5, hc5, hcl5⟩ := Cond.classLink_spec hown hlink e.platform hpl
  cases Option.some.inj (hc4.symm.trans hc5)
  obtain ⟨vm', X', st⟩ := X.thenCaughtThrough q (g := F0 m pc ls rest) rfl (Steps.refl _) (by rw [hT]; exact hcell) (by rw [hv]; rfl) (by obtain ⟨k9, h9, -⟩ := Vm.findClass_spec hcl; exact ⟨k9, h9⟩) pre x suf hsplit
    (fun z hz => by
      rcases hpass z hz with h | ⟨hz0, nm, hl1, hn1⟩
      · exact Or.inl h
      · obtain ⟨c6, hc6, hcl6⟩ := Cond.classLink_spec hown hl1 e.platform hpl
        obtain ⟨a8, b8, h1, h2, h3⟩ := hn1
        cases Option.some.inj (h1.symm.trans hcl)
        cases Option.some.inj (h2.symm.trans hc6)
        exact Or.inr ⟨hz0, _, hcl6, h3⟩) hx (Or.inr ⟨h0, c4, hcl5, hasg⟩)
  obtain ⟨t, a1, b1⟩ := kk (T.setVm vm') hT X'
  exact ⟨t, st.trans a1, b1⟩
end Rows
section Ends
variable {p : Program} {l : Launch} {e : Env} {R : Room} {s : State} {m : MethodId} {args : Array Value} {below : List Frame} {meth : Method} {c : Code} {H : Heap} {locs : List Loc} {cells slots : Nat} {Q : State → Prop}
variable {mc ms : Nat} {free : Addr → Prop} {A0 A1 : Nat → Prop} {H0 : Heap} {a : Array Value} {ls : Array Slot} {st0 rest : List Value}
variable {Qc : Array Value → State → Outcome → State → Prop} {XC : String → State → State → Prop}
/-- what a body that may throw owes at its end -/
def vx_MQ (below : List Frame) (Qc : Array Value → State → Outcome → State → Prop) (XC : String → State → State → Prop) (a : Array Value) (s : State) (mc ms : Nat) (free : Addr → Prop) : State → Prop := fun t =>
  ∃ o, t.status = .running ∧ Ended t below o ∧ vx_Q Qc XC mc ms free a s o t
theorem vx_ret {g : JFrame} {mc ms : Nat} (k : W p l e R s m args below meth c H locs cells slots (MQ below Qc args s mc ms free) g) : W p l e R s m args below meth c H locs cells slots (vx_MQ below Qc XC args s mc ms free) g := by
  intro T hT X
  obtain ⟨t, a1, o, b1, b2, b3, b4⟩ := k T hT X
  exact ⟨t, a1, o, b1, b2, Or.inl ⟨b3, b4⟩⟩
/-- not caught here: it goes on to the caller -/
theorem vx_widen {g : JFrame} {q : Addr} {k n : Nat} (h1 : cells ≤ k) (h2 : slots ≤ n) (kk : vx_W p l e R s m args below meth c H locs k n Q g q) : vx_W p l e R s m args below meth c H locs cells slots Q g q := fun T hT X => kk T hT (stand_widen X h1 h2)
theorem vx_out {pc : Nat} {E : String} {ce : Cell} {q : Addr} {mc ms : Nat} (hout : ∀ x ∈ c.exceptionTable.toList, covers x pc = false) (hlocks : meth.locks = false) (hcell : H[q]? = some ce) (hv : ce.vm = .none) (hcl : s.vm.findClass E = some ce.cls)
    (hx : ∀ t : State, t.heap = H → s.vm.Alike t.vm → XC E s t) (hf : ∀ z ∈ locs, free z.base) (hc : cells ≤ mc) (hs : slots ≤ ms) :
    vx_W p l e R s m args below meth c H locs cells slots (vx_MQ below Qc XC args s mc ms free) (F0 m pc ls rest) q := by
  intro T hT X
  obtain ⟨st1, hrun, hend, hW, hsm⟩ := X.leaveThrown q (g := F0 m pc ls rest) rfl rfl rfl hout hlocks
  have hcell9 : (T.setFrames (.throwing q :: below)).heap[q]? = some ce := by
    show T.heap[q]? = some ce
    rw [hT]; exact hcell
  exact ⟨_, st1, .threw q, hrun, hend, Or.inr ⟨q, rfl, E, ce, locs, hx _ hT hW.alike, hcell9, hv, hcl, hW, hsm.mono hc hs, hf⟩⟩
theorem vx_frame {U : State} {k n : Nat} (h : s.sameButNew ({ U with vm := s.vm } : State) locs k n) : s.heap.size ≤ U.heap.size ∧ ∀ q : Nat, q < s.heap.size → (∀ z ∈ locs, z.base ≠ q) → U.heap[q]? = s.heap[q]? := by
  obtain ⟨-, h2, -, -, -, h6⟩ := h
  refine ⟨h2, fun q hq hz => ?_⟩
  obtain ⟨c9, e1, e2, e3, e4⟩ := h6 q _ (Array.getElem?_eq_getElem hq)
  have hs : c9.slots = (s.heap[q]).slots := Array.ext_getElem? fun i => e4 i fun hm => hz _ hm rfl
  have h9 : c9 = s.heap[q] := by
    rw [hs] at e2
    exact e2
  have e5 : U.heap[q]? = some c9 := e1
  rw [e5, h9, Array.getElem?_eq_getElem hq]
/-- the words of a throw but the four that speak of the heap -/
def vx_no (w : Cond) : Bool := decide (w ≠ .isRef (.static Bundle.tN "UNASSIGNED_STACK" Bundle.steD)) && decide (w ≠ .isRef (.static Bundle.tN "SUPPRESSED_SENTINEL" Bundle.listD)) && decide (w ≠ .laysStatic Bundle.tN "UNASSIGNED_STACK" Bundle.steD) && decide (w ≠ .laysStatic Bundle.tN "SUPPRESSED_SENTINEL" Bundle.listD)
def vx_at0 (own : String) (ic : Nat) (X : String) (names : List String) : List Cond := (Bundle.ownAtoms0 own ic X names).filter vx_no
def vx_atS (own : String) (ic : Nat) (X : String) (names : List String) : List Cond := (Bundle.ownAtoms own ic X names).filter vx_no
/-- a word that the tables alone decide, or a good one -/
def vx_ot (w : Cond) : Bool := w.onTables || goodWord w
theorem vx_ot_at {args a' : Array Value} {s U : State} {w : Cond} (hW : s.WarmedH U.vm) (hvm : s.vm = U.vm) (hg : vx_ot w = true) (h : w.before args s = true) : w.before a' U = true := by
  simp only [vx_ot, Bool.or_eq_true] at hg
  rcases hg with hg | hg
  · exact va_tabs hg hvm h
  · exact word_at hW (good_of_word hg) h
/-- a list's words: the good ones out of the method's own list, the others by premises of their own -/
theorem vx_hat {args : Array Value} {s : State} {L B : List Cond} (h1 : ∀ w ∈ L.filter goodWord, w.before args s = true) (h2 : ∀ w ∈ L.filter (fun w => !goodWord w), w ∈ B) (h3 : ∀ w ∈ B, w.before args s = true) : ∀ w ∈ L, w.before args s = true := by
  intro w hw
  by_cases g : goodWord w = true
  · exact h1 w (List.mem_filter.mpr ⟨hw, g⟩)
  · refine h3 w (h2 w (List.mem_filter.mpr ⟨hw, ?_⟩))
    show (!goodWord w) = true
    cases hgw : goodWord w
    · rfl
    · exact absurd hgw g
theorem vx_c {args : Array Value} {s : State} {w : Cond} {B : List Cond} (h : w.before args s = true) (t : ∀ w ∈ B, w.before args s = true) : ∀ w' ∈ w :: B, w'.before args s = true := fun w' h' => (List.mem_cons.mp h').elim (fun e => by rw [e]; exact h) (t w')
theorem vx_n {args : Array Value} {s : State} : ∀ w ∈ ([] : List Cond), w.before args s = true := fun _ h => nomatch h
theorem vx_own {args : Array Value} {s : State} {L : List Cond} (h1 : ∀ w ∈ L.filter vx_no, w.before args s = true)
    (hU : (Cond.isRef (.static Bundle.tN "UNASSIGNED_STACK" Bundle.steD)).before args s = true) (hN : (Cond.isRef (.static Bundle.tN "SUPPRESSED_SENTINEL" Bundle.listD)).before args s = true)
    (lU : (Cond.laysStatic Bundle.tN "UNASSIGNED_STACK" Bundle.steD).before args s = true) (lN : (Cond.laysStatic Bundle.tN "SUPPRESSED_SENTINEL" Bundle.listD).before args s = true) : ∀ w ∈ L, w.before args s = true := by
  intro w hw
  by_cases e1 : w = .isRef (.static Bundle.tN "UNASSIGNED_STACK" Bundle.steD)
  · rw [e1]; exact hU
  · by_cases e2 : w = .isRef (.static Bundle.tN "SUPPRESSED_SENTINEL" Bundle.listD)
    · rw [e2]; exact hN
    · by_cases e3 : w = .laysStatic Bundle.tN "UNASSIGNED_STACK" Bundle.steD
      · rw [e3]; exact lU
      · by_cases e4 : w = .laysStatic Bundle.tN "SUPPRESSED_SENTINEL" Bundle.listD
        · rw [e4]; exact lN
        · exact h1 w (List.mem_filter.mpr ⟨hw, by unfold vx_no; rw [decide_eq_true e1, decide_eq_true e2, decide_eq_true e3, decide_eq_true e4]; rfl⟩)
/-- where a static field lies, its class's statics cell in H -/
def vx_L (C n d : String) (A : Nat → Prop) (U : State) (H : Heap) : Prop := ∃ (c : ClassId) (k : Class) (i : Nat) (f : Field) (a : Nat) (cell : Cell), U.vm.findClass C = some c ∧ U.fieldFound? C n d = some (c, k, i, f) ∧ f.isStatic = true ∧ k.statics = some a ∧ H[a]? = some cell ∧ cell.vm.isStatics = true ∧ cell.cls = c ∧ f.slot < cell.slots.size ∧ k.staticTypes[f.slot]? = some f.type ∧ ¬ A a
theorem vx_L.moved {C n d : String} {A : Nat → Prop} {u U : State} {H : Heap} (hvm : u.vm.Alike U.vm) (h : vx_L C n d A u H) : vx_L C n d A U H := by
  obtain ⟨c, k, i, f, a, cell, h1, h2, h3, h4, h5, h6, h7, h8, h9, h10⟩ := h
  obtain ⟨k', hi', he⟩ := State.fieldFound?_setVm hvm h2
  exact ⟨c, k', i, f, a, cell, by rw [hvm.findClass]; exact h1, hi', h3, by rw [he]; exact h4, h5, h6, h7, h8, by rw [he]; exact h9, h10⟩
theorem vx_L.kept {C n d : String} {A : Nat → Prop} {U : State} {H H1 : Heap} (h : vx_L C n d A U H) (hq : ∀ a : Nat, a < H.size → ¬ A a → H1[a]? = H[a]?) : vx_L C n d A U H1 := by
  obtain ⟨c, k, i, f, a, cell, h1, h2, h3, h4, h5, h6, h7, h8, h9, h10⟩ := h
  exact ⟨c, k, i, f, a, cell, h1, h2, h3, h4, by rw [hq a (Array.getElem?_eq_some_iff.mp h5).1 h10]; exact h5, h6, h7, h8, h9, h10⟩
theorem vx_L.narrow {C n d : String} {A B : Nat → Prop} {U : State} {H : Heap} (h : vx_L C n d A U H) (hAB : ∀ q, B q → A q) : vx_L C n d B U H := by
  obtain ⟨c, k, i, f, a, cell, h1, h2, h3, h4, h5, h6, h7, h8, h9, h10⟩ := h
  exact ⟨c, k, i, f, a, cell, h1, h2, h3, h4, h5, h6, h7, h8, h9, fun z => h10 (hAB _ z)⟩
theorem vx_L.word {C n d : String} {A : Nat → Prop} {s : State} {args : Array Value} (h : vx_L C n d A s s.heap) : (Cond.laysStatic C n d).before args s = true := by
  obtain ⟨c, k, i, f, a, cell, h1, h2, h3, h4, h5, h6, h7, h8, h9, -⟩ := h
  show (Cond.laysStatic C n d).holds args s none s [] = true
  exact Cond.laysStatic_of h1 h2 h3 h4 h5 h6 h7 h8 h9
/-- .. and what it holds: null or some reference -/
def vx_Zq (C n d : String) (A : Nat → Prop) (U : State) (H : Heap) : Prop := va_Zq C n d A U H ∧ vx_L C n d A U H
theorem vx_Zq.moved {C n d : String} {A : Nat → Prop} {u U : State} {H : Heap} (hvm : u.vm.Alike U.vm) (h : vx_Zq C n d A u H) : vx_Zq C n d A U H := ⟨va_Zq.moved hvm h.1, vx_L.moved hvm h.2⟩
theorem vx_Zq.kept {C n d : String} {A : Nat → Prop} {U : State} {H H1 : Heap} (h : vx_Zq C n d A U H) (hq : ∀ a : Nat, a < H.size → ¬ A a → H1[a]? = H[a]?) : vx_Zq C n d A U H1 := ⟨va_Zq.kept h.1 hq, vx_L.kept h.2 hq⟩
theorem vx_Zq.narrow {C n d : String} {A B : Nat → Prop} {U : State} {H : Heap} (h : vx_Zq C n d A U H) (hAB : ∀ q, B q → A q) : vx_Zq C n d B U H := ⟨va_Zq.narrow h.1 hAB, vx_L.narrow h.2 hAB⟩
theorem vx_Zqof {args : Array Value} {s : State} {C n d : String} {A : Nat → Prop} (hl : (Cond.laysStatic C n d).before args s = true) (hini : (Cond.initialized C).before args s = true) (h : (Cond.isRef (.static C n d)).before args s = true) (hA : ∀ a : Nat, a < s.heap.size → ¬ A a) : vx_Zq C n d A s s.heap := by
  refine ⟨va_Zqof hl hini h hA, ?_⟩
  obtain ⟨c, k, i, f, a, cell, h1, h2, h3, h4, h5, h6, h7, h8, h9⟩ := Cond.laysStatic_spec hl
  exact ⟨c, k, i, f, a, cell, h1, h2, h3, h4, h5, h6, h7, h8, h9, hA a (Array.getElem?_eq_some_iff.mp h5).1⟩
theorem vx_isRef {C n d : String} {v : Value} {A : Nat → Prop} {s : State} {args : Array Value} (h : va_Z C n d v A s s.heap) (hv : v.isRef = true) : (Cond.isRef (.static C n d)).before args s = true := by
  obtain ⟨cf, kf, fi, f, a, cell, h1, h2, h3, h4, h5, h6, h7, -⟩ := h
  have he : (Term.static C n d).eval args s none [] s = some v := by
    simp [Term.eval, State.fieldNamed?, h1, h2, h4, h5, h6, h7]
  simp only [Cond.before, Cond.holds, Cond.value, he]
  cases v <;> simp_all [Value.isRef]
theorem vx_isRefq {C n d : String} {A : Nat → Prop} {s : State} {args : Array Value} (h : va_Zq C n d A s s.heap) : (Cond.isRef (.static C n d)).before args s = true := by
  rcases h with h | ⟨t, h⟩
  · exact vx_isRef h rfl
  · exact vx_isRef h rfl
/-- the same frame, seen from here: as if the method were called anew in this heap -/
theorem vx_rebase {T : State} (X : Stand p l e R s m args below meth c T locs cells slots) {R' : Room} (hf : R'.frames ≤ R.frames) (hl : R'.locals ≤ R.locals) (hc : cells + R'.cells ≤ R.cells) (hs : slots + R'.slots ≤ R.slots) :
    Stand p l e R' ((T.setVm s.vm).setFrames (.invoking m args :: below)) m args below meth c T [] 0 0 := by
  have htop : (T.setVm s.vm).topJava?.isSome := X.here.top
  have hF : ((T.setVm s.vm).setFrames (.invoking m args :: below)).frames = .invoking m args :: below := State.frames_setFrames _ (State.cur_lt_of_top htop)
  obtain ⟨g₀, hg0⟩ := Option.isSome_iff_exists.mp htop
  obtain ⟨r, hr⟩ := State.topJava?_eq_some.mp hg0
  have hl9 : e.platform.stackLimits (T.setVm s.vm).me = e.platform.stackLimits s.me := X.limits
  have hb9 : (T.setVm s.vm).me.stackBytes = s.me.stackBytes := X.bytes
  refine ⟨X.admits, X.cas, X.clock, hF, ?_, X.hears, X.method, X.code, X.here, X.tail, X.warmed, ?_, ?_, ?_⟩
  · have h := X.room
    have hU : ((T.setVm s.vm).setFrames (.invoking m args :: below)).localsInUse = s.localsInUse := by
      rw [State.localsInUse_invoking hF (meth := meth) (c := c) X.method X.code, State.localsInUse_invoking X.frames X.method X.code]
    simp only [State.hasRoom, Bool.and_eq_true, decide_eq_true_eq] at h ⊢
    obtain ⟨⟨⟨⟨h1, h2, h3, h4, h5, h6⟩, h7⟩, h8⟩, h9⟩ := h
    rw [X.frames, List.length_cons] at h2 h3
    have q1 := X.heapSize
    have q2 := X.used
    simp only [hF, hU, List.length_cons, State.stackLimits_setFrames, State.stackBytes_setFrames, hl9, hb9]
    refine ⟨⟨⟨⟨by omega, by omega, by omega, by omega, by omega, h6⟩, ?_⟩, ?_⟩, X.book⟩
    · show T.heap.size + R'.cells ≤ e.platform.maxCells
      omega
    · show T.slotsUsed + R'.slots ≤ e.platform.maxSlots
      omega
  · rw [State.stackLimits_setFrames]; rfl
  · rw [State.stackBytes_setFrames]; rfl
  · refine ⟨?_, Nat.le_refl _, Nat.le_refl _, ?_, ?_, fun a c9 h9 => ⟨c9, h9, rfl, rfl, fun _ _ => rfl⟩⟩
    · obtain ⟨t, ht, -⟩ := State.frames_cons hr
      show T.setVm s.vm = { ((T.setVm s.vm).setFrames (.invoking m args :: below)).setFrames (T.setVm s.vm).frames with heap := T.heap, slotsUsed := T.slotsUsed }
      rw [State.setFrames_setFrames, State.setFrames_self ht]
      rfl
    · show T.slotsUsed = T.slotsUsed + ((T.heap.toList.drop T.heap.size).map (·.slots.size)).sum
      rw [List.drop_eq_nil_of_le (Nat.le_of_eq Array.length_toList)]
      rfl
    · show ((T.heap.toList.drop T.heap.size).map (·.slots.size)).sum ≤ 0
      rw [List.drop_eq_nil_of_le (Nat.le_of_eq Array.length_toList)]
      exact Nat.le_refl _
/-- 'throw new E()': new; dup; invokespecial; athrow -/
theorem vx_throw0 {cc : ByteArray} {pc : Nat} (hexec : p.tables.exec = Jvm.exec) (hb : c.code = cc) (hl : l.stackTraces = false) {own cls : String} {names : List String} {ik ic mc ms : Nat} {A : Nat → Prop}
    (hown : s.vm.findClass own = some m.cls) (hcls : Bundle.fit cls = true) (hnames : ∀ n ∈ names, Bundle.fit n = true)
    (hk : (Cond.classLink own ik cls).before args s = true) (hini : (Cond.initialized cls).before args s = true) (hat : ∀ w ∈ vx_at0 own ic cls names, w.before args s = true)
    (hgood : ∀ w ∈ Cond.classLink own ik cls :: Cond.initialized cls :: vx_at0 own ic cls names, vx_ot w = true)
    (hU : vx_Zq Bundle.tN "UNASSIGNED_STACK" Bundle.steD A s s.heap) (hN : vx_Zq Bundle.tN "SUPPRESSED_SENTINEL" Bundle.listD A s s.heap) (hS : va_S A s.heap H locs) (hsize : ls.size = c.maxLocals)
    (d0 : decode cc pc = .ok (.new ik, 3)) (d3 : decode cc (pc + 3) = .ok (.dup, 1)) (d4 : decode cc (pc + 4) = .ok (.invokespecial ic, 3)) (d7 : decode cc (pc + 7) = .ok (.athrow, 1))
    (hout : ∀ x ∈ c.exceptionTable.toList, covers x (pc + 7) = false)
    (hRframes : names.length + 3 < R.frames) (hRlocals : (rest.map fun v => v.category).sum + (13 * (names.length + 1) + 42) ≤ R.locals) (hRcells : cells + 1 ≤ R.cells) (hRslots : slots + 6 ≤ R.slots) (hlocks : meth.locks = false)
    (hx : ∀ t : State, s.vm.Alike t.vm → H.size ≤ t.heap.size → (∀ q : Nat, q < H.size → t.heap[q]? = H[q]?) → XC cls s t)
    (hf : ∀ z ∈ locs, free z.base) (hc : cells + 1 ≤ mc) (hs : slots + 6 ≤ ms) :
    W p l e R s m args below meth c H locs cells slots (vx_MQ below Qc XC args s mc ms free) (F0 m pc ls rest) := by
  intro T hT X
  have htr : e.platform.stackTraces = false := (show e.platform.stackTraces = l.stackTraces by rw [X.admits.platform]).trans hl
  have Y := vx_rebase X (R' := { frames := R.frames, locals := R.locals, cells := 1, slots := 6 }) (Nat.le_refl _) (Nat.le_refl _) hRcells hRslots
  obtain ⟨s', hA⟩ : ∃ z, z = (T.setVm s.vm).setFrames (.invoking m args :: below) := ⟨_, rfl⟩
  rw [← hA] at Y
  have hvm : s'.vm = s.vm := by rw [hA]; rfl
  have hhp : s'.heap = H := by rw [hA]; exact hT
  have hW0 : s.WarmedH s'.vm := by rw [hvm]; exact State.WarmedH.refl s
  have hat' : ∀ w ∈ vx_at0 own ic cls names, w.before args s' = true := fun w hw => vx_ot_at hW0 hvm.symm (hgood w (List.mem_cons_of_mem _ (List.mem_cons_of_mem _ hw))) (hat w hw)
  have hk' : (Cond.classLink own ik cls).before args s' = true := vx_ot_at hW0 hvm.symm (hgood _ List.mem_cons_self) hk
  have hini' : (Cond.initialized cls).before args s' = true := vx_ot_at hW0 hvm.symm (hgood _ (List.mem_cons_of_mem _ List.mem_cons_self)) hini
  have hU' : vx_Zq Bundle.tN "UNASSIGNED_STACK" Bundle.steD A s' s'.heap := by rw [hhp]; exact vx_Zq.moved hW0.alike (hU.kept hS.2.1)
  have hN' : vx_Zq Bundle.tN "SUPPRESSED_SENTINEL" Bundle.listD A s' s'.heap := by rw [hhp]; exact vx_Zq.moved hW0.alike (hN.kept hS.2.1)
  have h : ∀ w ∈ Bundle.ownAtoms0 own ic cls names, w.before args s' = true := vx_own hat' (vx_isRefq hU'.1) (vx_isRefq hN'.1) hU'.2.word hN'.2.word
  have hown' : s'.vm.findClass own = some m.cls := by rw [hvm]; exact hown
  have hins : (Cond.instantiable cls 6).before args s' = true := h _ (by simp [Bundle.ownAtoms0])
  obtain ⟨vm₁, cX, kX, hfX, hkX, -, -, X₁, st1⟩ := Y.newCold hexec (own := own) (C := cls) (index := ik) (n := 6) hown' hk' hins hini'
    (g := F0 m pc ls rest) rfl (by rw [hb]; exact d0) (Nat.le_refl _) (Nat.le_refl _)
  generalize hT1 : (T.setVm vm₁).pushCell { cls := cX, slots := kX.instanceTypes.map defaultValue, vm := .none } = T1 at X₁ st1
  have hcat : (Value.ref T.heap.size).category = 1 := rfl
  have hcellA : T1.heap[T.heap.size]? = some (freshCell cX kX) := by rw [← hT1]; exact State.heap_pushCell_size _ _
  have d3' : decode c.code (pc + 3) = .ok (.dup, 1) := by rw [hb]; exact d3
  obtain ⟨U, hsteps, hrun, hend, hW, hsame, ce, hce, hO⟩ := X₁.ctorThrow0 hexec htr (own := own) (cls := cls) (names := names) (ic := ic) hown' hcls hnames h (fun x hx => nomatch hx) hfX hkX hcellA (by rw [hhp, hT]; exact Nat.le_refl _)
    (g := { method := m, pc := pc + 4, locals := ls, stack := .ref T.heap.size :: .ref T.heap.size :: rest, locked := none }) rfl hsize rfl rfl (rest := rest) rfl
    (by rw [hb]; exact d4) (by rw [hb]; exact d7) hout hRframes (by simp only [List.map_cons, List.sum_cons, hcat]; omega) hlocks
  obtain ⟨f1, f2⟩ := vx_frame hsame
  rw [hhp] at f1 f2
  have hWs : s.WarmedH U.vm := State.WarmedH.trans hW0 hW
  have hcl : s.vm.findClass cls = some ce.cls := by
    have h9 := hO.cls
    rw [hvm] at h9
    exact h9
  have hall : s.sameButNew ({ U with vm := s.vm } : State) locs mc ms := by
    subst hA
    obtain ⟨e1, e2⟩ := hsame
    rw [State.setFrames_setFrames] at e1
    have h2 : (T.setVm s.vm).sameButNew ({ U with vm := s.vm } : State) [] (0 + 1) (0 + 6) := ⟨e1, e2⟩
    have h3 := X.same.trans h2
    rw [List.append_nil] at h3
    exact h3.mono hc hs
  refine ⟨U, ?_, .threw T.heap.size, hrun, hend, Or.inr ⟨T.heap.size, rfl, cls, ce, locs, hx U hWs.alike f1 (fun q hq => f2 q hq (fun z hz => nomatch hz)), hce, hO.vm, hcl, hWs, hall, hf⟩⟩
  refine st1 _ ?_
  show Steps p.tables e below (T1.setTop { method := m, pc := pc + 3, locals := ls, stack := .ref T.heap.size :: rest, locked := none }) _
  jvm_step X₁.here [X₁.here.top, hexec, d3', Value.category]
  exact hsteps
/-- 'throw new E("text")': new; dup; ldc; invokespecial; athrow -/
theorem vx_throwS {cc : ByteArray} {pc : Nat} (hexec : p.tables.exec = Jvm.exec) (hb : c.code = cc) (hl : l.stackTraces = false) {own cls text : String} {names : List String} {ik is ic mc ms sa : Nat} {A : Nat → Prop}
    (hown : s.vm.findClass own = some m.cls) (hcls : Bundle.fit cls = true) (hnames : ∀ n ∈ names, Bundle.fit n = true)
    (hk : (Cond.classLink own ik cls).before args s = true) (hini : (Cond.initialized cls).before args s = true) (hstr : vk_R own is text sa s) (hat : ∀ w ∈ vx_atS own ic cls names, w.before args s = true)
    (hgood : ∀ w ∈ Cond.classLink own ik cls :: Cond.initialized cls :: vx_atS own ic cls names, vx_ot w = true)
    (hU : vx_Zq Bundle.tN "UNASSIGNED_STACK" Bundle.steD A s s.heap) (hN : vx_Zq Bundle.tN "SUPPRESSED_SENTINEL" Bundle.listD A s s.heap) (hS : va_S A s.heap H locs) (hsize : ls.size = c.maxLocals)
    (d0 : decode cc pc = .ok (.new ik, 3)) (d3 : decode cc (pc + 3) = .ok (.dup, 1)) (d4 : decode cc (pc + 4) = .ok (.ldc is, 2)) (d6 : decode cc (pc + 6) = .ok (.invokespecial ic, 3)) (d9 : decode cc (pc + 9) = .ok (.athrow, 1))
    (hout : ∀ x ∈ c.exceptionTable.toList, covers x (pc + 9) = false)
    (hRframes : names.length + 3 < R.frames) (hRlocals : (rest.map fun v => v.category).sum + (13 * (names.length + 1) + 43) ≤ R.locals) (hRcells : cells + 1 ≤ R.cells) (hRslots : slots + 6 ≤ R.slots) (hlocks : meth.locks = false)
    (hx : ∀ t : State, s.vm.Alike t.vm → H.size ≤ t.heap.size → (∀ q : Nat, q < H.size → t.heap[q]? = H[q]?) → XC cls s t)
    (hf : ∀ z ∈ locs, free z.base) (hc : cells + 1 ≤ mc) (hs : slots + 6 ≤ ms) :
    W p l e R s m args below meth c H locs cells slots (vx_MQ below Qc XC args s mc ms free) (F0 m pc ls rest) := by
  intro T hT X
  have htr : e.platform.stackTraces = false := (show e.platform.stackTraces = l.stackTraces by rw [X.admits.platform]).trans hl
  have Y := vx_rebase X (R' := { frames := R.frames, locals := R.locals, cells := 1, slots := 6 }) (Nat.le_refl _) (Nat.le_refl _) hRcells hRslots
  obtain ⟨s', hA⟩ : ∃ z, z = (T.setVm s.vm).setFrames (.invoking m args :: below) := ⟨_, rfl⟩
  rw [← hA] at Y
  have hvm : s'.vm = s.vm := by rw [hA]; rfl
  have hhp : s'.heap = H := by rw [hA]; exact hT
  have hW0 : s.WarmedH s'.vm := by rw [hvm]; exact State.WarmedH.refl s
  have hat' : ∀ w ∈ vx_atS own ic cls names, w.before args s' = true := fun w hw => vx_ot_at hW0 hvm.symm (hgood w (List.mem_cons_of_mem _ (List.mem_cons_of_mem _ hw))) (hat w hw)
  have hk' : (Cond.classLink own ik cls).before args s' = true := vx_ot_at hW0 hvm.symm (hgood _ List.mem_cons_self) hk
  have hini' : (Cond.initialized cls).before args s' = true := vx_ot_at hW0 hvm.symm (hgood _ (List.mem_cons_of_mem _ List.mem_cons_self)) hini
  have hU' : vx_Zq Bundle.tN "UNASSIGNED_STACK" Bundle.steD A s' s'.heap := by rw [hhp]; exact vx_Zq.moved hW0.alike (hU.kept hS.2.1)
  have hN' : vx_Zq Bundle.tN "SUPPRESSED_SENTINEL" Bundle.listD A s' s'.heap := by rw [hhp]; exact vx_Zq.moved hW0.alike (hN.kept hS.2.1)
  have h : ∀ w ∈ Bundle.ownAtoms own ic cls names, w.before args s' = true := vx_own hat' (vx_isRefq hU'.1) (vx_isRefq hN'.1) hU'.2.word hN'.2.word
  have hown' : s'.vm.findClass own = some m.cls := by rw [hvm]; exact hown
  have hins : (Cond.instantiable cls 6).before args s' = true := h _ (by simp [Bundle.ownAtoms])
  obtain ⟨vm₁, cX, kX, hfX, hkX, -, -, X₁, st1⟩ := Y.newCold hexec (own := own) (C := cls) (index := ik) (n := 6) hown' hk' hins hini'
    (g := F0 m pc ls rest) rfl (by rw [hb]; exact d0) (Nat.le_refl _) (Nat.le_refl _)
  generalize hT1 : (T.setVm vm₁).pushCell { cls := cX, slots := kX.instanceTypes.map defaultValue, vm := .none } = T1 at X₁ st1
  have hcat : (Value.ref T.heap.size).category = 1 := rfl
  have hcellA : T1.heap[T.heap.size]? = some (freshCell cX kX) := by rw [← hT1]; exact State.heap_pushCell_size _ _
  have d3' : decode c.code (pc + 3) = .ok (.dup, 1) := by rw [hb]; exact d3
  have d4' : decode c.code (pc + 4) = .ok (.ldc is, 2) := by rw [hb]; exact d4
  have hstr' : vk_R own is text sa s' := vk_R.warm hW0 hstr
  obtain ⟨U, hsteps, hrun, hend, hW, hsame, ce, hce, hO⟩ := X₁.ctorThrowS hexec htr (own := own) (cls := cls) (names := names) (ic := ic) hown' hcls hnames h (fun x hx => nomatch hx) hfX hkX hcellA (by rw [hhp, hT]; exact Nat.le_refl _) (msg := .ref sa) rfl
    (g := { method := m, pc := pc + 6, locals := ls, stack := .ref sa :: .ref T.heap.size :: .ref T.heap.size :: rest, locked := none }) rfl hsize rfl rfl (rest := rest) rfl
    (by rw [hb]; exact d6) (by rw [hb]; exact d9) hout hRframes (by simp only [List.map_cons, List.sum_cons, hcat]; omega) hlocks
  obtain ⟨f1, f2⟩ := vx_frame hsame
  rw [hhp] at f1 f2
  have hWs : s.WarmedH U.vm := State.WarmedH.trans hW0 hW
  have hcl : s.vm.findClass cls = some ce.cls := by
    have h9 := hO.cls
    rw [hvm] at h9
    exact h9
  have hall : s.sameButNew ({ U with vm := s.vm } : State) locs mc ms := by
    subst hA
    obtain ⟨e1, e2⟩ := hsame
    rw [State.setFrames_setFrames] at e1
    have h2 : (T.setVm s.vm).sameButNew ({ U with vm := s.vm } : State) [] (0 + 1) (0 + 6) := ⟨e1, e2⟩
    have h3 := X.same.trans h2
    rw [List.append_nil] at h3
    exact h3.mono hc hs
  refine ⟨U, ?_, .threw T.heap.size, hrun, hend, Or.inr ⟨T.heap.size, rfl, cls, ce, locs, hx U hWs.alike f1 (fun q hq => f2 q hq (fun z hz => nomatch hz)), hce, hO.vm, hcl, hWs, hall, hf⟩⟩
  refine st1 _ ?_
  show Steps p.tables e below (T1.setTop { method := m, pc := pc + 3, locals := ls, stack := .ref T.heap.size :: rest, locked := none }) _
  jvm_step X₁.here [X₁.here.top, hexec, d3', Value.category]
  exact X₁.ldcString hexec (own := own) (text := text) (index := is) (a := sa) hown' hstr'.1 hstr'.2
    (g := { method := m, pc := pc + 4, locals := ls, stack := .ref T.heap.size :: .ref T.heap.size :: rest, locked := none }) rfl d4' _ hsteps
/-- 'throw new E("text")', the text by a wide index -/
theorem vx_throwSW {cc : ByteArray} {pc : Nat} (hexec : p.tables.exec = Jvm.exec) (hb : c.code = cc) (hl : l.stackTraces = false) {own cls text : String} {names : List String} {ik is ic mc ms sa : Nat} {A : Nat → Prop}
    (hown : s.vm.findClass own = some m.cls) (hcls : Bundle.fit cls = true) (hnames : ∀ n ∈ names, Bundle.fit n = true)
    (hk : (Cond.classLink own ik cls).before args s = true) (hini : (Cond.initialized cls).before args s = true) (hstr : vk_R own is text sa s) (hat : ∀ w ∈ vx_atS own ic cls names, w.before args s = true)
    (hgood : ∀ w ∈ Cond.classLink own ik cls :: Cond.initialized cls :: vx_atS own ic cls names, vx_ot w = true)
    (hU : vx_Zq Bundle.tN "UNASSIGNED_STACK" Bundle.steD A s s.heap) (hN : vx_Zq Bundle.tN "SUPPRESSED_SENTINEL" Bundle.listD A s s.heap) (hS : va_S A s.heap H locs) (hsize : ls.size = c.maxLocals)
    (d0 : decode cc pc = .ok (.new ik, 3)) (d3 : decode cc (pc + 3) = .ok (.dup, 1)) (d4 : decode cc (pc + 4) = .ok (.ldc_w is, 3)) (d7 : decode cc (pc + 7) = .ok (.invokespecial ic, 3)) (d10 : decode cc (pc + 10) = .ok (.athrow, 1))
    (hout : ∀ x ∈ c.exceptionTable.toList, covers x (pc + 10) = false)
    (hRframes : names.length + 3 < R.frames) (hRlocals : (rest.map fun v => v.category).sum + (13 * (names.length + 1) + 43) ≤ R.locals) (hRcells : cells + 1 ≤ R.cells) (hRslots : slots + 6 ≤ R.slots) (hlocks : meth.locks = false)
    (hx : ∀ t : State, s.vm.Alike t.vm → H.size ≤ t.heap.size → (∀ q : Nat, q < H.size → t.heap[q]? = H[q]?) → XC cls s t)
    (hf : ∀ z ∈ locs, free z.base) (hc : cells + 1 ≤ mc) (hs : slots + 6 ≤ ms) :
    W p l e R s m args below meth c H locs cells slots (vx_MQ below Qc XC args s mc ms free) (F0 m pc ls rest) := by
  intro T hT X
  have htr : e.platform.stackTraces = false := (show e.platform.stackTraces = l.stackTraces by rw [X.admits.platform]).trans hl
  have Y := vx_rebase X (R' := { frames := R.frames, locals := R.locals, cells := 1, slots := 6 }) (Nat.le_refl _) (Nat.le_refl _) hRcells hRslots
  obtain ⟨s', hA⟩ : ∃ z, z = (T.setVm s.vm).setFrames (.invoking m args :: below) := ⟨_, rfl⟩
  rw [← hA] at Y
  have hvm : s'.vm = s.vm := by rw [hA]; rfl
  have hhp : s'.heap = H := by rw [hA]; exact hT
  have hW0 : s.WarmedH s'.vm := by rw [hvm]; exact State.WarmedH.refl s
  have hat' : ∀ w ∈ vx_atS own ic cls names, w.before args s' = true := fun w hw => vx_ot_at hW0 hvm.symm (hgood w (List.mem_cons_of_mem _ (List.mem_cons_of_mem _ hw))) (hat w hw)
  have hk' : (Cond.classLink own ik cls).before args s' = true := vx_ot_at hW0 hvm.symm (hgood _ List.mem_cons_self) hk
  have hini' : (Cond.initialized cls).before args s' = true := vx_ot_at hW0 hvm.symm (hgood _ (List.mem_cons_of_mem _ List.mem_cons_self)) hini
  have hU' : vx_Zq Bundle.tN "UNASSIGNED_STACK" Bundle.steD A s' s'.heap := by rw [hhp]; exact vx_Zq.moved hW0.alike (hU.kept hS.2.1)
  have hN' : vx_Zq Bundle.tN "SUPPRESSED_SENTINEL" Bundle.listD A s' s'.heap := by rw [hhp]; exact vx_Zq.moved hW0.alike (hN.kept hS.2.1)
  have h : ∀ w ∈ Bundle.ownAtoms own ic cls names, w.before args s' = true := vx_own hat' (vx_isRefq hU'.1) (vx_isRefq hN'.1) hU'.2.word hN'.2.word
  have hown' : s'.vm.findClass own = some m.cls := by rw [hvm]; exact hown
  have hins : (Cond.instantiable cls 6).before args s' = true := h _ (by simp [Bundle.ownAtoms])
  obtain ⟨vm₁, cX, kX, hfX, hkX, -, -, X₁, st1⟩ := Y.newCold hexec (own := own) (C := cls) (index := ik) (n := 6) hown' hk' hins hini'
    (g := F0 m pc ls rest) rfl (by rw [hb]; exact d0) (Nat.le_refl _) (Nat.le_refl _)
  generalize hT1 : (T.setVm vm₁).pushCell { cls := cX, slots := kX.instanceTypes.map defaultValue, vm := .none } = T1 at X₁ st1
  have hcat : (Value.ref T.heap.size).category = 1 := rfl
  have hcellA : T1.heap[T.heap.size]? = some (freshCell cX kX) := by rw [← hT1]; exact State.heap_pushCell_size _ _
  have d3' : decode c.code (pc + 3) = .ok (.dup, 1) := by rw [hb]; exact d3
  have d4' : decode c.code (pc + 4) = .ok (.ldc_w is, 3) := by rw [hb]; exact d4
  have hstr' : vk_R own is text sa s' := vk_R.warm hW0 hstr
  obtain ⟨U, hsteps, hrun, hend, hW, hsame, ce, hce, hO⟩ := X₁.ctorThrowS hexec htr (own := own) (cls := cls) (names := names) (ic := ic) hown' hcls hnames h (fun x hx => nomatch hx) hfX hkX hcellA (by rw [hhp, hT]; exact Nat.le_refl _) (msg := .ref sa) rfl
    (g := { method := m, pc := pc + 7, locals := ls, stack := .ref sa :: .ref T.heap.size :: .ref T.heap.size :: rest, locked := none }) rfl hsize rfl rfl (rest := rest) rfl
    (by rw [hb]; exact d7) (by rw [hb]; exact d10) hout hRframes (by simp only [List.map_cons, List.sum_cons, hcat]; omega) hlocks
  obtain ⟨f1, f2⟩ := vx_frame hsame
  rw [hhp] at f1 f2
  have hWs : s.WarmedH U.vm := State.WarmedH.trans hW0 hW
  have hcl : s.vm.findClass cls = some ce.cls := by
    have h9 := hO.cls
    rw [hvm] at h9
    exact h9
  have hall : s.sameButNew ({ U with vm := s.vm } : State) locs mc ms := by
    subst hA
    obtain ⟨e1, e2⟩ := hsame
    rw [State.setFrames_setFrames] at e1
    have h2 : (T.setVm s.vm).sameButNew ({ U with vm := s.vm } : State) [] (0 + 1) (0 + 6) := ⟨e1, e2⟩
    have h3 := X.same.trans h2
    rw [List.append_nil] at h3
    exact h3.mono hc hs
  refine ⟨U, ?_, .threw T.heap.size, hrun, hend, Or.inr ⟨T.heap.size, rfl, cls, ce, locs, hx U hWs.alike f1 (fun q hq => f2 q hq (fun z hz => nomatch hz)), hce, hO.vm, hcl, hWs, hall, hf⟩⟩
  refine st1 _ ?_
  show Steps p.tables e below (T1.setTop { method := m, pc := pc + 3, locals := ls, stack := .ref T.heap.size :: rest, locked := none }) _
  jvm_step X₁.here [X₁.here.top, hexec, d3', Value.category]
  exact X₁.ldcStringW hexec (own := own) (text := text) (index := is) (a := sa) hown' hstr'.1 hstr'.2
    (g := { method := m, pc := pc + 4, locals := ls, stack := .ref T.heap.size :: .ref T.heap.size :: rest, locked := none }) rfl d4' _ hsteps
end Ends
section Bodies
variable {l : Launch}
theorem vx_ofW {y : MethodName} {ws ws' : List Cond} {rm : Room} {Pc : Array Value → State → Prop} {Qc : Array Value → State → Outcome → State → Prop} {XC : String → State → State → Prop} {mc ms : Nat} {free : Addr → Prop} {cc : ByteArray} {maxL : Nat} {ret : Option FieldType}
    (hy : plainName y.cls = true) (hw : ws = Cond.code y cc maxL ret :: ws')
    (body : ∀ p e s m args below meth c s₁, BodyLoose p l y (headSpec ws rm) cc maxL ret e s m args below meth c s₁ → c.maxLocals = maxL → (∀ x ∈ c.exceptionTable.toList, False) → Pc args s →
      W p l e (headSpec ws rm).room s m args below meth c s.heap [] 0 0 (vx_MQ below Qc XC args s mc ms free) (entryFrame m args maxL)) : vx_Met l y ws rm Pc Qc XC mc ms free := by
  refine MetFree.of_bodyS (code := cc) (maxLocals := maxL) (ret := ret) hy ?_ ?_
  · intro args s m h hn
    obtain ⟨meth, c, h1, h2, h3, h4, h5, h6, -, -⟩ := Cond.code_spec hn (atoms_spec (ws := ws) h _ (by rw [hw]; exact List.mem_cons_self))
    exact ⟨meth, c, h1, h2, h3, h4, h5, h6⟩
  · intro p e s m args below meth c s₁ B hml hP _
    have hh0 : s₁.heap = s.heap := by rw [B.state]; rfl
    have ht : ∀ x ∈ c.exceptionTable.toList, False := by
      obtain ⟨meth9, c9, h1, h2, -, -, -, -, h7, -⟩ := Cond.code_spec B.named (atoms_spec (ws := ws) B.pre _ (by rw [hw]; exact List.mem_cons_self))
      cases Option.some.inj (h1.symm.trans B.method)
      cases Option.some.inj (h2.symm.trans (Stand.of_body B).code)
      intro x hx
      rw [Array.isEmpty_iff.mp h7] at hx
      cases hx
    obtain ⟨t, a1, o, b1, b2, b3⟩ := body p e s m args below meth c s₁ B hml ht hP s₁ hh0 (Stand.of_body B)
    exact ⟨t, o, a1, b1, b2, b3⟩
/-- the table of a body with handlers -/
theorem vx_table {p : Program} {x y : MethodName} {S : Spec} {cc bytes : ByteArray} {maxL maxL' : Nat} {ret ret' : Option FieldType} {e : Env} {s s₁ : State} {m : MethodId} {args : Array Value} {below : List Frame} {meth : Method} {c : Code} {hh : List (Nat × Nat × Nat × Nat)}
    (B : BodyLoose p l y S cc maxL ret e s m args below meth c s₁) (h : (Cond.codeWith y bytes maxL' ret' hh).before args s = true) : c.exceptionTable.toList = tableOf hh := by
  obtain ⟨m9, meth9, c9, hn9, h1, h2, -, -, h6, -⟩ := Cond.codeWith_spec h
  cases Option.some.inj (hn9.symm.trans B.named)
  cases Option.some.inj (h1.symm.trans B.method)
  cases Option.some.inj (h2.symm.trans (Stand.of_body B).code)
  rw [← h6, table_eq]
end Bodies
end VXA
/-! ===== END ===== -/
/-! ===== BEGIN a static call of a method with an exception table ===== -/
section VXS
variable {p : Program} {l : Launch} {e : Env} {R : Room} {s : State} {m : MethodId} {args : Array Value} {below : List Frame} {meth : Method} {c : Code} {T : State} {H : Heap} {locs : List Loc} {cells slots : Nat}
abbrev vx_CSW (R : Room) (s : State) (args : Array Value) (own : String) (index : Nat) (y : MethodName) (bytes : ByteArray) (maxL : Nat) (ret : Option FieldType) (hh : List (Nat × Nat × Nat × Nat)) (ws : List Cond) (rm : Room) (mc ms n : Nat) : Prop :=
  (rm.cells = mc ∧ rm.slots = ms ∧ rm.frames + 1 ≤ R.frames ∧ 8 + (maxL + 11) + rm.locals ≤ R.locals ∧ (∀ w ∈ ws, ∀ (a' : Array Value) (U : State), s.WarmedH U.vm → w.before a' U = true) ∧ Cond.codeWith y bytes maxL ret hh ∈ ws) ∧
  (Cond.codeWith y bytes maxL ret hh).before args s = true ∧ (Cond.initialized y.cls).before args s = true ∧ (y.cls ≠ "java/lang/invoke/MethodHandle" ∧ y.cls ≠ "java/lang/invoke/VarHandle") ∧
  (∀ sig, parseMethodDescriptor y.desc = some sig → n = sig.parameters.length) ∧ (Cond.methodLink own index y).before args s = true ∧ (Cond.static y).before args s = true
theorem vx_cwSW {own : String} {index maxL mc ms : Nat} {y : MethodName} {bytes : ByteArray} {ret : Option FieldType} {hh : List (Nat × Nat × Nat × Nat)} {Ts ws ws' : List Cond} {rm : Room} (n : Nat) (ht : ∀ w ∈ Ts, w.before args s = true) (hT : GoodIn Ts (va_wsS own index y ws)) (hw : ws = Cond.codeWith y bytes maxL ret hh :: ws') (hrc : rm.cells = mc) (hrs : rm.slots = ms)
    (hd : y.cls ≠ "java/lang/invoke/MethodHandle" ∧ y.cls ≠ "java/lang/invoke/VarHandle" ∧ (parseMethodDescriptor y.desc).map (fun d => d.parameters.length) = some n) (hR : rm.frames + 1 ≤ R.frames ∧ 8 + (maxL + 11) + rm.locals ≤ R.locals) :
    vx_CSW R s args own index y bytes maxL ret hh ws rm mc ms n := by
  have ok : ∀ w ∈ va_wsS own index y ws, w.before args s = true := fun w h => ht w (hT w h).1
  have hG : GoodIn Ts ws := fun w h => hT w (by unfold va_wsS; exact List.mem_append_right _ h)
  have hc : Cond.codeWith y bytes maxL ret hh ∈ ws := by rw [hw]; exact List.mem_cons_self
  refine ⟨⟨hrc, hrs, hR.1, hR.2, pay_in ht hG, hc⟩, ht _ (hG _ hc).1, ok _ (by simp [va_wsS]), ⟨hd.1, hd.2.1⟩, fun sig h => ?_, ok _ (by simp [va_wsS]), ok _ (by simp [va_wsS])⟩
  have h2 := hd.2.2
  rw [h] at h2
  exact (Option.some.inj h2).symm
theorem vx_callSW (X : Stand p l e R s m args below meth c T locs cells slots) (hexec : p.tables.exec = Jvm.exec) {own : String} {index : Nat} {y : MethodName} {bytes : ByteArray} {maxL : Nat} {ret : Option FieldType} {hh : List (Nat × Nat × Nat × Nat)}
    (hown : s.vm.findClass own = some m.cls) (hlink : (Cond.methodLink own index y).before args s = true) (hstat : (Cond.static y).before args s = true) (hinit : (Cond.initialized y.cls).before args s = true)
    (hcode : (Cond.codeWith y bytes maxL ret hh).before args s = true) (hy : y.cls ≠ "java/lang/invoke/MethodHandle" ∧ y.cls ≠ "java/lang/invoke/VarHandle")
    {W9 : Nat} {Pre : Pt → Array Value → Prop} {Post : Pt → Array Value → Option Value → Pt → Prop} (hK : Back l R p e below s args y 3 W9 Pre Post)
    {g : JFrame} (hg : g.method = m) (hsize : g.locals.size = c.maxLocals) {argsL rest : List Value} (hlen : ∀ sig, parseMethodDescriptor y.desc = some sig → argsL.length = sig.parameters.length)
    (hstack : g.stack = argsL.reverse ++ rest) (hW : 2 * g.monitorRoom + (rest.map fun v => v.category).sum ≤ W9) (hdg : decode c.code g.pc = .ok (.invokestatic index, 3))
    (hpre : ∀ vm₁, s.WarmedH vm₁ → Pre ⟨T.setVm vm₁, locs, cells, slots⟩ argsL.toArray) :
    ∃ (v : Option Value) (vm₁ : Vm) (B : Pt), s.WarmedH vm₁ ∧ Stand p l e R s m args below meth c B.U B.locs B.cells B.slots ∧ Post ⟨T.setVm vm₁, locs, cells, slots⟩ argsL.toArray v B ∧
      ∀ target, Steps p.tables e below (B.U.setTop { g with pc := g.pc + 3, stack := v.toList ++ rest }) target → Steps p.tables e below (T.setTop g) target := by
  obtain ⟨mk, methM, cM, hnamed, hmethM, -, -, -, -, -, -, hsigM⟩ := Cond.codeWith_spec hcode
  have hstatic : methM.isStatic = true := Cond.static_spec hnamed hmethM hstat
  obtain ⟨kP, hkP, -⟩ := className_of_methodNamed hnamed
  have hinitP : kP.init = .initialized := Cond.initialized_spec (findClass_of_methodNamed hnamed) hkP hinit
  obtain ⟨vm₁, X₁, hstep₁⟩ := X.invokestatic hexec hown hlink hnamed hmethM hstatic hkP hinitP hy (g := g) hg (argsL := argsL) (rest := rest) (hlen _ hsigM) hstack hdg
  obtain ⟨v, B, X', hpost, hsteps⟩ := hK m meth c ⟨T.setVm vm₁, locs, cells, slots⟩ { g with stack := rest } (.invokestatic index) mk argsL.toArray X₁ hg hsize hdg hW (X₁.named hnamed) (hpre vm₁ X₁.warmed)
  exact ⟨v, vm₁, B, X₁.warmed, X', hpost, fun target h => hstep₁ _ fun acts => by rw [doInvoke_state]; exact hsteps.trans h⟩
theorem vx_runSW {y : MethodName} {bytes cc : ByteArray} {maxL nL mc ms n index : Nat} {ret : Option FieldType} {hh : List (Nat × Nat × Nat × Nat)} {ws : List Cond} {rm : Room} {Pc : Array Value → State → Prop} {Qc : Array Value → State → Outcome → State → Prop} {free : Addr → Prop} {Ts : List Cond} {own : String} {As rest : List Value} {g : JFrame}
    (S : CallFix p m c cc nL s args Ts own) (hM : Met l y ws rm Pc Qc mc ms free) (cw : vx_CSW R s args own index y bytes maxL ret hh ws rm mc ms n) (hp : PreS s H Pc As)
    (hg : g.method = m) (hn : As.length = n) (hsize : g.locals.size = nL) (hstack : g.stack = As.reverse ++ rest) (hW : 2 * g.monitorRoom + (rest.map fun v => v.category).sum ≤ 8) (hdg : decode cc g.pc = .ok (.invokestatic index, 3)) (hf : cells + mc ≤ R.cells ∧ slots + ms ≤ R.slots) :
    va_Run p l e R s m args below meth c H locs cells slots mc ms g rest (Qc As.toArray) (free) := by
  obtain ⟨⟨hrc, hrs, hfr, hlo, hws, hcw⟩, hcode, hini, hy, hlen, hl, hstt⟩ := cw
  have hK : Back l R p e below s args y 3 8 (PreOf R mc ms Pc) (PostOf Qc mc ms free) := va_backW (hh := hh) (bytes := bytes) (maxL := maxL) (ret := ret) hM hp.1 hrc hrs hfr hlo hws hcw (fun a' U hW => word_at hW (Or.inl (by first | rfl | simp [Cond.onTables, Cond.keeps, Cond.steady])) hini)
  obtain ⟨hx, hb, hml, ho, -⟩ := S
  intro T hT X
  obtain ⟨v, vm₁, ⟨U', l2, c2, s2⟩, hW₁, X', ⟨g', mk, t, L, e1, e2, hq, h1, hL, h2, h3⟩, st⟩ := vx_callSW X hx (hh := hh) (bytes := bytes) (maxL := maxL) (ret := ret) ho hl hstt hini hcode hy hK hg (hsize.trans hml.symm) (argsL := As) (rest := rest) (fun sig h => hn.trans (hlen sig h)) hstack hW (by rw [hb]; exact hdg)
    (fun vm₁ hW₁ => ⟨hf.1, hf.2, hp.2 (T.setVm vm₁) hT hW₁⟩)
  dsimp only [Pt.U, Pt.locs, Pt.cells, Pt.slots] at X' e1 e2 h1 h2 h3 st
  subst h1; subst h2; subst h3
  exact ⟨v, (T.setVm vm₁).calling g' mk As.toArray, t, U', L, hT, X', hL, e1, e2, hq, st⟩
/-- not caught here, past rows that name other classes: it goes on to the caller -/
theorem vx_outP {p : Program} {l : Launch} {e : Env} {R : Room} {s : State} {m : MethodId} {args : Array Value} {below : List Frame} {meth : Method} {c : Code} {H : Heap} {locs : List Loc} {cells slots : Nat} {free : Addr → Prop} {ls : Array Slot} {rest : List Value} {Qc : Array Value → State → Outcome → State → Prop} {XC : String → State → State → Prop}
    {pc : Nat} {own E : String} {ce : Cell} {q : Addr} {mc ms : Nat} (hown : s.vm.findClass own = some m.cls) (hlocks : meth.locks = false)
    (hpass : ∀ z ∈ c.exceptionTable.toList, covers z pc = false ∨ (z.catchType ≠ 0 ∧ ∃ nm : String, (Cond.classLink own z.catchType nm).before args s = true ∧ va_Nc E nm s)) (hcell : H[q]? = some ce) (hv : ce.vm = .none) (hcl : s.vm.findClass E = some ce.cls)
    (hx : ∀ t : State, t.heap = H → s.vm.Alike t.vm → XC E s t) (hf : ∀ z ∈ locs, free z.base) (hc : cells ≤ mc) (hs : slots ≤ ms) :
    vx_W p l e R s m args below meth c H locs cells slots (vx_MQ below Qc XC args s mc ms free) (F0 m pc ls rest) q := by
  intro T hT X
  have hpl : e.platform.magicAccessors = ({} : Platform).magicAccessors := by rw [X.admits.platform]
  obtain ⟨vm', hW', X', st⟩ := X.outThrough hlocks q (g := F0 m pc ls rest) rfl rfl rfl (cell := ce) (by rw [hT]; exact hcell) (by rw [hv]; rfl)
    (by obtain ⟨k9, h9, -⟩ := Vm.findClass_spec hcl; exact ⟨k9, h9⟩) (fun z hz => by
      rcases hpass z hz with h | ⟨hz0, nm, hl1, hn1⟩
      · exact Or.inl h
      · obtain ⟨c6, hc6, hcl6⟩ := Cond.classLink_spec hown hl1 e.platform hpl
        obtain ⟨a8, b8, h1, h2, h3⟩ := hn1
        cases Option.some.inj (h1.symm.trans hcl)
        cases Option.some.inj (h2.symm.trans hc6)
        exact Or.inr ⟨hz0, _, hcl6, h3⟩)
  obtain ⟨g₀, hfr⟩ := X'.frames_eq
  have hcell9 : ((T.setVm vm').setFrames (.throwing q :: below)).heap[q]? = some ce := by
    show T.heap[q]? = some ce
    rw [hT]; exact hcell
  have hend : Ended ((T.setVm vm').setFrames (.throwing q :: below)) below (.threw q) := State.frames_setFrames _ (State.cur_lt_of_frames hfr)
  refine ⟨(T.setVm vm').setFrames (.throwing q :: below), ?_, .threw q, X'.here.running, hend, Or.inr ⟨q, rfl, E, ce, locs, hx _ hT (X'.ends _).1.alike, hcell9, hv, hcl, (X'.ends _).1, (X'.ends _).2.mono hc hs, hf⟩⟩
  rw [X.pushThrowing_eq]
  exact st
/-- a thing of a world lies in the heap -/
theorem vx_lt {D : va_G} {cl : List vw_C} {ws : va_W} {H1 : Heap} (h : va_P D cl ws H1) {k : Nat} {q : Nat × va_E} (hk : ws[k]? = some q) : q.1 < H1.size := (h k q hk).lt
end VXS
/-! ===== END ===== -/
/-! ===== BEGIN methods with a table of their own: called by a name, returning or throwing ===== -/
section VXH
/-! vx_backW, vx_callVX, vx_callSX, vx_callVW, vx_runVW, vx_runVX, vx_runSX, vx_ofWH follow the same proofs as their sisters above (Free/Laws.lean, Shelf42/LK1.lean); vx_outP calls Shelf42/NT130.lean (outThrough). -/
section
variable {l : Launch} {R : Room} {p : Program} {e : Env} {below : List Frame} {s : State} {sargs : Array Value} {y : MethodName} {len W9 : Nat}
theorem vx_backW {ws : List Cond} {rm : Room} {Pc : Array Value → State → Prop} {Qc : Array Value → State → Outcome → State → Prop} {XC : String → State → State → Prop} {mc ms : Nat} {free : Addr → Prop} {bytes : ByteArray} {maxL : Nat} {ret : Option FieldType} {hh : List (Nat × Nat × Nat × Nat)}
    (hM : vx_Met l y ws rm Pc Qc XC mc ms free) (hblind : FrameBlind Pc) (hrc : rm.cells = mc) (hrs : rm.slots = ms)
    (hframes : rm.frames + 1 ≤ R.frames) (hlocals : W9 + (maxL + 11) + rm.locals ≤ R.locals)
    (hws : ∀ w ∈ ws, ∀ a' U, s.WarmedH U.vm → w.before a' U = true) (hcode : Cond.codeWith y bytes maxL ret hh ∈ ws) (hinit : ∀ a' U, s.WarmedH U.vm → (Cond.initialized y.cls).before a' U = true) :
    vx_Back l R p e below s sargs y len W9 (PreOf R mc ms Pc) (PostOf Qc mc ms free) (vx_Post XC mc ms free) := by
  intro m meth c A g ig mk a X hg hsize hdg hW hn hp
  have h1 : (headSpec ws rm).pre.before a A.U = true := atoms_intro fun w hw => hws w hw _ _ X.warmed
  have h2 : (Cond.codeWith y bytes maxL ret hh).before a A.U = true := hws _ hcode _ _ X.warmed
  have h3 : (Cond.initialized y.cls).before a A.U = true := hinit _ _ X.warmed
  have h4 : A.cells + (headSpec ws rm).room.cells ≤ R.cells := by rw [show (headSpec ws rm).room.cells = mc from hrc]; exact hp.1
  have h5 : A.slots + (headSpec ws rm).room.slots ≤ R.slots := by rw [show (headSpec ws rm).room.slots = ms from hrs]; exact hp.2.1
  have hPc : Pc a (A.U.calling g mk a) := hblind _ _ _ _ hp.2.2
  obtain ⟨U, Ls, c0, s0⟩ := A
  dsimp only [Pt.U, Pt.locs, Pt.cells, Pt.slots] at h1 h2 h3 h4 h5 X hn hPc ⊢
  obtain ⟨m9, methY, cY, hn9, hmY, hcY, -, hlY, -⟩ := Cond.codeWith_spec h2
  cases Option.some.inj (hn9.symm.trans hn)
  obtain ⟨kY, hkY, -⟩ := className_of_methodNamed hn
  have hinitY : kY.init = .initialized := Cond.initialized_spec (findClass_of_methodNamed hn) hkY h3
  have h : At U g.method c below := by rw [hg]; exact X.here
  have hlocals9 : W9 + (maxL + 11) + (headSpec ws rm).room.locals ≤ R.locals := hlocals
  have happ : (headSpec ws rm).appliesLoose y e.platform (U.calling g mk a) = true :=
    Spec.appliesLoose_calling (g := g) h hdg hn hkY hinitY
      (X.room_calling (g := g) (R' := (headSpec ws rm).room) hsize hmY hcY hframes (by rw [hlY]; omega) h4 h5) h1
  obtain ⟨mid, hmid⟩ := h.above
  have hfr : (U.setTop g).frames = (.java g :: mid) ++ below := by rw [State.frames_setTop' g h.top, hmid]; rfl
  obtain ⟨o, s₂, hsteps, -, hend, hq⟩ := Steps.callFree hM p X.admits X.cas X.clock (acts := []) hfr happ hPc trivial
  have hq' : vx_Q Qc XC mc ms free a (U.calling g mk a) o s₂ := hq
  rw [State.frames_setTop' g h.top] at hend
  obtain ⟨g₀, hg0⟩ := Option.isSome_iff_exists.mp h.top
  obtain ⟨r, hr⟩ := State.topJava?_eq_some.mp hg0
  have hr' : (({ U with heap := s₂.heap, slotsUsed := s₂.slotsUsed } : State).setVm s₂.vm).frames = .java g₀ :: r := hr
  rcases hq' with ⟨hqc, L, hfe, hL⟩ | ⟨q, rfl, E, ce, L, hx, hce, hcv, hcl, hW₂, hsm, hL⟩
  · obtain ⟨⟨v, rfl⟩, hW₂, e2, q2, q3, q4, q5, q6⟩ := id hfe
    have e3 : s₂ = ({ (U.calling g mk a).setFrames s₂.frames with heap := s₂.heap, slotsUsed := s₂.slotsUsed } : State).setVm s₂.vm := by
      have : s₂ = ({ s₂ with vm := (U.calling g mk a).vm } : State).setVm s₂.vm := rfl
      rw [e2] at this
      exact this
    obtain ⟨c₂, i₂, len₂, hc₂, hd₂, hf₂⟩ := hend
    have hW' : U.WarmedH s₂.vm := hW₂
    have hcc : c₂ = c := by
      have h1 : s₂.code? g.method = U.code? g.method := by
        rw [State.code?_eq, State.code?_eq, hW'.alike.method?]
      exact Option.some.inj (hc₂.symm.trans (h1.trans h.code))
    subst hcc
    have hlen : len₂ = len := by rw [hdg] at hd₂; cases hd₂; rfl
    subst hlen
    have hs₂ : s₂ = (({ U with heap := s₂.heap, slotsUsed := s₂.slotsUsed } : State).setVm s₂.vm).setTop { g with pc := g.pc + len₂, stack := v.toList ++ g.stack } := by
      refine e3.trans ?_
      rw [hf₂, State.calling_eq h.top, State.setFrames_setFrames, State.setTop_of_frames _ hr', hr]
      rfl
    have hsame : U.sameButNew ({ U with heap := s₂.heap, slotsUsed := s₂.slotsUsed } : State) L mc ms := by
      refine ⟨?_, q2, q3, q4, q5, q6⟩
      obtain ⟨t, ht, -⟩ := State.frames_cons hr
      show ({ U with heap := s₂.heap, slotsUsed := s₂.slotsUsed } : State) = { U.setFrames U.frames with heap := s₂.heap, slotsUsed := s₂.slotsUsed }
      rw [State.setFrames_self ht]
    subst hg
    refine Or.inl ⟨v, ⟨(({ U with heap := s₂.heap, slotsUsed := s₂.slotsUsed } : State).setVm s₂.vm), Ls ++ L, c0 + mc, s0 + ms⟩,
      ⟨X.admits, X.cas, X.clock, X.frames, X.room, X.hears, X.method, X.code, (X.here.setHeapUsed s₂.heap s₂.slotsUsed).setVm hW'.alike, X.tail, State.WarmedH.trans X.warmed hW', X.limits, X.bytes, X.same.trans (hsame.setVm s.vm)⟩,
      ⟨g, mk, s₂, L, rfl, rfl, hqc, rfl, hL, rfl, rfl⟩, ?_⟩
    show Steps p.tables e below _ ((({ U with heap := s₂.heap, slotsUsed := s₂.slotsUsed } : State).setVm s₂.vm).setTop { g with pc := g.pc + len₂, stack := v.toList ++ g.stack })
    rw [← hs₂]
    exact hsteps
  · obtain ⟨e2, q2, q3, q4, q5, q6⟩ := id hsm
    have e3 : s₂ = ({ (U.calling g mk a).setFrames s₂.frames with heap := s₂.heap, slotsUsed := s₂.slotsUsed } : State).setVm s₂.vm := by
      have : s₂ = ({ s₂ with vm := (U.calling g mk a).vm } : State).setVm s₂.vm := rfl
      rw [e2] at this
      exact this
    have hf₂ : s₂.frames = .throwing q :: .java g :: U.frames.tail := hend
    have hW' : U.WarmedH s₂.vm := hW₂
    have hs₂ : s₂ = ((({ U with heap := s₂.heap, slotsUsed := s₂.slotsUsed } : State).setVm s₂.vm).setTop g).pushFrame (.throwing q) := by
      refine e3.trans ?_
      rw [hf₂, State.calling_eq h.top, State.setFrames_setFrames, State.pushFrame, State.frames_setTop _ hr', State.setTop_of_frames _ hr', State.setFrames_setFrames, hr]
      rfl
    have hsame : U.sameButNew ({ U with heap := s₂.heap, slotsUsed := s₂.slotsUsed } : State) L mc ms := by
      refine ⟨?_, q2, q3, q4, q5, q6⟩
      obtain ⟨t, ht, -⟩ := State.frames_cons hr
      show ({ U with heap := s₂.heap, slotsUsed := s₂.slotsUsed } : State) = { U.setFrames U.frames with heap := s₂.heap, slotsUsed := s₂.slotsUsed }
      rw [State.setFrames_self ht]
    subst hg
    refine Or.inr ⟨q, ⟨(({ U with heap := s₂.heap, slotsUsed := s₂.slotsUsed } : State).setVm s₂.vm), Ls ++ L, c0 + mc, s0 + ms⟩,
      ⟨X.admits, X.cas, X.clock, X.frames, X.room, X.hears, X.method, X.code, (X.here.setHeapUsed s₂.heap s₂.slotsUsed).setVm hW'.alike, X.tail, State.WarmedH.trans X.warmed hW', X.limits, X.bytes, X.same.trans (hsame.setVm s.vm)⟩,
      ⟨g, mk, s₂, L, E, ce, rfl, rfl, hx, hce, hcv, hcl, rfl, hL, rfl, rfl⟩, ?_⟩
    show Steps p.tables e below _ (((({ U with heap := s₂.heap, slotsUsed := s₂.slotsUsed } : State).setVm s₂.vm).setTop g).pushFrame (.throwing q))
    rw [← hs₂]
    exact hsteps
end
variable {p : Program} {l : Launch} {e : Env} {R : Room} {s : State} {m : MethodId} {args : Array Value} {below : List Frame} {meth : Method} {c : Code} {T : State} {H : Heap} {locs : List Loc} {cells slots : Nat}
theorem vx_callVX (X : Stand p l e R s m args below meth c T locs cells slots) (hexec : p.tables.exec = Jvm.exec) {own C : String} {index : Nat} {y : MethodName} {bytes : ByteArray} {maxL : Nat} {ret : Option FieldType} {hh : List (Nat × Nat × Nat × Nat)}
    (hown : s.vm.findClass own = some m.cls) (hlink : (Cond.methodLink own index y).before args s = true) (hinst : (Cond.instanceMethod y).before args s = true) (hsel : (Cond.selects C y y).before args s = true)
    (hcode : (Cond.codeWith y bytes maxL ret hh).before args s = true) (hy : y.cls ≠ "java/lang/invoke/MethodHandle" ∧ y.cls ≠ "java/lang/invoke/VarHandle")
    {W9 : Nat} {Pre : Pt → Array Value → Prop} {Post : Pt → Array Value → Option Value → Pt → Prop} {PostX : Pt → Array Value → Addr → Pt → Prop} (hK : vx_Back l R p e below s args y 3 W9 Pre Post PostX)
    {b : Addr} {cellB : Cell} (hcell : T.heap[b]? = some cellB) (hobj : cellB.vm.isStatics = false) (hcls : s.vm.findClass C = some cellB.cls)
    {g : JFrame} (hg : g.method = m) (hsize : g.locals.size = c.maxLocals) {argsL rest : List Value} (hlen : ∀ sig, parseMethodDescriptor y.desc = some sig → argsL.length = sig.parameters.length)
    (hstack : g.stack = argsL.reverse ++ .ref b :: rest) (hW : 2 * g.monitorRoom + (rest.map fun v => v.category).sum ≤ W9) (hdg : decode c.code g.pc = .ok (.invokevirtual index, 3))
    (hpre : ∀ vm₁, s.WarmedH vm₁ → Pre ⟨T.setVm vm₁, locs, cells, slots⟩ (Value.ref b :: argsL).toArray) :
    (∃ (v : Option Value) (vm₁ : Vm) (B : Pt), s.WarmedH vm₁ ∧ Stand p l e R s m args below meth c B.U B.locs B.cells B.slots ∧ Post ⟨T.setVm vm₁, locs, cells, slots⟩ (Value.ref b :: argsL).toArray v B ∧
      ∀ target, Steps p.tables e below (B.U.setTop { g with pc := g.pc + 3, stack := v.toList ++ rest }) target → Steps p.tables e below (T.setTop g) target) ∨
    (∃ (q : Addr) (vm₁ : Vm) (B : Pt), s.WarmedH vm₁ ∧ Stand p l e R s m args below meth c B.U B.locs B.cells B.slots ∧ PostX ⟨T.setVm vm₁, locs, cells, slots⟩ (Value.ref b :: argsL).toArray q B ∧
      Steps p.tables e below (T.setTop g) ((B.U.setTop { g with stack := rest }).pushFrame (.throwing q))) := by
  obtain ⟨mk, methM, hnamed, hmethM, hstM, habM⟩ := Cond.instanceMethod_spec hinst
  obtain ⟨m8, methM', cM, hn8, hmethM', -, -, -, -, -, -, hsigM⟩ := Cond.codeWith_spec hcode
  cases Option.some.inj (hn8.symm.trans hnamed)
  cases hmethM.symm.trans hmethM'
  obtain ⟨c2, r2, m2, q1, q2, q3, q4, kP, hkP, hkPi⟩ := Cond.selects_spec hsel
  cases hcls.symm.trans q1
  cases (State.methodFound?_of_named hnamed hy).symm.trans q2
  cases hnamed.symm.trans q3
  have hselP : selectMethod e.platform s.vm cellB.cls mk = .method mk := by rw [Launch.admits_selectMethod X.admits]; exact q4
  obtain ⟨vm₁, X₁, hstep₁⟩ := X.invokevirtual hexec hown hlink hnamed hmethM hstM hkP hkPi hy (a := b) (cell := cellB) hcell
    (fun z h => by rw [h] at hobj; cases hobj) hselP hmethM habM hkP hkPi (g := g) hg (argsL := argsL) (rest := rest) (hlen _ hsigM) hstack hdg
  rcases hK m meth c ⟨T.setVm vm₁, locs, cells, slots⟩ { g with stack := rest } (.invokevirtual index) mk (Value.ref b :: argsL).toArray X₁ hg hsize hdg hW (X₁.named hnamed) (hpre vm₁ X₁.warmed) with ⟨v, B, X', hpost, hsteps⟩ | ⟨q, B, X', hpost, hsteps⟩
  · exact Or.inl ⟨v, vm₁, B, X₁.warmed, X', hpost, fun target h => hstep₁ _ fun acts => by rw [doInvoke_state]; exact hsteps.trans h⟩
  · exact Or.inr ⟨q, vm₁, B, X₁.warmed, X', hpost, hstep₁ _ fun acts => by rw [doInvoke_state]; exact hsteps⟩
theorem vx_callSX (X : Stand p l e R s m args below meth c T locs cells slots) (hexec : p.tables.exec = Jvm.exec) {own : String} {index : Nat} {y : MethodName} {bytes : ByteArray} {maxL : Nat} {ret : Option FieldType} {hh : List (Nat × Nat × Nat × Nat)}
    (hown : s.vm.findClass own = some m.cls) (hlink : (Cond.methodLink own index y).before args s = true) (hstat : (Cond.static y).before args s = true) (hinit : (Cond.initialized y.cls).before args s = true)
    (hcode : (Cond.codeWith y bytes maxL ret hh).before args s = true) (hy : y.cls ≠ "java/lang/invoke/MethodHandle" ∧ y.cls ≠ "java/lang/invoke/VarHandle")
    {W9 : Nat} {Pre : Pt → Array Value → Prop} {Post : Pt → Array Value → Option Value → Pt → Prop} {PostX : Pt → Array Value → Addr → Pt → Prop} (hK : vx_Back l R p e below s args y 3 W9 Pre Post PostX)
    {g : JFrame} (hg : g.method = m) (hsize : g.locals.size = c.maxLocals) {argsL rest : List Value} (hlen : ∀ sig, parseMethodDescriptor y.desc = some sig → argsL.length = sig.parameters.length)
    (hstack : g.stack = argsL.reverse ++ rest) (hW : 2 * g.monitorRoom + (rest.map fun v => v.category).sum ≤ W9) (hdg : decode c.code g.pc = .ok (.invokestatic index, 3))
    (hpre : ∀ vm₁, s.WarmedH vm₁ → Pre ⟨T.setVm vm₁, locs, cells, slots⟩ argsL.toArray) :
    (∃ (v : Option Value) (vm₁ : Vm) (B : Pt), s.WarmedH vm₁ ∧ Stand p l e R s m args below meth c B.U B.locs B.cells B.slots ∧ Post ⟨T.setVm vm₁, locs, cells, slots⟩ argsL.toArray v B ∧
      ∀ target, Steps p.tables e below (B.U.setTop { g with pc := g.pc + 3, stack := v.toList ++ rest }) target → Steps p.tables e below (T.setTop g) target) ∨
    (∃ (q : Addr) (vm₁ : Vm) (B : Pt), s.WarmedH vm₁ ∧ Stand p l e R s m args below meth c B.U B.locs B.cells B.slots ∧ PostX ⟨T.setVm vm₁, locs, cells, slots⟩ argsL.toArray q B ∧
      Steps p.tables e below (T.setTop g) ((B.U.setTop { g with stack := rest }).pushFrame (.throwing q))) := by
  obtain ⟨mk, methM, cM, hnamed, hmethM, -, -, -, -, -, -, hsigM⟩ := Cond.codeWith_spec hcode
  have hstatic : methM.isStatic = true := Cond.static_spec hnamed hmethM hstat
  obtain ⟨kP, hkP, -⟩ := className_of_methodNamed hnamed
  have hinitP : kP.init = .initialized := Cond.initialized_spec (findClass_of_methodNamed hnamed) hkP hinit
  obtain ⟨vm₁, X₁, hstep₁⟩ := X.invokestatic hexec hown hlink hnamed hmethM hstatic hkP hinitP hy (g := g) hg (argsL := argsL) (rest := rest) (hlen _ hsigM) hstack hdg
  rcases hK m meth c ⟨T.setVm vm₁, locs, cells, slots⟩ { g with stack := rest } (.invokestatic index) mk argsL.toArray X₁ hg hsize hdg hW (X₁.named hnamed) (hpre vm₁ X₁.warmed) with ⟨v, B, X', hpost, hsteps⟩ | ⟨q, B, X', hpost, hsteps⟩
  · exact Or.inl ⟨v, vm₁, B, X₁.warmed, X', hpost, fun target h => hstep₁ _ fun acts => by rw [doInvoke_state]; exact hsteps.trans h⟩
  · exact Or.inr ⟨q, vm₁, B, X₁.warmed, X', hpost, hstep₁ _ fun acts => by rw [doInvoke_state]; exact hsteps⟩
theorem vx_callVW (X : Stand p l e R s m args below meth c T locs cells slots) (hexec : p.tables.exec = Jvm.exec) {own C : String} {index : Nat} {y : MethodName} {bytes : ByteArray} {maxL : Nat} {ret : Option FieldType} {hh : List (Nat × Nat × Nat × Nat)}
    (hown : s.vm.findClass own = some m.cls) (hlink : (Cond.methodLink own index y).before args s = true) (hinst : (Cond.instanceMethod y).before args s = true) (hsel : (Cond.selects C y y).before args s = true)
    (hcode : (Cond.codeWith y bytes maxL ret hh).before args s = true) (hy : y.cls ≠ "java/lang/invoke/MethodHandle" ∧ y.cls ≠ "java/lang/invoke/VarHandle")
    {W9 : Nat} {Pre : Pt → Array Value → Prop} {Post : Pt → Array Value → Option Value → Pt → Prop} (hK : Back l R p e below s args y 3 W9 Pre Post)
    {b : Addr} {cellB : Cell} (hcell : T.heap[b]? = some cellB) (hobj : cellB.vm.isStatics = false) (hcls : s.vm.findClass C = some cellB.cls)
    {g : JFrame} (hg : g.method = m) (hsize : g.locals.size = c.maxLocals) {argsL rest : List Value} (hlen : ∀ sig, parseMethodDescriptor y.desc = some sig → argsL.length = sig.parameters.length)
    (hstack : g.stack = argsL.reverse ++ .ref b :: rest) (hW : 2 * g.monitorRoom + (rest.map fun v => v.category).sum ≤ W9) (hdg : decode c.code g.pc = .ok (.invokevirtual index, 3))
    (hpre : ∀ vm₁, s.WarmedH vm₁ → Pre ⟨T.setVm vm₁, locs, cells, slots⟩ (Value.ref b :: argsL).toArray) :
    ∃ (v : Option Value) (vm₁ : Vm) (B : Pt), s.WarmedH vm₁ ∧ Stand p l e R s m args below meth c B.U B.locs B.cells B.slots ∧ Post ⟨T.setVm vm₁, locs, cells, slots⟩ (Value.ref b :: argsL).toArray v B ∧
      ∀ target, Steps p.tables e below (B.U.setTop { g with pc := g.pc + 3, stack := v.toList ++ rest }) target → Steps p.tables e below (T.setTop g) target := by
  obtain ⟨mk, methM, hnamed, hmethM, hstM, habM⟩ := Cond.instanceMethod_spec hinst
  obtain ⟨m8, methM', cM, hn8, hmethM', -, -, -, -, -, -, hsigM⟩ := Cond.codeWith_spec hcode
  cases Option.some.inj (hn8.symm.trans hnamed)
  cases hmethM.symm.trans hmethM'
  obtain ⟨c2, r2, m2, q1, q2, q3, q4, kP, hkP, hkPi⟩ := Cond.selects_spec hsel
  cases hcls.symm.trans q1
  cases (State.methodFound?_of_named hnamed hy).symm.trans q2
  cases hnamed.symm.trans q3
  have hselP : selectMethod e.platform s.vm cellB.cls mk = .method mk := by rw [Launch.admits_selectMethod X.admits]; exact q4
  obtain ⟨vm₁, X₁, hstep₁⟩ := X.invokevirtual hexec hown hlink hnamed hmethM hstM hkP hkPi hy (a := b) (cell := cellB) hcell
    (fun z h => by rw [h] at hobj; cases hobj) hselP hmethM habM hkP hkPi (g := g) hg (argsL := argsL) (rest := rest) (hlen _ hsigM) hstack hdg
  obtain ⟨v, B, X', hpost, hsteps⟩ := hK m meth c ⟨T.setVm vm₁, locs, cells, slots⟩ { g with stack := rest } (.invokevirtual index) mk (Value.ref b :: argsL).toArray X₁ hg hsize hdg hW (X₁.named hnamed) (hpre vm₁ X₁.warmed)
  exact ⟨v, vm₁, B, X₁.warmed, X', hpost, fun target h => hstep₁ _ fun acts => by rw [doInvoke_state]; exact hsteps.trans h⟩
abbrev vx_CVW (R : Room) (s : State) (args : Array Value) (own C : String) (index : Nat) (y : MethodName) (bytes : ByteArray) (maxL : Nat) (ret : Option FieldType) (hh : List (Nat × Nat × Nat × Nat)) (ws : List Cond) (rm : Room) (mc ms n : Nat) : Prop :=
  (rm.cells = mc ∧ rm.slots = ms ∧ rm.frames + 1 ≤ R.frames ∧ 8 + (maxL + 11) + rm.locals ≤ R.locals ∧ (∀ w ∈ ws, ∀ (a' : Array Value) (U : State), s.WarmedH U.vm → w.before a' U = true) ∧ Cond.codeWith y bytes maxL ret hh ∈ ws) ∧
  (Cond.codeWith y bytes maxL ret hh).before args s = true ∧ (Cond.initialized y.cls).before args s = true ∧ (y.cls ≠ "java/lang/invoke/MethodHandle" ∧ y.cls ≠ "java/lang/invoke/VarHandle") ∧
  (∀ sig, parseMethodDescriptor y.desc = some sig → n = sig.parameters.length) ∧ (Cond.methodLink own index y).before args s = true ∧ (Cond.instanceMethod y).before args s = true ∧ (Cond.selects C y y).before args s = true
theorem vx_cwVW {own C : String} {index maxL mc ms : Nat} {y : MethodName} {bytes : ByteArray} {ret : Option FieldType} {hh : List (Nat × Nat × Nat × Nat)} {Ts ws ws' : List Cond} {rm : Room} (n : Nat) (ht : ∀ w ∈ Ts, w.before args s = true) (hT : GoodIn Ts (wsV own index C y ws)) (hw : ws = Cond.codeWith y bytes maxL ret hh :: ws') (hrc : rm.cells = mc) (hrs : rm.slots = ms)
    (hd : y.cls = C ∧ y.cls ≠ "java/lang/invoke/MethodHandle" ∧ y.cls ≠ "java/lang/invoke/VarHandle" ∧ (parseMethodDescriptor y.desc).map (fun d => d.parameters.length) = some n) (hR : rm.frames + 1 ≤ R.frames ∧ 8 + (maxL + 11) + rm.locals ≤ R.locals) :
    vx_CVW R s args own C index y bytes maxL ret hh ws rm mc ms n := by
  obtain ⟨hC, hd⟩ := hd
  subst hC
  have ok : ∀ w ∈ wsV own index y.cls y ws, w.before args s = true := fun w h => ht w (hT w h).1
  have hG : GoodIn Ts ws := fun w h => hT w (by unfold wsV; exact List.mem_append_right _ h)
  have hc : Cond.codeWith y bytes maxL ret hh ∈ ws := by rw [hw]; exact List.mem_cons_self
  refine ⟨⟨hrc, hrs, hR.1, hR.2, pay_in ht hG, hc⟩, ht _ (hG _ hc).1, ok _ (by simp [wsV]), ⟨hd.1, hd.2.1⟩, fun sig h => ?_, ok _ (by simp [wsV]), ok _ (by simp [wsV]), ok _ (by simp [wsV])⟩
  have h2 := hd.2.2
  rw [h] at h2
  exact (Option.some.inj h2).symm
theorem vx_runVW {y : MethodName} {bytes cc : ByteArray} {maxL nL mc ms n index : Nat} {ret : Option FieldType} {hh : List (Nat × Nat × Nat × Nat)} {ws : List Cond} {rm : Room} {Pc : Array Value → State → Prop} {Qc : Array Value → State → Outcome → State → Prop} {free : Addr → Prop} {Ts : List Cond} {own C : String} {b : Addr} {As rest : List Value} {g : JFrame}
    (S : CallFix p m c cc nL s args Ts own) (hM : Met l y ws rm Pc Qc mc ms free) (cw : vx_CVW R s args own C index y bytes maxL ret hh ws rm mc ms n) (hp : PreV s H C b Pc As)
    (hg : g.method = m) (hn : As.length = n) (hsize : g.locals.size = nL) (hstack : g.stack = As.reverse ++ .ref b :: rest) (hW : 2 * g.monitorRoom + (rest.map fun v => v.category).sum ≤ 8) (hdg : decode cc g.pc = .ok (.invokevirtual index, 3)) (hf : cells + mc ≤ R.cells ∧ slots + ms ≤ R.slots) :
    va_Run p l e R s m args below meth c H locs cells slots mc ms g rest (Qc (Value.ref b :: As).toArray) free := by
  obtain ⟨⟨hrc, hrs, hfr, hlo, hws, hcw⟩, hcode, hini, hy, hlen, hl, hin, hse⟩ := cw
  have hK : Back l R p e below s args y 3 8 (PreOf R mc ms Pc) (PostOf Qc mc ms free) := va_backW (hh := hh) (bytes := bytes) (maxL := maxL) (ret := ret) hM hp.1 hrc hrs hfr hlo hws hcw (fun a' U hW => word_at hW (Or.inl (by first | rfl | simp [Cond.onTables, Cond.keeps, Cond.steady])) hini)
  obtain ⟨hx, hb, hml, ho, -⟩ := S
  obtain ⟨-, ⟨cellB, hcB, hoB, hclB⟩, hPc⟩ := hp
  intro T hT X
  obtain ⟨v, vm₁, ⟨U', l2, c2, s2⟩, hW₁, X', ⟨g', mk, t, L, e1, e2, hq, h1, hL, h2, h3⟩, st⟩ := vx_callVW X hx (C := C) (hh := hh) (bytes := bytes) (maxL := maxL) (ret := ret) ho hl hin hse hcode hy hK (by rw [hT]; exact hcB) hoB hclB hg (hsize.trans hml.symm) (argsL := As) (rest := rest) (fun sig h => hn.trans (hlen sig h)) hstack hW (by rw [hb]; exact hdg)
    (fun vm₁ hW₁ => ⟨hf.1, hf.2, hPc (T.setVm vm₁) hT hW₁⟩)
  dsimp only [Pt.U, Pt.locs, Pt.cells, Pt.slots] at X' e1 e2 h1 h2 h3 st
  subst h1; subst h2; subst h3
  exact ⟨v, (T.setVm vm₁).calling g' mk (Value.ref b :: As).toArray, t, U', L, hT, X', hL, e1, e2, hq, st⟩
section
variable {y : MethodName} {bytes cc : ByteArray} {maxL nL mc ms n index : Nat} {ret : Option FieldType} {ws : List Cond} {rm : Room} {Pc : Array Value → State → Prop} {Qc : Array Value → State → Outcome → State → Prop} {XC : String → State → State → Prop} {free : Addr → Prop} {Ts : List Cond} {own C : String} {b : Addr} {As rest : List Value} {g : JFrame}
theorem vx_runVX {hh : List (Nat × Nat × Nat × Nat)} (S : CallFix p m c cc nL s args Ts own) (hM : vx_Met l y ws rm Pc Qc XC mc ms free) (cw : vx_CVW R s args own C index y bytes maxL ret hh ws rm mc ms n) (hp : PreV s H C b Pc As)
    (hg : g.method = m) (hn : As.length = n) (hsize : g.locals.size = nL) (hstack : g.stack = As.reverse ++ .ref b :: rest) (hW : 2 * g.monitorRoom + (rest.map fun v => v.category).sum ≤ 8) (hdg : decode cc g.pc = .ok (.invokevirtual index, 3)) (hf : cells + mc ≤ R.cells ∧ slots + ms ≤ R.slots) :
    vx_Run p l e R s m args below meth c H locs cells slots mc ms g rest (Qc (Value.ref b :: As).toArray) XC free := by
  obtain ⟨⟨hrc, hrs, hfr, hlo, hws, hcw⟩, hcode, hini, hy, hlen, hl, hin, hse⟩ := cw
  have hK : vx_Back l R p e below s args y 3 8 (PreOf R mc ms Pc) (PostOf Qc mc ms free) (vx_Post XC mc ms free) := vx_backW (hh := hh) (bytes := bytes) (maxL := maxL) (ret := ret) hM hp.1 hrc hrs hfr hlo hws hcw (fun a' U hW => word_at hW (Or.inl (by first | rfl | simp [Cond.onTables, Cond.keeps, Cond.steady])) hini)
  obtain ⟨hx, hb, hml, ho, -⟩ := S
  obtain ⟨-, ⟨cellB, hcB, hoB, hclB⟩, hPc⟩ := hp
  intro T hT X
  rcases vx_callVX X hx (C := C) (hh := hh) (bytes := bytes) (maxL := maxL) (ret := ret) ho hl hin hse hcode hy hK (by rw [hT]; exact hcB) hoB hclB hg (hsize.trans hml.symm) (argsL := As) (rest := rest) (fun sig h => hn.trans (hlen sig h)) hstack hW (by rw [hb]; exact hdg)
    (fun vm₁ hW₁ => ⟨hf.1, hf.2, hPc (T.setVm vm₁) hT hW₁⟩) with ⟨v, vm₁, ⟨U', l2, c2, s2⟩, hW₁, X', ⟨g', mk, t, L, e1, e2, hq, h1, hL, h2, h3⟩, st⟩ | ⟨q, vm₁, ⟨U', l2, c2, s2⟩, hW₁, X', ⟨g', mk, t, L, E, ce, e1, e2, hq, hce, hcv, hcl, h1, hL, h2, h3⟩, st⟩
  · dsimp only [Pt.U, Pt.locs, Pt.cells, Pt.slots] at X' e1 e2 h1 h2 h3 st
    subst h1; subst h2; subst h3
    exact Or.inl ⟨v, (T.setVm vm₁).calling g' mk (Value.ref b :: As).toArray, t, U', L, hT, X', hL, e1, e2, hq, st⟩
  · dsimp only [Pt.U, Pt.locs, Pt.cells, Pt.slots] at X' e1 e2 h1 h2 h3 st hcl
    subst h1; subst h2; subst h3
    exact Or.inr ⟨q, (T.setVm vm₁).calling g' mk (Value.ref b :: As).toArray, t, U', L, E, ce, hT, X', hL, e1, e2, hq, hce, hcv, vx_cls hW₁ hcl, st⟩
theorem vx_runSX {hh : List (Nat × Nat × Nat × Nat)} (S : CallFix p m c cc nL s args Ts own) (hM : vx_Met l y ws rm Pc Qc XC mc ms free) (cw : vx_CSW R s args own index y bytes maxL ret hh ws rm mc ms n) (hp : PreS s H Pc As)
    (hg : g.method = m) (hn : As.length = n) (hsize : g.locals.size = nL) (hstack : g.stack = As.reverse ++ rest) (hW : 2 * g.monitorRoom + (rest.map fun v => v.category).sum ≤ 8) (hdg : decode cc g.pc = .ok (.invokestatic index, 3)) (hf : cells + mc ≤ R.cells ∧ slots + ms ≤ R.slots) :
    vx_Run p l e R s m args below meth c H locs cells slots mc ms g rest (Qc As.toArray) XC free := by
  obtain ⟨⟨hrc, hrs, hfr, hlo, hws, hcw⟩, hcode, hini, hy, hlen, hl, hstt⟩ := cw
  have hK : vx_Back l R p e below s args y 3 8 (PreOf R mc ms Pc) (PostOf Qc mc ms free) (vx_Post XC mc ms free) := vx_backW (hh := hh) (bytes := bytes) (maxL := maxL) (ret := ret) hM hp.1 hrc hrs hfr hlo hws hcw (fun a' U hW => word_at hW (Or.inl (by first | rfl | simp [Cond.onTables, Cond.keeps, Cond.steady])) hini)
  obtain ⟨hx, hb, hml, ho, -⟩ := S
  intro T hT X
  rcases vx_callSX X hx (hh := hh) (bytes := bytes) (maxL := maxL) (ret := ret) ho hl hstt hini hcode hy hK hg (hsize.trans hml.symm) (argsL := As) (rest := rest) (fun sig h => hn.trans (hlen sig h)) hstack hW (by rw [hb]; exact hdg)
    (fun vm₁ hW₁ => ⟨hf.1, hf.2, hp.2 (T.setVm vm₁) hT hW₁⟩) with ⟨v, vm₁, ⟨U', l2, c2, s2⟩, hW₁, X', ⟨g', mk, t, L, e1, e2, hq, h1, hL, h2, h3⟩, st⟩ | ⟨q, vm₁, ⟨U', l2, c2, s2⟩, hW₁, X', ⟨g', mk, t, L, E, ce, e1, e2, hq, hce, hcv, hcl, h1, hL, h2, h3⟩, st⟩
  · dsimp only [Pt.U, Pt.locs, Pt.cells, Pt.slots] at X' e1 e2 h1 h2 h3 st
    subst h1; subst h2; subst h3
    exact Or.inl ⟨v, (T.setVm vm₁).calling g' mk As.toArray, t, U', L, hT, X', hL, e1, e2, hq, st⟩
  · dsimp only [Pt.U, Pt.locs, Pt.cells, Pt.slots] at X' e1 e2 h1 h2 h3 st hcl
    subst h1; subst h2; subst h3
    exact Or.inr ⟨q, (T.setVm vm₁).calling g' mk As.toArray, t, U', L, E, ce, hT, X', hL, e1, e2, hq, hce, hcv, vx_cls hW₁ hcl, st⟩
end
end VXH
theorem vx_ofWH {l : Launch} {y : MethodName} {ws ws' : List Cond} {rm : Room} {Pc : Array Value → State → Prop} {Qc : Array Value → State → Outcome → State → Prop} {XC : String → State → State → Prop} {mc ms : Nat} {free : Addr → Prop} {cc : ByteArray} {maxL : Nat} {ret : Option FieldType} {hh : List (Nat × Nat × Nat × Nat)}
    (hy : plainName y.cls = true) (hw : ws = Cond.codeWith y cc maxL ret hh :: ws')
    (body : ∀ p e s m args below meth c s₁, BodyLoose p l y (headSpec ws rm) cc maxL ret e s m args below meth c s₁ → c.maxLocals = maxL → Pc args s →
      W p l e (headSpec ws rm).room s m args below meth c s.heap [] 0 0 (vx_MQ below Qc XC args s mc ms free) (entryFrame m args maxL)) : vx_Met l y ws rm Pc Qc XC mc ms free := by
  refine MetFree.of_bodyS (code := cc) (maxLocals := maxL) (ret := ret) hy ?_ ?_
  · intro args s m h hn
    obtain ⟨m9, meth, c, hn9, h1, h2, h3, h4, -, h5, h6, -⟩ := Cond.codeWith_spec (atoms_spec (ws := ws) h _ (by rw [hw]; exact List.mem_cons_self))
    cases hn.symm.trans hn9
    exact ⟨meth, c, h1, h2, h3, h4, h5, h6⟩
  · intro p e s m args below meth c s₁ B hml hP _
    have hh0 : s₁.heap = s.heap := by rw [B.state]; rfl
    obtain ⟨t, a1, o, b1, b2, b3⟩ := body p e s m args below meth c s₁ B hml hP s₁ hh0 (Stand.of_body B)
    exact ⟨t, o, a1, b1, b2, b3⟩
/-! ===== END ===== -/

/-! ===== BEGIN printed: names, fields, word lists, decode rows ===== -/
def RX0 : String := "CollectionsEngine$Bill"
def TX0 : u_T := fun k => match k with
  | 0 => ("CollectionsEngine$Bill", "number", "I", true)
  | 1 => ("CollectionsEngine$Bill", "account", "I", true)
  | 2 => ("CollectionsEngine$Bill", "failures", "[I", true)
  | 3 => ("CollectionsEngine$Bill", "left", "I", false)
  | 4 => ("CollectionsEngine$Bill", "state", "I", false)
  | 5 => ("CollectionsEngine$Bill", "waitDay", "I", false)
  | 6 => ("CollectionsEngine$Bill", "tries", "I", false)
  | 7 => ("CollectionsEngine$Bill", "promises", "I", false)
  | 8 => ("CollectionsEngine$Bill", "brokenPromises", "I", false)
  | 9 => ("CollectionsEngine$Bill", "stateAhead", "I", false)
  | _ => ("CollectionsEngine$Bill", "daysAhead", "I", false)
def tyX0 : Nat → FieldType := fun k => match k with
  | 0 => .int
  | 1 => .int
  | 2 => .array .int
  | 3 => .int
  | 4 => .int
  | 5 => .int
  | 6 => .int
  | 7 => .int
  | 8 => .int
  | 9 => .int
  | _ => .int
abbrev wsX00 : List Cond := u_ws RX0 TX0 11
theorem nmX0 : ∀ a, a < 11 → ∀ b, b < 11 → a ≠ b → (TX0 a).2.1 ≠ (TX0 b).2.1 := by decide +kernel
theorem tyX0_ok : ∀ k, k < 11 → parseFieldDescriptor (TX0 k).2.2.1 = some (tyX0 k) := by decide +kernel
abbrev cX0_init : ByteArray := prog_2_method_1_code
def yX0_init : MethodName := ⟨RX0, "<init>", "(III)V"⟩
def RX1 : String := "CollectionsEngine$Calendar"
def TX1 : u_T := fun k => match k with
  | 0 => ("CollectionsEngine$Calendar", "weekdays", "I", false)
  | _ => ("CollectionsEngine$Calendar", "holidays", "[J", true)
def tyX1 : Nat → FieldType := fun k => match k with
  | 0 => .int
  | _ => .array .long
abbrev wsX10 : List Cond := u_ws RX1 TX1 2
theorem nmX1 : ∀ a, a < 2 → ∀ b, b < 2 → a ≠ b → (TX1 a).2.1 ≠ (TX1 b).2.1 := by decide +kernel
theorem tyX1_ok : ∀ k, k < 2 → parseFieldDescriptor (TX1 k).2.2.1 = some (tyX1 k) := by decide +kernel
abbrev cX1_init : ByteArray := prog_3_method_1_code
def yX1_init : MethodName := ⟨RX1, "<init>", "()V"⟩
abbrev cX1_weekdaysWith : ByteArray := prog_3_method_2_code
def yX1_weekdaysWith : MethodName := ⟨RX1, "weekdaysWith", "(IZ)I"⟩
abbrev cX1_keepHoliday : ByteArray := prog_3_method_3_code
def yX1_keepHoliday : MethodName := ⟨RX1, "keepHoliday", "(I)V"⟩
abbrev cX1_isHoliday : ByteArray := prog_3_method_4_code
def yX1_isHoliday : MethodName := ⟨RX1, "isHoliday", "(I)Z"⟩
abbrev cX1_allowsCharging : ByteArray := prog_3_method_5_code
def yX1_allowsCharging : MethodName := ⟨RX1, "allowsCharging", "(I)Z"⟩
abbrev cX1_firstChargingFrom : ByteArray := prog_3_method_6_code
def yX1_firstChargingFrom : MethodName := ⟨RX1, "firstChargingFrom", "(I)I"⟩
def RX2 : String := "CollectionsEngine$EventLog"
def TX2 : u_T := fun k => match k with
  | 0 => ("CollectionsEngine$EventLog", "codes", "[I", true)
  | _ => ("CollectionsEngine$EventLog", "total", "I", false)
def tyX2 : Nat → FieldType := fun k => match k with
  | 0 => .array .int
  | _ => .int
abbrev wsX20 : List Cond := u_ws RX2 TX2 2
theorem nmX2 : ∀ a, a < 2 → ∀ b, b < 2 → a ≠ b → (TX2 a).2.1 ≠ (TX2 b).2.1 := by decide +kernel
theorem tyX2_ok : ∀ k, k < 2 → parseFieldDescriptor (TX2 k).2.2.1 = some (tyX2 k) := by decide +kernel
abbrev cX2_init : ByteArray := prog_4_method_1_code
def yX2_init : MethodName := ⟨RX2, "<init>", "()V"⟩
abbrev cX2_add : ByteArray := prog_4_method_2_code
def yX2_add : MethodName := ⟨RX2, "add", "(III)V"⟩
abbrev cX2_told : ByteArray := prog_4_method_3_code
def yX2_told : MethodName := ⟨RX2, "told", "()I"⟩
abbrev cX2_codeAt : ByteArray := prog_4_method_4_code
def yX2_codeAt : MethodName := ⟨RX2, "codeAt", "(I)I"⟩
abbrev cX2_lastStateOf : ByteArray := prog_4_method_5_code
def yX2_lastStateOf : MethodName := ⟨RX2, "lastStateOf", "(II)I"⟩
def RX3 : String := "CollectionsEngine$Gaps"
def TX3 : u_T := fun k => match k with
  | 0 => ("CollectionsEngine$Gaps", "days", "[I", true)
  | _ => ("CollectionsEngine$Gaps", "count", "I", false)
def tyX3 : Nat → FieldType := fun k => match k with
  | 0 => .array .int
  | _ => .int
abbrev wsX30 : List Cond := u_ws RX3 TX3 2
theorem nmX3 : ∀ a, a < 2 → ∀ b, b < 2 → a ≠ b → (TX3 a).2.1 ≠ (TX3 b).2.1 := by decide +kernel
theorem tyX3_ok : ∀ k, k < 2 → parseFieldDescriptor (TX3 k).2.2.1 = some (tyX3 k) := by decide +kernel
abbrev cX3_init : ByteArray := prog_5_method_1_code
def yX3_init : MethodName := ⟨RX3, "<init>", "([I)V"⟩
abbrev cX3_append : ByteArray := prog_5_method_2_code
def yX3_append : MethodName := ⟨RX3, "append", "(I)V"⟩
abbrev cX3_daysBehind : ByteArray := prog_5_method_3_code
def yX3_daysBehind : MethodName := ⟨RX3, "daysBehind", "(I)I"⟩
def RX4 : String := "CollectionsEngine"
def TX4 : u_T := fun k => match k with
  | 0 => ("CollectionsEngine", "calendar", "LCollectionsEngine$Calendar;", true)
  | 1 => ("CollectionsEngine", "gaps", "[LCollectionsEngine$Gaps;", true)
  | 2 => ("CollectionsEngine", "billRow", "[LCollectionsEngine$Bill;", true)
  | 3 => ("CollectionsEngine", "log", "LCollectionsEngine$EventLog;", true)
  | 4 => ("CollectionsEngine", "billCount", "I", false)
  | 5 => ("CollectionsEngine", "currentDay", "I", false)
  | 6 => ("CollectionsEngine", "graceTime", "I", false)
  | 7 => ("CollectionsEngine", "overdueTime", "I", false)
  | 8 => ("CollectionsEngine", "billedSum", "I", false)
  | 9 => ("CollectionsEngine", "paidSum", "I", false)
  | 10 => ("CollectionsEngine", "writtenOffSum", "I", false)
  | _ => ("CollectionsEngine", "broughtBackSum", "I", false)
def tyX4 : Nat → FieldType := fun k => match k with
  | 0 => .object "CollectionsEngine$Calendar"
  | 1 => .array (.object "CollectionsEngine$Gaps")
  | 2 => .array (.object "CollectionsEngine$Bill")
  | 3 => .object "CollectionsEngine$EventLog"
  | 4 => .int
  | 5 => .int
  | 6 => .int
  | 7 => .int
  | 8 => .int
  | 9 => .int
  | 10 => .int
  | _ => .int
abbrev wsX40 : List Cond := u_ws RX4 TX4 12
theorem nmX4 : ∀ a, a < 12 → ∀ b, b < 12 → a ≠ b → (TX4 a).2.1 ≠ (TX4 b).2.1 := by decide +kernel
theorem tyX4_ok : ∀ k, k < 12 → parseFieldDescriptor (TX4 k).2.2.1 = some (tyX4 k) := by decide +kernel
abbrev cX4_init : ByteArray := prog_1_method_1_code
def yX4_init : MethodName := ⟨RX4, "<init>", "()V"⟩
abbrev cX4_setWeekday : ByteArray := prog_1_method_2_code
def yX4_setWeekday : MethodName := ⟨RX4, "setWeekday", "(IZ)I"⟩
abbrev cX4_addHoliday : ByteArray := prog_1_method_3_code
def yX4_addHoliday : MethodName := ⟨RX4, "addHoliday", "(I)Z"⟩
abbrev cX4_addGap : ByteArray := prog_1_method_4_code
def yX4_addGap : MethodName := ⟨RX4, "addGap", "(II)I"⟩
abbrev cX4_clearGaps : ByteArray := prog_1_method_5_code
def yX4_clearGaps : MethodName := ⟨RX4, "clearGaps", "(I)I"⟩
abbrev cX4_setTimes : ByteArray := prog_1_method_6_code
def yX4_setTimes : MethodName := ⟨RX4, "setTimes", "(II)I"⟩
abbrev cX4_bill : ByteArray := prog_1_method_7_code
def yX4_bill : MethodName := ⟨RX4, "bill", "(II)I"⟩
abbrev cX4_outcome : ByteArray := prog_1_method_8_code
def yX4_outcome : MethodName := ⟨RX4, "outcome", "(II)I"⟩
abbrev cX4_pay : ByteArray := prog_1_method_9_code
def yX4_pay : MethodName := ⟨RX4, "pay", "(II)I"⟩
abbrev cX4_promise : ByteArray := prog_1_method_10_code
def yX4_promise : MethodName := ⟨RX4, "promise", "(II)I"⟩
abbrev cX4_pass : ByteArray := prog_1_method_11_code
def yX4_pass : MethodName := ⟨RX4, "pass", "(I)I"⟩
abbrev cX4_today : ByteArray := prog_1_method_12_code
def yX4_today : MethodName := ⟨RX4, "today", "()I"⟩
abbrev cX4_isCharging : ByteArray := prog_1_method_13_code
def yX4_isCharging : MethodName := ⟨RX4, "isCharging", "(I)Z"⟩
abbrev cX4_bills : ByteArray := prog_1_method_14_code
def yX4_bills : MethodName := ⟨RX4, "bills", "()I"⟩
abbrev cX4_stateOf : ByteArray := prog_1_method_15_code
def yX4_stateOf : MethodName := ⟨RX4, "stateOf", "(I)I"⟩
abbrev cX4_left : ByteArray := prog_1_method_16_code
def yX4_left : MethodName := ⟨RX4, "left", "(I)I"⟩
abbrev cX4_tries : ByteArray := prog_1_method_17_code
def yX4_tries : MethodName := ⟨RX4, "tries", "(I)I"⟩
abbrev cX4_failures : ByteArray := prog_1_method_18_code
def yX4_failures : MethodName := ⟨RX4, "failures", "(II)I"⟩
abbrev cX4_waitsFor : ByteArray := prog_1_method_19_code
def yX4_waitsFor : MethodName := ⟨RX4, "waitsFor", "(I)I"⟩
abbrev cX4_broken : ByteArray := prog_1_method_20_code
def yX4_broken : MethodName := ⟨RX4, "broken", "(I)I"⟩
abbrev cX4_service : ByteArray := prog_1_method_21_code
def yX4_service : MethodName := ⟨RX4, "service", "(I)I"⟩
abbrev cX4_billed : ByteArray := prog_1_method_22_code
def yX4_billed : MethodName := ⟨RX4, "billed", "()I"⟩
abbrev cX4_paid : ByteArray := prog_1_method_23_code
def yX4_paid : MethodName := ⟨RX4, "paid", "()I"⟩
abbrev cX4_writtenOff : ByteArray := prog_1_method_24_code
def yX4_writtenOff : MethodName := ⟨RX4, "writtenOff", "()I"⟩
abbrev cX4_broughtBack : ByteArray := prog_1_method_25_code
def yX4_broughtBack : MethodName := ⟨RX4, "broughtBack", "()I"⟩
abbrev cX4_leftIn : ByteArray := prog_1_method_26_code
def yX4_leftIn : MethodName := ⟨RX4, "leftIn", "(II)I"⟩
abbrev cX4_events : ByteArray := prog_1_method_27_code
def yX4_events : MethodName := ⟨RX4, "events", "()I"⟩
abbrev cX4_event : ByteArray := prog_1_method_28_code
def yX4_event : MethodName := ⟨RX4, "event", "(I)I"⟩
abbrev cX4_stateAt : ByteArray := prog_1_method_29_code
def yX4_stateAt : MethodName := ⟨RX4, "stateAt", "(II)I"⟩
abbrev cX4_checkRange : ByteArray := prog_1_method_30_code
def yX4_checkRange : MethodName := ⟨RX4, "checkRange", "(III)V"⟩
abbrev cX4_checkAccount : ByteArray := prog_1_method_31_code
def yX4_checkAccount : MethodName := ⟨RX4, "checkAccount", "(I)V"⟩
abbrev cX4_indexOfReason : ByteArray := prog_1_method_32_code
def yX4_indexOfReason : MethodName := ⟨RX4, "indexOfReason", "(I)I"⟩
abbrev cX4_findBill : ByteArray := prog_1_method_33_code
def yX4_findBill : MethodName := ⟨RX4, "findBill", "(I)LCollectionsEngine$Bill;"⟩
abbrev cX4_enter : ByteArray := prog_1_method_34_code
def yX4_enter : MethodName := ⟨RX4, "enter", "(LCollectionsEngine$Bill;II)V"⟩
abbrev cX4_takePayment : ByteArray := prog_1_method_35_code
def yX4_takePayment : MethodName := ⟨RX4, "takePayment", "(LCollectionsEngine$Bill;I)V"⟩
abbrev cX4_fail : ByteArray := prog_1_method_36_code
def yX4_fail : MethodName := ⟨RX4, "fail", "(LCollectionsEngine$Bill;I)V"⟩
abbrev cX4_failUnansweredTries : ByteArray := prog_1_method_37_code
def yX4_failUnansweredTries : MethodName := ⟨RX4, "failUnansweredTries", "()V"⟩
abbrev cX4_lookAtBills : ByteArray := prog_1_method_38_code
def yX4_lookAtBills : MethodName := ⟨RX4, "lookAtBills", "()I"⟩
abbrev cX4_lookAt : ByteArray := prog_1_method_39_code
def yX4_lookAt : MethodName := ⟨RX4, "lookAt", "(LCollectionsEngine$Bill;)Z"⟩
abbrev cX4_beginTry : ByteArray := prog_1_method_40_code
def yX4_beginTry : MethodName := ⟨RX4, "beginTry", "(LCollectionsEngine$Bill;)Z"⟩
abbrev cX4_breakPromise : ByteArray := prog_1_method_41_code
def yX4_breakPromise : MethodName := ⟨RX4, "breakPromise", "(LCollectionsEngine$Bill;)V"⟩
abbrev cX4_serviceWith : ByteArray := prog_1_method_42_code
def yX4_serviceWith : MethodName := ⟨RX4, "serviceWith", "(LCollectionsEngine$Bill;)I"⟩
def RX5 : String := "CollectionsEngineModel"
def TX5 : u_T := fun k => match k with
  | _ => ("", "", "", false)
def tyX5 : Nat → FieldType := fun k => match k with
  | _ => .int
abbrev wsX50 : List Cond := u_ws RX5 TX5 0
theorem nmX5 : ∀ a, a < 0 → ∀ b, b < 0 → a ≠ b → (TX5 a).2.1 ≠ (TX5 b).2.1 := by decide +kernel
theorem tyX5_ok : ∀ k, k < 0 → parseFieldDescriptor (TX5 k).2.2.1 = some (tyX5 k) := by decide +kernel
def RJ6 : String := "java/lang/Integer"
def TJ6 : u_T := fun k => match k with
  | _ => ("", "", "", false)
def tyJ6 : Nat → FieldType := fun k => match k with
  | _ => .int
abbrev wsJ60 : List Cond := u_ws RJ6 TJ6 0
theorem nmJ6 : ∀ a, a < 0 → ∀ b, b < 0 → a ≠ b → (TJ6 a).2.1 ≠ (TJ6 b).2.1 := by decide +kernel
theorem tyJ6_ok : ∀ k, k < 0 → parseFieldDescriptor (TJ6 k).2.2.1 = some (tyJ6 k) := by decide +kernel
abbrev cJ6_bitCount_0f7a4 : ByteArray := prog_12_method_49_code
def yJ6_bitCount_0f7a4 : MethodName := ⟨RJ6, "bitCount", "(I)I"⟩
def RJ9 : String := "java/lang/Math"
def TJ9 : u_T := fun k => match k with
  | _ => ("", "", "", false)
def tyJ9 : Nat → FieldType := fun k => match k with
  | _ => .int
abbrev wsJ90 : List Cond := u_ws RJ9 TJ9 0
theorem nmJ9 : ∀ a, a < 0 → ∀ b, b < 0 → a ≠ b → (TJ9 a).2.1 ≠ (TJ9 b).2.1 := by decide +kernel
theorem tyJ9_ok : ∀ k, k < 0 → parseFieldDescriptor (TJ9 k).2.2.1 = some (tyJ9 k) := by decide +kernel
abbrev cJ9_floorMod_7cf53 : ByteArray := prog_13_method_50_code
def yJ9_floorMod_7cf53 : MethodName := ⟨RJ9, "floorMod", "(II)I"⟩
abbrev cJ9_min_7cf53 : ByteArray := prog_13_method_69_code
def yJ9_min_7cf53 : MethodName := ⟨RJ9, "min", "(II)I"⟩
def RJ0 : String := "java/lang/String"
def TJ0 : u_T := fun k => match k with
  | _ => ("", "", "", false)
def tyJ0 : Nat → FieldType := fun k => match k with
  | _ => .int
abbrev wsJ00 : List Cond := u_ws RJ0 TJ0 0
theorem nmJ0 : ∀ a, a < 0 → ∀ b, b < 0 → a ≠ b → (TJ0 a).2.1 ≠ (TJ0 b).2.1 := by decide +kernel
theorem tyJ0_ok : ∀ k, k < 0 → parseFieldDescriptor (TJ0 k).2.2.1 = some (tyJ0 k) := by decide +kernel
def RL : String := "CollectionsEngineLaw"
abbrev cL_charges : ByteArray := method_2_code
def yL_charges : MethodName := ⟨RL, "charges", "([I[II)Z"⟩
abbrev cL_from : ByteArray := method_3_code
def yL_from : MethodName := ⟨RL, "from", "([I[II)I"⟩
abbrev cL_enters : ByteArray := method_4_code
def yL_enters : MethodName := ⟨RL, "enters", "([I[I[III)V"⟩
abbrev cL_fails : ByteArray := method_5_code
def yL_fails : MethodName := ⟨RL, "fails", "([I[I[I[I[I[I[III)V"⟩
abbrev cL_passes : ByteArray := method_6_code
def yL_passes : MethodName := ⟨RL, "passes", "([I[I[I[I[I[I[I[I[I)I"⟩
abbrev cL_pays : ByteArray := method_7_code
def yL_pays : MethodName := ⟨RL, "pays", "([I[I[I[III)I"⟩
abbrev cL_does : ByteArray := method_8_code
def yL_does : MethodName := ⟨RL, "does", "(LCollectionsEngine;III)I"⟩
abbrev cL_isEngine : ByteArray := method_9_code
def yL_isEngine : MethodName := ⟨RL, "isEngine", "(LCollectionsEngine;[I[I[I[I[I[I[II)Z"⟩
abbrev cL_law : ByteArray := code
def yL_law : MethodName := ⟨RL, "law", "([I)Z"⟩
theorem dX0_init_0 : decode cX0_init 0 = .ok (.aload_n 0, 1) := by decide +kernel
theorem dX0_init_1 : decode cX0_init 1 = .ok (.invokespecial 3, 3) := by decide +kernel
theorem dX0_init_4 : decode cX0_init 4 = .ok (.aload_n 0, 1) := by decide +kernel
theorem dX0_init_5 : decode cX0_init 5 = .ok (.iload_n 1, 1) := by decide +kernel
theorem dX0_init_6 : decode cX0_init 6 = .ok (.putfield 9, 3) := by decide +kernel
theorem dX0_init_9 : decode cX0_init 9 = .ok (.aload_n 0, 1) := by decide +kernel
theorem dX0_init_10 : decode cX0_init 10 = .ok (.iload_n 2, 1) := by decide +kernel
theorem dX0_init_11 : decode cX0_init 11 = .ok (.putfield 15, 3) := by decide +kernel
theorem dX0_init_14 : decode cX0_init 14 = .ok (.aload_n 0, 1) := by decide +kernel
theorem dX0_init_15 : decode cX0_init 15 = .ok (.iload_n 3, 1) := by decide +kernel
theorem dX0_init_16 : decode cX0_init 16 = .ok (.putfield 18, 3) := by decide +kernel
theorem dX0_init_19 : decode cX0_init 19 = .ok (.aload_n 0, 1) := by decide +kernel
theorem dX0_init_20 : decode cX0_init 20 = .ok (.iconst 4, 1) := by decide +kernel
theorem dX0_init_21 : decode cX0_init 21 = .ok (.newarray .int, 2) := by decide +kernel
theorem dX0_init_23 : decode cX0_init 23 = .ok (.putfield 21, 3) := by decide +kernel
theorem dX0_init_26 : decode cX0_init 26 = .ok (.return_, 1) := by decide +kernel
theorem dX1_init_0 : decode cX1_init 0 = .ok (.aload_n 0, 1) := by decide +kernel
theorem dX1_init_1 : decode cX1_init 1 = .ok (.invokespecial 1, 3) := by decide +kernel
theorem dX1_init_4 : decode cX1_init 4 = .ok (.aload_n 0, 1) := by decide +kernel
theorem dX1_init_5 : decode cX1_init 5 = .ok (.bipush 31, 2) := by decide +kernel
theorem dX1_init_7 : decode cX1_init 7 = .ok (.putfield 9, 3) := by decide +kernel
theorem dX1_init_10 : decode cX1_init 10 = .ok (.aload_n 0, 1) := by decide +kernel
theorem dX1_init_11 : decode cX1_init 11 = .ok (.sipush 485, 3) := by decide +kernel
theorem dX1_init_14 : decode cX1_init 14 = .ok (.newarray .long, 2) := by decide +kernel
theorem dX1_init_16 : decode cX1_init 16 = .ok (.putfield 13, 3) := by decide +kernel
theorem dX1_init_19 : decode cX1_init 19 = .ok (.return_, 1) := by decide +kernel
theorem dX1_weekdaysWith_0 : decode cX1_weekdaysWith 0 = .ok (.iconst 1, 1) := by decide +kernel
theorem dX1_weekdaysWith_1 : decode cX1_weekdaysWith 1 = .ok (.iload_n 1, 1) := by decide +kernel
theorem dX1_weekdaysWith_2 : decode cX1_weekdaysWith 2 = .ok (.ishl, 1) := by decide +kernel
theorem dX1_weekdaysWith_3 : decode cX1_weekdaysWith 3 = .ok (.istore_n 3, 1) := by decide +kernel
theorem dX1_weekdaysWith_4 : decode cX1_weekdaysWith 4 = .ok (.iload_n 2, 1) := by decide +kernel
theorem dX1_weekdaysWith_5 : decode cX1_weekdaysWith 5 = .ok (.ifCond .eq 12, 3) := by decide +kernel
theorem dX1_weekdaysWith_8 : decode cX1_weekdaysWith 8 = .ok (.aload_n 0, 1) := by decide +kernel
theorem dX1_weekdaysWith_9 : decode cX1_weekdaysWith 9 = .ok (.getfield 9, 3) := by decide +kernel
theorem dX1_weekdaysWith_12 : decode cX1_weekdaysWith 12 = .ok (.iload_n 3, 1) := by decide +kernel
theorem dX1_weekdaysWith_13 : decode cX1_weekdaysWith 13 = .ok (.ior, 1) := by decide +kernel
theorem dX1_weekdaysWith_14 : decode cX1_weekdaysWith 14 = .ok (.goto 11, 3) := by decide +kernel
theorem dX1_weekdaysWith_17 : decode cX1_weekdaysWith 17 = .ok (.aload_n 0, 1) := by decide +kernel
theorem dX1_weekdaysWith_18 : decode cX1_weekdaysWith 18 = .ok (.getfield 9, 3) := by decide +kernel
theorem dX1_weekdaysWith_21 : decode cX1_weekdaysWith 21 = .ok (.iload_n 3, 1) := by decide +kernel
theorem dX1_weekdaysWith_22 : decode cX1_weekdaysWith 22 = .ok (.iconst (-1), 1) := by decide +kernel
theorem dX1_weekdaysWith_23 : decode cX1_weekdaysWith 23 = .ok (.ixor, 1) := by decide +kernel
theorem dX1_weekdaysWith_24 : decode cX1_weekdaysWith 24 = .ok (.iand, 1) := by decide +kernel
theorem dX1_weekdaysWith_25 : decode cX1_weekdaysWith 25 = .ok (.ireturn, 1) := by decide +kernel
theorem dX1_keepHoliday_0 : decode cX1_keepHoliday 0 = .ok (.iload_n 1, 1) := by decide +kernel
theorem dX1_keepHoliday_1 : decode cX1_keepHoliday 1 = .ok (.bipush 6, 2) := by decide +kernel
theorem dX1_keepHoliday_3 : decode cX1_keepHoliday 3 = .ok (.ishr, 1) := by decide +kernel
theorem dX1_keepHoliday_4 : decode cX1_keepHoliday 4 = .ok (.istore_n 2, 1) := by decide +kernel
theorem dX1_keepHoliday_5 : decode cX1_keepHoliday 5 = .ok (.iload_n 2, 1) := by decide +kernel
theorem dX1_keepHoliday_6 : decode cX1_keepHoliday 6 = .ok (.ifCond .lt 27, 3) := by decide +kernel
theorem dX1_keepHoliday_9 : decode cX1_keepHoliday 9 = .ok (.iload_n 2, 1) := by decide +kernel
theorem dX1_keepHoliday_10 : decode cX1_keepHoliday 10 = .ok (.aload_n 0, 1) := by decide +kernel
theorem dX1_keepHoliday_11 : decode cX1_keepHoliday 11 = .ok (.getfield 13, 3) := by decide +kernel
theorem dX1_keepHoliday_14 : decode cX1_keepHoliday 14 = .ok (.arraylength, 1) := by decide +kernel
theorem dX1_keepHoliday_15 : decode cX1_keepHoliday 15 = .ok (.if_icmp .ge 18, 3) := by decide +kernel
theorem dX1_keepHoliday_18 : decode cX1_keepHoliday 18 = .ok (.aload_n 0, 1) := by decide +kernel
theorem dX1_keepHoliday_19 : decode cX1_keepHoliday 19 = .ok (.getfield 13, 3) := by decide +kernel
theorem dX1_keepHoliday_22 : decode cX1_keepHoliday 22 = .ok (.iload_n 2, 1) := by decide +kernel
theorem dX1_keepHoliday_23 : decode cX1_keepHoliday 23 = .ok (.dup2, 1) := by decide +kernel
theorem dX1_keepHoliday_24 : decode cX1_keepHoliday 24 = .ok (.laload, 1) := by decide +kernel
theorem dX1_keepHoliday_25 : decode cX1_keepHoliday 25 = .ok (.lconst 1, 1) := by decide +kernel
theorem dX1_keepHoliday_26 : decode cX1_keepHoliday 26 = .ok (.iload_n 1, 1) := by decide +kernel
theorem dX1_keepHoliday_27 : decode cX1_keepHoliday 27 = .ok (.bipush 63, 2) := by decide +kernel
theorem dX1_keepHoliday_29 : decode cX1_keepHoliday 29 = .ok (.iand, 1) := by decide +kernel
theorem dX1_keepHoliday_30 : decode cX1_keepHoliday 30 = .ok (.lshl, 1) := by decide +kernel
theorem dX1_keepHoliday_31 : decode cX1_keepHoliday 31 = .ok (.lor, 1) := by decide +kernel
theorem dX1_keepHoliday_32 : decode cX1_keepHoliday 32 = .ok (.lastore, 1) := by decide +kernel
theorem dX1_keepHoliday_33 : decode cX1_keepHoliday 33 = .ok (.return_, 1) := by decide +kernel
theorem dX1_isHoliday_0 : decode cX1_isHoliday 0 = .ok (.iload_n 1, 1) := by decide +kernel
theorem dX1_isHoliday_1 : decode cX1_isHoliday 1 = .ok (.bipush 6, 2) := by decide +kernel
theorem dX1_isHoliday_3 : decode cX1_isHoliday 3 = .ok (.ishr, 1) := by decide +kernel
theorem dX1_isHoliday_4 : decode cX1_isHoliday 4 = .ok (.istore_n 2, 1) := by decide +kernel
theorem dX1_isHoliday_5 : decode cX1_isHoliday 5 = .ok (.iload_n 2, 1) := by decide +kernel
theorem dX1_isHoliday_6 : decode cX1_isHoliday 6 = .ok (.ifCond .lt 34, 3) := by decide +kernel
theorem dX1_isHoliday_9 : decode cX1_isHoliday 9 = .ok (.iload_n 2, 1) := by decide +kernel
theorem dX1_isHoliday_10 : decode cX1_isHoliday 10 = .ok (.aload_n 0, 1) := by decide +kernel
theorem dX1_isHoliday_11 : decode cX1_isHoliday 11 = .ok (.getfield 13, 3) := by decide +kernel
theorem dX1_isHoliday_14 : decode cX1_isHoliday 14 = .ok (.arraylength, 1) := by decide +kernel
theorem dX1_isHoliday_15 : decode cX1_isHoliday 15 = .ok (.if_icmp .ge 25, 3) := by decide +kernel
theorem dX1_isHoliday_18 : decode cX1_isHoliday 18 = .ok (.aload_n 0, 1) := by decide +kernel
theorem dX1_isHoliday_19 : decode cX1_isHoliday 19 = .ok (.getfield 13, 3) := by decide +kernel
theorem dX1_isHoliday_22 : decode cX1_isHoliday 22 = .ok (.iload_n 2, 1) := by decide +kernel
theorem dX1_isHoliday_23 : decode cX1_isHoliday 23 = .ok (.laload, 1) := by decide +kernel
theorem dX1_isHoliday_24 : decode cX1_isHoliday 24 = .ok (.iload_n 1, 1) := by decide +kernel
theorem dX1_isHoliday_25 : decode cX1_isHoliday 25 = .ok (.bipush 63, 2) := by decide +kernel
theorem dX1_isHoliday_27 : decode cX1_isHoliday 27 = .ok (.iand, 1) := by decide +kernel
theorem dX1_isHoliday_28 : decode cX1_isHoliday 28 = .ok (.lushr, 1) := by decide +kernel
theorem dX1_isHoliday_29 : decode cX1_isHoliday 29 = .ok (.lconst 1, 1) := by decide +kernel
theorem dX1_isHoliday_30 : decode cX1_isHoliday 30 = .ok (.land, 1) := by decide +kernel
theorem dX1_isHoliday_31 : decode cX1_isHoliday 31 = .ok (.lconst 1, 1) := by decide +kernel
theorem dX1_isHoliday_32 : decode cX1_isHoliday 32 = .ok (.lcmp, 1) := by decide +kernel
theorem dX1_isHoliday_33 : decode cX1_isHoliday 33 = .ok (.ifCond .ne 7, 3) := by decide +kernel
theorem dX1_isHoliday_36 : decode cX1_isHoliday 36 = .ok (.iconst 1, 1) := by decide +kernel
theorem dX1_isHoliday_37 : decode cX1_isHoliday 37 = .ok (.goto 4, 3) := by decide +kernel
theorem dX1_isHoliday_40 : decode cX1_isHoliday 40 = .ok (.iconst 0, 1) := by decide +kernel
theorem dX1_isHoliday_41 : decode cX1_isHoliday 41 = .ok (.ireturn, 1) := by decide +kernel
theorem dX1_allowsCharging_0 : decode cX1_allowsCharging 0 = .ok (.iconst 1, 1) := by decide +kernel
theorem dX1_allowsCharging_1 : decode cX1_allowsCharging 1 = .ok (.iload_n 1, 1) := by decide +kernel
theorem dX1_allowsCharging_2 : decode cX1_allowsCharging 2 = .ok (.bipush 7, 2) := by decide +kernel
theorem dX1_allowsCharging_4 : decode cX1_allowsCharging 4 = .ok (.invokestatic 17, 3) := by decide +kernel
theorem dX1_allowsCharging_7 : decode cX1_allowsCharging 7 = .ok (.ishl, 1) := by decide +kernel
theorem dX1_allowsCharging_8 : decode cX1_allowsCharging 8 = .ok (.istore_n 2, 1) := by decide +kernel
theorem dX1_allowsCharging_9 : decode cX1_allowsCharging 9 = .ok (.aload_n 0, 1) := by decide +kernel
theorem dX1_allowsCharging_10 : decode cX1_allowsCharging 10 = .ok (.getfield 9, 3) := by decide +kernel
theorem dX1_allowsCharging_13 : decode cX1_allowsCharging 13 = .ok (.iload_n 2, 1) := by decide +kernel
theorem dX1_allowsCharging_14 : decode cX1_allowsCharging 14 = .ok (.iand, 1) := by decide +kernel
theorem dX1_allowsCharging_15 : decode cX1_allowsCharging 15 = .ok (.ifCond .eq 15, 3) := by decide +kernel
theorem dX1_allowsCharging_18 : decode cX1_allowsCharging 18 = .ok (.aload_n 0, 1) := by decide +kernel
theorem dX1_allowsCharging_19 : decode cX1_allowsCharging 19 = .ok (.iload_n 1, 1) := by decide +kernel
theorem dX1_allowsCharging_20 : decode cX1_allowsCharging 20 = .ok (.invokevirtual 23, 3) := by decide +kernel
theorem dX1_allowsCharging_23 : decode cX1_allowsCharging 23 = .ok (.ifCond .ne 7, 3) := by decide +kernel
theorem dX1_allowsCharging_26 : decode cX1_allowsCharging 26 = .ok (.iconst 1, 1) := by decide +kernel
theorem dX1_allowsCharging_27 : decode cX1_allowsCharging 27 = .ok (.goto 4, 3) := by decide +kernel
theorem dX1_allowsCharging_30 : decode cX1_allowsCharging 30 = .ok (.iconst 0, 1) := by decide +kernel
theorem dX1_allowsCharging_31 : decode cX1_allowsCharging 31 = .ok (.ireturn, 1) := by decide +kernel
theorem dX1_firstChargingFrom_0 : decode cX1_firstChargingFrom 0 = .ok (.iload_n 1, 1) := by decide +kernel
theorem dX1_firstChargingFrom_1 : decode cX1_firstChargingFrom 1 = .ok (.istore_n 2, 1) := by decide +kernel
theorem dX1_firstChargingFrom_2 : decode cX1_firstChargingFrom 2 = .ok (.iconst 0, 1) := by decide +kernel
theorem dX1_firstChargingFrom_3 : decode cX1_firstChargingFrom 3 = .ok (.istore_n 3, 1) := by decide +kernel
theorem dX1_firstChargingFrom_4 : decode cX1_firstChargingFrom 4 = .ok (.iload_n 3, 1) := by decide +kernel
theorem dX1_firstChargingFrom_5 : decode cX1_firstChargingFrom 5 = .ok (.sipush 1000, 3) := by decide +kernel
theorem dX1_firstChargingFrom_8 : decode cX1_firstChargingFrom 8 = .ok (.if_icmp .ge 20, 3) := by decide +kernel
theorem dX1_firstChargingFrom_11 : decode cX1_firstChargingFrom 11 = .ok (.aload_n 0, 1) := by decide +kernel
theorem dX1_firstChargingFrom_12 : decode cX1_firstChargingFrom 12 = .ok (.iload_n 2, 1) := by decide +kernel
theorem dX1_firstChargingFrom_13 : decode cX1_firstChargingFrom 13 = .ok (.invokevirtual 27, 3) := by decide +kernel
theorem dX1_firstChargingFrom_16 : decode cX1_firstChargingFrom 16 = .ok (.ifCond .ne 12, 3) := by decide +kernel
theorem dX1_firstChargingFrom_19 : decode cX1_firstChargingFrom 19 = .ok (.iinc 2 1, 3) := by decide +kernel
theorem dX1_firstChargingFrom_22 : decode cX1_firstChargingFrom 22 = .ok (.iinc 3 1, 3) := by decide +kernel
theorem dX1_firstChargingFrom_25 : decode cX1_firstChargingFrom 25 = .ok (.goto (-21), 3) := by decide +kernel
theorem dX1_firstChargingFrom_28 : decode cX1_firstChargingFrom 28 = .ok (.iload_n 2, 1) := by decide +kernel
theorem dX1_firstChargingFrom_29 : decode cX1_firstChargingFrom 29 = .ok (.ireturn, 1) := by decide +kernel
theorem dX2_init_0 : decode cX2_init 0 = .ok (.aload_n 0, 1) := by decide +kernel
theorem dX2_init_1 : decode cX2_init 1 = .ok (.invokespecial 3, 3) := by decide +kernel
theorem dX2_init_4 : decode cX2_init 4 = .ok (.aload_n 0, 1) := by decide +kernel
theorem dX2_init_5 : decode cX2_init 5 = .ok (.sipush 400, 3) := by decide +kernel
theorem dX2_init_8 : decode cX2_init 8 = .ok (.newarray .int, 2) := by decide +kernel
theorem dX2_init_10 : decode cX2_init 10 = .ok (.putfield 9, 3) := by decide +kernel
theorem dX2_init_13 : decode cX2_init 13 = .ok (.return_, 1) := by decide +kernel
theorem dX2_add_0 : decode cX2_add 0 = .ok (.aload_n 0, 1) := by decide +kernel
theorem dX2_add_1 : decode cX2_add 1 = .ok (.getfield 9, 3) := by decide +kernel
theorem dX2_add_4 : decode cX2_add 4 = .ok (.aload_n 0, 1) := by decide +kernel
theorem dX2_add_5 : decode cX2_add 5 = .ok (.getfield 15, 3) := by decide +kernel
theorem dX2_add_8 : decode cX2_add 8 = .ok (.sipush 400, 3) := by decide +kernel
theorem dX2_add_11 : decode cX2_add 11 = .ok (.invokestatic 19, 3) := by decide +kernel
theorem dX2_add_14 : decode cX2_add 14 = .ok (.sipush 1000, 3) := by decide +kernel
theorem dX2_add_17 : decode cX2_add 17 = .ok (.iload_n 1, 1) := by decide +kernel
theorem dX2_add_18 : decode cX2_add 18 = .ok (.imul, 1) := by decide +kernel
theorem dX2_add_19 : decode cX2_add 19 = .ok (.bipush 10, 2) := by decide +kernel
theorem dX2_add_21 : decode cX2_add 21 = .ok (.iload_n 2, 1) := by decide +kernel
theorem dX2_add_22 : decode cX2_add 22 = .ok (.imul, 1) := by decide +kernel
theorem dX2_add_23 : decode cX2_add 23 = .ok (.iadd, 1) := by decide +kernel
theorem dX2_add_24 : decode cX2_add 24 = .ok (.iload_n 3, 1) := by decide +kernel
theorem dX2_add_25 : decode cX2_add 25 = .ok (.iadd, 1) := by decide +kernel
theorem dX2_add_26 : decode cX2_add 26 = .ok (.iastore, 1) := by decide +kernel
theorem dX2_add_27 : decode cX2_add 27 = .ok (.aload_n 0, 1) := by decide +kernel
theorem dX2_add_28 : decode cX2_add 28 = .ok (.dup, 1) := by decide +kernel
theorem dX2_add_29 : decode cX2_add 29 = .ok (.getfield 15, 3) := by decide +kernel
theorem dX2_add_32 : decode cX2_add 32 = .ok (.iconst 1, 1) := by decide +kernel
theorem dX2_add_33 : decode cX2_add 33 = .ok (.iadd, 1) := by decide +kernel
theorem dX2_add_34 : decode cX2_add 34 = .ok (.putfield 15, 3) := by decide +kernel
theorem dX2_add_37 : decode cX2_add 37 = .ok (.return_, 1) := by decide +kernel
theorem dX2_told_0 : decode cX2_told 0 = .ok (.aload_n 0, 1) := by decide +kernel
theorem dX2_told_1 : decode cX2_told 1 = .ok (.getfield 15, 3) := by decide +kernel
theorem dX2_told_4 : decode cX2_told 4 = .ok (.sipush 400, 3) := by decide +kernel
theorem dX2_told_7 : decode cX2_told 7 = .ok (.invokestatic 25, 3) := by decide +kernel
theorem dX2_told_10 : decode cX2_told 10 = .ok (.ireturn, 1) := by decide +kernel
theorem dX2_codeAt_0 : decode cX2_codeAt 0 = .ok (.aload_n 0, 1) := by decide +kernel
theorem dX2_codeAt_1 : decode cX2_codeAt 1 = .ok (.getfield 9, 3) := by decide +kernel
theorem dX2_codeAt_4 : decode cX2_codeAt 4 = .ok (.aload_n 0, 1) := by decide +kernel
theorem dX2_codeAt_5 : decode cX2_codeAt 5 = .ok (.getfield 15, 3) := by decide +kernel
theorem dX2_codeAt_8 : decode cX2_codeAt 8 = .ok (.iconst 1, 1) := by decide +kernel
theorem dX2_codeAt_9 : decode cX2_codeAt 9 = .ok (.isub, 1) := by decide +kernel
theorem dX2_codeAt_10 : decode cX2_codeAt 10 = .ok (.iload_n 1, 1) := by decide +kernel
theorem dX2_codeAt_11 : decode cX2_codeAt 11 = .ok (.isub, 1) := by decide +kernel
theorem dX2_codeAt_12 : decode cX2_codeAt 12 = .ok (.sipush 400, 3) := by decide +kernel
theorem dX2_codeAt_15 : decode cX2_codeAt 15 = .ok (.invokestatic 19, 3) := by decide +kernel
theorem dX2_codeAt_18 : decode cX2_codeAt 18 = .ok (.iaload, 1) := by decide +kernel
theorem dX2_codeAt_19 : decode cX2_codeAt 19 = .ok (.ireturn, 1) := by decide +kernel
theorem dX2_lastStateOf_0 : decode cX2_lastStateOf 0 = .ok (.aload_n 0, 1) := by decide +kernel
theorem dX2_lastStateOf_1 : decode cX2_lastStateOf 1 = .ok (.invokevirtual 28, 3) := by decide +kernel
theorem dX2_lastStateOf_4 : decode cX2_lastStateOf 4 = .ok (.istore_n 3, 1) := by decide +kernel
theorem dX2_lastStateOf_5 : decode cX2_lastStateOf 5 = .ok (.iconst 0, 1) := by decide +kernel
theorem dX2_lastStateOf_6 : decode cX2_lastStateOf 6 = .ok (.istore 4, 2) := by decide +kernel
theorem dX2_lastStateOf_8 : decode cX2_lastStateOf 8 = .ok (.iload 4, 2) := by decide +kernel
theorem dX2_lastStateOf_10 : decode cX2_lastStateOf 10 = .ok (.iload_n 3, 1) := by decide +kernel
theorem dX2_lastStateOf_11 : decode cX2_lastStateOf 11 = .ok (.if_icmp .ge 58, 3) := by decide +kernel
theorem dX2_lastStateOf_14 : decode cX2_lastStateOf 14 = .ok (.aload_n 0, 1) := by decide +kernel
theorem dX2_lastStateOf_15 : decode cX2_lastStateOf 15 = .ok (.iload 4, 2) := by decide +kernel
theorem dX2_lastStateOf_17 : decode cX2_lastStateOf 17 = .ok (.invokevirtual 32, 3) := by decide +kernel
theorem dX2_lastStateOf_20 : decode cX2_lastStateOf 20 = .ok (.istore 5, 2) := by decide +kernel
theorem dX2_lastStateOf_22 : decode cX2_lastStateOf 22 = .ok (.iload 5, 2) := by decide +kernel
theorem dX2_lastStateOf_24 : decode cX2_lastStateOf 24 = .ok (.sipush 1000, 3) := by decide +kernel
theorem dX2_lastStateOf_27 : decode cX2_lastStateOf 27 = .ok (.irem, 1) := by decide +kernel
theorem dX2_lastStateOf_28 : decode cX2_lastStateOf 28 = .ok (.bipush 10, 2) := by decide +kernel
theorem dX2_lastStateOf_30 : decode cX2_lastStateOf 30 = .ok (.idiv, 1) := by decide +kernel
theorem dX2_lastStateOf_31 : decode cX2_lastStateOf 31 = .ok (.iload_n 1, 1) := by decide +kernel
theorem dX2_lastStateOf_32 : decode cX2_lastStateOf 32 = .ok (.if_icmp .ne 7, 3) := by decide +kernel
theorem dX2_lastStateOf_35 : decode cX2_lastStateOf 35 = .ok (.iconst 1, 1) := by decide +kernel
theorem dX2_lastStateOf_36 : decode cX2_lastStateOf 36 = .ok (.goto 4, 3) := by decide +kernel
theorem dX2_lastStateOf_39 : decode cX2_lastStateOf 39 = .ok (.iconst 0, 1) := by decide +kernel
theorem dX2_lastStateOf_40 : decode cX2_lastStateOf 40 = .ok (.istore 6, 2) := by decide +kernel
theorem dX2_lastStateOf_42 : decode cX2_lastStateOf 42 = .ok (.iload 6, 2) := by decide +kernel
theorem dX2_lastStateOf_44 : decode cX2_lastStateOf 44 = .ok (.ifCond .eq 19, 3) := by decide +kernel
theorem dX2_lastStateOf_47 : decode cX2_lastStateOf 47 = .ok (.iload 5, 2) := by decide +kernel
theorem dX2_lastStateOf_49 : decode cX2_lastStateOf 49 = .ok (.sipush 1000, 3) := by decide +kernel
theorem dX2_lastStateOf_52 : decode cX2_lastStateOf 52 = .ok (.idiv, 1) := by decide +kernel
theorem dX2_lastStateOf_53 : decode cX2_lastStateOf 53 = .ok (.iload_n 2, 1) := by decide +kernel
theorem dX2_lastStateOf_54 : decode cX2_lastStateOf 54 = .ok (.if_icmp .gt 9, 3) := by decide +kernel
theorem dX2_lastStateOf_57 : decode cX2_lastStateOf 57 = .ok (.iload 5, 2) := by decide +kernel
theorem dX2_lastStateOf_59 : decode cX2_lastStateOf 59 = .ok (.bipush 10, 2) := by decide +kernel
theorem dX2_lastStateOf_61 : decode cX2_lastStateOf 61 = .ok (.irem, 1) := by decide +kernel
theorem dX2_lastStateOf_62 : decode cX2_lastStateOf 62 = .ok (.ireturn, 1) := by decide +kernel
theorem dX2_lastStateOf_63 : decode cX2_lastStateOf 63 = .ok (.iinc 4 1, 3) := by decide +kernel
theorem dX2_lastStateOf_66 : decode cX2_lastStateOf 66 = .ok (.goto (-58), 3) := by decide +kernel
theorem dX2_lastStateOf_69 : decode cX2_lastStateOf 69 = .ok (.iconst (-1), 1) := by decide +kernel
theorem dX2_lastStateOf_70 : decode cX2_lastStateOf 70 = .ok (.ireturn, 1) := by decide +kernel
theorem dX3_init_0 : decode cX3_init 0 = .ok (.aload_n 0, 1) := by decide +kernel
theorem dX3_init_1 : decode cX3_init 1 = .ok (.invokespecial 3, 3) := by decide +kernel
theorem dX3_init_4 : decode cX3_init 4 = .ok (.aload_n 0, 1) := by decide +kernel
theorem dX3_init_5 : decode cX3_init 5 = .ok (.bipush 6, 2) := by decide +kernel
theorem dX3_init_7 : decode cX3_init 7 = .ok (.newarray .int, 2) := by decide +kernel
theorem dX3_init_9 : decode cX3_init 9 = .ok (.putfield 9, 3) := by decide +kernel
theorem dX3_init_12 : decode cX3_init 12 = .ok (.iconst 0, 1) := by decide +kernel
theorem dX3_init_13 : decode cX3_init 13 = .ok (.istore_n 2, 1) := by decide +kernel
theorem dX3_init_14 : decode cX3_init 14 = .ok (.iload_n 2, 1) := by decide +kernel
theorem dX3_init_15 : decode cX3_init 15 = .ok (.aload_n 1, 1) := by decide +kernel
theorem dX3_init_16 : decode cX3_init 16 = .ok (.arraylength, 1) := by decide +kernel
theorem dX3_init_17 : decode cX3_init 17 = .ok (.if_icmp .ge 37, 3) := by decide +kernel
theorem dX3_init_20 : decode cX3_init 20 = .ok (.iload_n 2, 1) := by decide +kernel
theorem dX3_init_21 : decode cX3_init 21 = .ok (.aload_n 0, 1) := by decide +kernel
theorem dX3_init_22 : decode cX3_init 22 = .ok (.getfield 9, 3) := by decide +kernel
theorem dX3_init_25 : decode cX3_init 25 = .ok (.arraylength, 1) := by decide +kernel
theorem dX3_init_26 : decode cX3_init 26 = .ok (.if_icmp .ge 28, 3) := by decide +kernel
theorem dX3_init_29 : decode cX3_init 29 = .ok (.aload_n 0, 1) := by decide +kernel
theorem dX3_init_30 : decode cX3_init 30 = .ok (.getfield 9, 3) := by decide +kernel
theorem dX3_init_33 : decode cX3_init 33 = .ok (.iload_n 2, 1) := by decide +kernel
theorem dX3_init_34 : decode cX3_init 34 = .ok (.aload_n 1, 1) := by decide +kernel
theorem dX3_init_35 : decode cX3_init 35 = .ok (.iload_n 2, 1) := by decide +kernel
theorem dX3_init_36 : decode cX3_init 36 = .ok (.iaload, 1) := by decide +kernel
theorem dX3_init_37 : decode cX3_init 37 = .ok (.iastore, 1) := by decide +kernel
theorem dX3_init_38 : decode cX3_init 38 = .ok (.aload_n 0, 1) := by decide +kernel
theorem dX3_init_39 : decode cX3_init 39 = .ok (.dup, 1) := by decide +kernel
theorem dX3_init_40 : decode cX3_init 40 = .ok (.getfield 15, 3) := by decide +kernel
theorem dX3_init_43 : decode cX3_init 43 = .ok (.iconst 1, 1) := by decide +kernel
theorem dX3_init_44 : decode cX3_init 44 = .ok (.iadd, 1) := by decide +kernel
theorem dX3_init_45 : decode cX3_init 45 = .ok (.putfield 15, 3) := by decide +kernel
theorem dX3_init_48 : decode cX3_init 48 = .ok (.iinc 2 1, 3) := by decide +kernel
theorem dX3_init_51 : decode cX3_init 51 = .ok (.goto (-37), 3) := by decide +kernel
theorem dX3_init_54 : decode cX3_init 54 = .ok (.return_, 1) := by decide +kernel
theorem dX3_append_0 : decode cX3_append 0 = .ok (.aload_n 0, 1) := by decide +kernel
theorem dX3_append_1 : decode cX3_append 1 = .ok (.getfield 15, 3) := by decide +kernel
theorem dX3_append_4 : decode cX3_append 4 = .ok (.ifCond .lt 35, 3) := by decide +kernel
theorem dX3_append_7 : decode cX3_append 7 = .ok (.aload_n 0, 1) := by decide +kernel
theorem dX3_append_8 : decode cX3_append 8 = .ok (.getfield 15, 3) := by decide +kernel
theorem dX3_append_11 : decode cX3_append 11 = .ok (.aload_n 0, 1) := by decide +kernel
theorem dX3_append_12 : decode cX3_append 12 = .ok (.getfield 9, 3) := by decide +kernel
theorem dX3_append_15 : decode cX3_append 15 = .ok (.arraylength, 1) := by decide +kernel
theorem dX3_append_16 : decode cX3_append 16 = .ok (.if_icmp .ge 23, 3) := by decide +kernel
theorem dX3_append_19 : decode cX3_append 19 = .ok (.aload_n 0, 1) := by decide +kernel
theorem dX3_append_20 : decode cX3_append 20 = .ok (.getfield 9, 3) := by decide +kernel
theorem dX3_append_23 : decode cX3_append 23 = .ok (.aload_n 0, 1) := by decide +kernel
theorem dX3_append_24 : decode cX3_append 24 = .ok (.getfield 15, 3) := by decide +kernel
theorem dX3_append_27 : decode cX3_append 27 = .ok (.iload_n 1, 1) := by decide +kernel
theorem dX3_append_28 : decode cX3_append 28 = .ok (.iastore, 1) := by decide +kernel
theorem dX3_append_29 : decode cX3_append 29 = .ok (.aload_n 0, 1) := by decide +kernel
theorem dX3_append_30 : decode cX3_append 30 = .ok (.dup, 1) := by decide +kernel
theorem dX3_append_31 : decode cX3_append 31 = .ok (.getfield 15, 3) := by decide +kernel
theorem dX3_append_34 : decode cX3_append 34 = .ok (.iconst 1, 1) := by decide +kernel
theorem dX3_append_35 : decode cX3_append 35 = .ok (.iadd, 1) := by decide +kernel
theorem dX3_append_36 : decode cX3_append 36 = .ok (.putfield 15, 3) := by decide +kernel
theorem dX3_append_39 : decode cX3_append 39 = .ok (.return_, 1) := by decide +kernel
theorem dX3_daysBehind_0 : decode cX3_daysBehind 0 = .ok (.iload_n 1, 1) := by decide +kernel
theorem dX3_daysBehind_1 : decode cX3_daysBehind 1 = .ok (.iconst 1, 1) := by decide +kernel
theorem dX3_daysBehind_2 : decode cX3_daysBehind 2 = .ok (.if_icmp .lt 24, 3) := by decide +kernel
theorem dX3_daysBehind_5 : decode cX3_daysBehind 5 = .ok (.iload_n 1, 1) := by decide +kernel
theorem dX3_daysBehind_6 : decode cX3_daysBehind 6 = .ok (.aload_n 0, 1) := by decide +kernel
theorem dX3_daysBehind_7 : decode cX3_daysBehind 7 = .ok (.getfield 15, 3) := by decide +kernel
theorem dX3_daysBehind_10 : decode cX3_daysBehind 10 = .ok (.if_icmp .gt 16, 3) := by decide +kernel
theorem dX3_daysBehind_13 : decode cX3_daysBehind 13 = .ok (.iload_n 1, 1) := by decide +kernel
theorem dX3_daysBehind_14 : decode cX3_daysBehind 14 = .ok (.aload_n 0, 1) := by decide +kernel
theorem dX3_daysBehind_15 : decode cX3_daysBehind 15 = .ok (.getfield 9, 3) := by decide +kernel
theorem dX3_daysBehind_18 : decode cX3_daysBehind 18 = .ok (.arraylength, 1) := by decide +kernel
theorem dX3_daysBehind_19 : decode cX3_daysBehind 19 = .ok (.if_icmp .gt 7, 3) := by decide +kernel
theorem dX3_daysBehind_22 : decode cX3_daysBehind 22 = .ok (.iconst 1, 1) := by decide +kernel
theorem dX3_daysBehind_23 : decode cX3_daysBehind 23 = .ok (.goto 4, 3) := by decide +kernel
theorem dX3_daysBehind_26 : decode cX3_daysBehind 26 = .ok (.iconst 0, 1) := by decide +kernel
theorem dX3_daysBehind_27 : decode cX3_daysBehind 27 = .ok (.istore_n 2, 1) := by decide +kernel
theorem dX3_daysBehind_28 : decode cX3_daysBehind 28 = .ok (.iload_n 2, 1) := by decide +kernel
theorem dX3_daysBehind_29 : decode cX3_daysBehind 29 = .ok (.ifCond .eq 14, 3) := by decide +kernel
theorem dX3_daysBehind_32 : decode cX3_daysBehind 32 = .ok (.aload_n 0, 1) := by decide +kernel
theorem dX3_daysBehind_33 : decode cX3_daysBehind 33 = .ok (.getfield 9, 3) := by decide +kernel
theorem dX3_daysBehind_36 : decode cX3_daysBehind 36 = .ok (.iload_n 1, 1) := by decide +kernel
theorem dX3_daysBehind_37 : decode cX3_daysBehind 37 = .ok (.iconst 1, 1) := by decide +kernel
theorem dX3_daysBehind_38 : decode cX3_daysBehind 38 = .ok (.isub, 1) := by decide +kernel
theorem dX3_daysBehind_39 : decode cX3_daysBehind 39 = .ok (.iaload, 1) := by decide +kernel
theorem dX3_daysBehind_40 : decode cX3_daysBehind 40 = .ok (.goto 4, 3) := by decide +kernel
theorem dX3_daysBehind_43 : decode cX3_daysBehind 43 = .ok (.iconst 0, 1) := by decide +kernel
theorem dX3_daysBehind_44 : decode cX3_daysBehind 44 = .ok (.ireturn, 1) := by decide +kernel
theorem dX4_init_0 : decode cX4_init 0 = .ok (.aload_n 0, 1) := by decide +kernel
theorem dX4_init_1 : decode cX4_init 1 = .ok (.invokespecial 1, 3) := by decide +kernel
theorem dX4_init_4 : decode cX4_init 4 = .ok (.aload_n 0, 1) := by decide +kernel
theorem dX4_init_5 : decode cX4_init 5 = .ok (.new 7, 3) := by decide +kernel
theorem dX4_init_8 : decode cX4_init 8 = .ok (.dup, 1) := by decide +kernel
theorem dX4_init_9 : decode cX4_init 9 = .ok (.invokespecial 9, 3) := by decide +kernel
theorem dX4_init_12 : decode cX4_init 12 = .ok (.putfield 10, 3) := by decide +kernel
theorem dX4_init_15 : decode cX4_init 15 = .ok (.aload_n 0, 1) := by decide +kernel
theorem dX4_init_16 : decode cX4_init 16 = .ok (.iconst 4, 1) := by decide +kernel
theorem dX4_init_17 : decode cX4_init 17 = .ok (.anewarray 16, 3) := by decide +kernel
theorem dX4_init_20 : decode cX4_init 20 = .ok (.dup, 1) := by decide +kernel
theorem dX4_init_21 : decode cX4_init 21 = .ok (.iconst 0, 1) := by decide +kernel
theorem dX4_init_22 : decode cX4_init 22 = .ok (.new 16, 3) := by decide +kernel
theorem dX4_init_25 : decode cX4_init 25 = .ok (.dup, 1) := by decide +kernel
theorem dX4_init_26 : decode cX4_init 26 = .ok (.getstatic 18, 3) := by decide +kernel
theorem dX4_init_29 : decode cX4_init 29 = .ok (.invokespecial 22, 3) := by decide +kernel
theorem dX4_init_32 : decode cX4_init 32 = .ok (.aastore, 1) := by decide +kernel
theorem dX4_init_33 : decode cX4_init 33 = .ok (.dup, 1) := by decide +kernel
theorem dX4_init_34 : decode cX4_init 34 = .ok (.iconst 1, 1) := by decide +kernel
theorem dX4_init_35 : decode cX4_init 35 = .ok (.new 16, 3) := by decide +kernel
theorem dX4_init_38 : decode cX4_init 38 = .ok (.dup, 1) := by decide +kernel
theorem dX4_init_39 : decode cX4_init 39 = .ok (.getstatic 25, 3) := by decide +kernel
theorem dX4_init_42 : decode cX4_init 42 = .ok (.invokespecial 22, 3) := by decide +kernel
theorem dX4_init_45 : decode cX4_init 45 = .ok (.aastore, 1) := by decide +kernel
theorem dX4_init_46 : decode cX4_init 46 = .ok (.dup, 1) := by decide +kernel
theorem dX4_init_47 : decode cX4_init 47 = .ok (.iconst 2, 1) := by decide +kernel
theorem dX4_init_48 : decode cX4_init 48 = .ok (.new 16, 3) := by decide +kernel
theorem dX4_init_51 : decode cX4_init 51 = .ok (.dup, 1) := by decide +kernel
theorem dX4_init_52 : decode cX4_init 52 = .ok (.getstatic 28, 3) := by decide +kernel
theorem dX4_init_55 : decode cX4_init 55 = .ok (.invokespecial 22, 3) := by decide +kernel
theorem dX4_init_58 : decode cX4_init 58 = .ok (.aastore, 1) := by decide +kernel
theorem dX4_init_59 : decode cX4_init 59 = .ok (.dup, 1) := by decide +kernel
theorem dX4_init_60 : decode cX4_init 60 = .ok (.iconst 3, 1) := by decide +kernel
theorem dX4_init_61 : decode cX4_init 61 = .ok (.new 16, 3) := by decide +kernel
theorem dX4_init_64 : decode cX4_init 64 = .ok (.dup, 1) := by decide +kernel
theorem dX4_init_65 : decode cX4_init 65 = .ok (.getstatic 31, 3) := by decide +kernel
theorem dX4_init_68 : decode cX4_init 68 = .ok (.invokespecial 22, 3) := by decide +kernel
theorem dX4_init_71 : decode cX4_init 71 = .ok (.aastore, 1) := by decide +kernel
theorem dX4_init_72 : decode cX4_init 72 = .ok (.putfield 34, 3) := by decide +kernel
theorem dX4_init_75 : decode cX4_init 75 = .ok (.aload_n 0, 1) := by decide +kernel
theorem dX4_init_76 : decode cX4_init 76 = .ok (.bipush 30, 2) := by decide +kernel
theorem dX4_init_78 : decode cX4_init 78 = .ok (.anewarray 38, 3) := by decide +kernel
theorem dX4_init_81 : decode cX4_init 81 = .ok (.putfield 40, 3) := by decide +kernel
theorem dX4_init_84 : decode cX4_init 84 = .ok (.aload_n 0, 1) := by decide +kernel
theorem dX4_init_85 : decode cX4_init 85 = .ok (.new 44, 3) := by decide +kernel
theorem dX4_init_88 : decode cX4_init 88 = .ok (.dup, 1) := by decide +kernel
theorem dX4_init_89 : decode cX4_init 89 = .ok (.invokespecial 46, 3) := by decide +kernel
theorem dX4_init_92 : decode cX4_init 92 = .ok (.putfield 47, 3) := by decide +kernel
theorem dX4_init_95 : decode cX4_init 95 = .ok (.aload_n 0, 1) := by decide +kernel
theorem dX4_init_96 : decode cX4_init 96 = .ok (.bipush 10, 2) := by decide +kernel
theorem dX4_init_98 : decode cX4_init 98 = .ok (.putfield 51, 3) := by decide +kernel
theorem dX4_init_101 : decode cX4_init 101 = .ok (.aload_n 0, 1) := by decide +kernel
theorem dX4_init_102 : decode cX4_init 102 = .ok (.bipush 30, 2) := by decide +kernel
theorem dX4_init_104 : decode cX4_init 104 = .ok (.putfield 55, 3) := by decide +kernel
theorem dX4_init_107 : decode cX4_init 107 = .ok (.return_, 1) := by decide +kernel
theorem dX4_setWeekday_0 : decode cX4_setWeekday 0 = .ok (.iload_n 1, 1) := by decide +kernel
theorem dX4_setWeekday_1 : decode cX4_setWeekday 1 = .ok (.ifCond .lt 9, 3) := by decide +kernel
theorem dX4_setWeekday_4 : decode cX4_setWeekday 4 = .ok (.iload_n 1, 1) := by decide +kernel
theorem dX4_setWeekday_5 : decode cX4_setWeekday 5 = .ok (.bipush 7, 2) := by decide +kernel
theorem dX4_setWeekday_7 : decode cX4_setWeekday 7 = .ok (.if_icmp .lt 13, 3) := by decide +kernel
theorem dX4_setWeekday_10 : decode cX4_setWeekday 10 = .ok (.new 58, 3) := by decide +kernel
theorem dX4_setWeekday_13 : decode cX4_setWeekday 13 = .ok (.dup, 1) := by decide +kernel
theorem dX4_setWeekday_14 : decode cX4_setWeekday 14 = .ok (.ldc 60, 2) := by decide +kernel
theorem dX4_setWeekday_16 : decode cX4_setWeekday 16 = .ok (.invokespecial 62, 3) := by decide +kernel
theorem dX4_setWeekday_19 : decode cX4_setWeekday 19 = .ok (.athrow, 1) := by decide +kernel
theorem dX4_setWeekday_20 : decode cX4_setWeekday 20 = .ok (.aload_n 0, 1) := by decide +kernel
theorem dX4_setWeekday_21 : decode cX4_setWeekday 21 = .ok (.getfield 10, 3) := by decide +kernel
theorem dX4_setWeekday_24 : decode cX4_setWeekday 24 = .ok (.iload_n 1, 1) := by decide +kernel
theorem dX4_setWeekday_25 : decode cX4_setWeekday 25 = .ok (.iload_n 2, 1) := by decide +kernel
theorem dX4_setWeekday_26 : decode cX4_setWeekday 26 = .ok (.invokevirtual 65, 3) := by decide +kernel
theorem dX4_setWeekday_29 : decode cX4_setWeekday 29 = .ok (.istore_n 3, 1) := by decide +kernel
theorem dX4_setWeekday_30 : decode cX4_setWeekday 30 = .ok (.iload_n 3, 1) := by decide +kernel
theorem dX4_setWeekday_31 : decode cX4_setWeekday 31 = .ok (.ifCond .ne 13, 3) := by decide +kernel
theorem dX4_setWeekday_34 : decode cX4_setWeekday 34 = .ok (.new 69, 3) := by decide +kernel
theorem dX4_setWeekday_37 : decode cX4_setWeekday 37 = .ok (.dup, 1) := by decide +kernel
theorem dX4_setWeekday_38 : decode cX4_setWeekday 38 = .ok (.ldc 71, 2) := by decide +kernel
theorem dX4_setWeekday_40 : decode cX4_setWeekday 40 = .ok (.invokespecial 73, 3) := by decide +kernel
theorem dX4_setWeekday_43 : decode cX4_setWeekday 43 = .ok (.athrow, 1) := by decide +kernel
theorem dX4_setWeekday_44 : decode cX4_setWeekday 44 = .ok (.aload_n 0, 1) := by decide +kernel
theorem dX4_setWeekday_45 : decode cX4_setWeekday 45 = .ok (.getfield 10, 3) := by decide +kernel
theorem dX4_setWeekday_48 : decode cX4_setWeekday 48 = .ok (.iload_n 3, 1) := by decide +kernel
theorem dX4_setWeekday_49 : decode cX4_setWeekday 49 = .ok (.putfield 74, 3) := by decide +kernel
theorem dX4_setWeekday_52 : decode cX4_setWeekday 52 = .ok (.iload_n 3, 1) := by decide +kernel
theorem dX4_setWeekday_53 : decode cX4_setWeekday 53 = .ok (.invokestatic 77, 3) := by decide +kernel
theorem dX4_setWeekday_56 : decode cX4_setWeekday 56 = .ok (.ireturn, 1) := by decide +kernel
theorem dX4_addHoliday_0 : decode cX4_addHoliday 0 = .ok (.iload_n 1, 1) := by decide +kernel
theorem dX4_addHoliday_1 : decode cX4_addHoliday 1 = .ok (.aload_n 0, 1) := by decide +kernel
theorem dX4_addHoliday_2 : decode cX4_addHoliday 2 = .ok (.getfield 83, 3) := by decide +kernel
theorem dX4_addHoliday_5 : decode cX4_addHoliday 5 = .ok (.iconst 1, 1) := by decide +kernel
theorem dX4_addHoliday_6 : decode cX4_addHoliday 6 = .ok (.iadd, 1) := by decide +kernel
theorem dX4_addHoliday_7 : decode cX4_addHoliday 7 = .ok (.aload_n 0, 1) := by decide +kernel
theorem dX4_addHoliday_8 : decode cX4_addHoliday 8 = .ok (.getfield 83, 3) := by decide +kernel
theorem dX4_addHoliday_11 : decode cX4_addHoliday 11 = .ok (.bipush 60, 2) := by decide +kernel
theorem dX4_addHoliday_13 : decode cX4_addHoliday 13 = .ok (.iadd, 1) := by decide +kernel
theorem dX4_addHoliday_14 : decode cX4_addHoliday 14 = .ok (.invokestatic 86, 3) := by decide +kernel
theorem dX4_addHoliday_17 : decode cX4_addHoliday 17 = .ok (.aload_n 0, 1) := by decide +kernel
theorem dX4_addHoliday_18 : decode cX4_addHoliday 18 = .ok (.getfield 10, 3) := by decide +kernel
theorem dX4_addHoliday_21 : decode cX4_addHoliday 21 = .ok (.iload_n 1, 1) := by decide +kernel
theorem dX4_addHoliday_22 : decode cX4_addHoliday 22 = .ok (.invokevirtual 90, 3) := by decide +kernel
theorem dX4_addHoliday_25 : decode cX4_addHoliday 25 = .ok (.ifCond .ne 7, 3) := by decide +kernel
theorem dX4_addHoliday_28 : decode cX4_addHoliday 28 = .ok (.iconst 1, 1) := by decide +kernel
theorem dX4_addHoliday_29 : decode cX4_addHoliday 29 = .ok (.goto 4, 3) := by decide +kernel
theorem dX4_addHoliday_32 : decode cX4_addHoliday 32 = .ok (.iconst 0, 1) := by decide +kernel
theorem dX4_addHoliday_33 : decode cX4_addHoliday 33 = .ok (.istore_n 2, 1) := by decide +kernel
theorem dX4_addHoliday_34 : decode cX4_addHoliday 34 = .ok (.aload_n 0, 1) := by decide +kernel
theorem dX4_addHoliday_35 : decode cX4_addHoliday 35 = .ok (.getfield 10, 3) := by decide +kernel
theorem dX4_addHoliday_38 : decode cX4_addHoliday 38 = .ok (.iload_n 1, 1) := by decide +kernel
theorem dX4_addHoliday_39 : decode cX4_addHoliday 39 = .ok (.invokevirtual 94, 3) := by decide +kernel
theorem dX4_addHoliday_42 : decode cX4_addHoliday 42 = .ok (.iload_n 2, 1) := by decide +kernel
theorem dX4_addHoliday_43 : decode cX4_addHoliday 43 = .ok (.ireturn, 1) := by decide +kernel
theorem dX4_addGap_0 : decode cX4_addGap 0 = .ok (.aload_n 0, 1) := by decide +kernel
theorem dX4_addGap_1 : decode cX4_addGap 1 = .ok (.getfield 34, 3) := by decide +kernel
theorem dX4_addGap_4 : decode cX4_addGap 4 = .ok (.iload_n 1, 1) := by decide +kernel
theorem dX4_addGap_5 : decode cX4_addGap 5 = .ok (.invokestatic 98, 3) := by decide +kernel
theorem dX4_addGap_8 : decode cX4_addGap 8 = .ok (.aaload, 1) := by decide +kernel
theorem dX4_addGap_9 : decode cX4_addGap 9 = .ok (.astore_n 3, 1) := by decide +kernel
theorem dX4_addGap_10 : decode cX4_addGap 10 = .ok (.iload_n 2, 1) := by decide +kernel
theorem dX4_addGap_11 : decode cX4_addGap 11 = .ok (.iconst 1, 1) := by decide +kernel
theorem dX4_addGap_12 : decode cX4_addGap 12 = .ok (.bipush 30, 2) := by decide +kernel
theorem dX4_addGap_14 : decode cX4_addGap 14 = .ok (.invokestatic 86, 3) := by decide +kernel
theorem dX4_addGap_17 : decode cX4_addGap 17 = .ok (.aload_n 3, 1) := by decide +kernel
theorem dX4_addGap_18 : decode cX4_addGap 18 = .ok (.getfield 101, 3) := by decide +kernel
theorem dX4_addGap_21 : decode cX4_addGap 21 = .ok (.bipush 6, 2) := by decide +kernel
theorem dX4_addGap_23 : decode cX4_addGap 23 = .ok (.if_icmp .lt 13, 3) := by decide +kernel
theorem dX4_addGap_26 : decode cX4_addGap 26 = .ok (.new 69, 3) := by decide +kernel
theorem dX4_addGap_29 : decode cX4_addGap 29 = .ok (.dup, 1) := by decide +kernel
theorem dX4_addGap_30 : decode cX4_addGap 30 = .ok (.ldc 104, 2) := by decide +kernel
theorem dX4_addGap_32 : decode cX4_addGap 32 = .ok (.invokespecial 73, 3) := by decide +kernel
theorem dX4_addGap_35 : decode cX4_addGap 35 = .ok (.athrow, 1) := by decide +kernel
theorem dX4_addGap_36 : decode cX4_addGap 36 = .ok (.aload_n 3, 1) := by decide +kernel
theorem dX4_addGap_37 : decode cX4_addGap 37 = .ok (.iload_n 2, 1) := by decide +kernel
theorem dX4_addGap_38 : decode cX4_addGap 38 = .ok (.invokevirtual 106, 3) := by decide +kernel
theorem dX4_addGap_41 : decode cX4_addGap 41 = .ok (.aload_n 3, 1) := by decide +kernel
theorem dX4_addGap_42 : decode cX4_addGap 42 = .ok (.getfield 101, 3) := by decide +kernel
theorem dX4_addGap_45 : decode cX4_addGap 45 = .ok (.ireturn, 1) := by decide +kernel
theorem dX4_clearGaps_0 : decode cX4_clearGaps 0 = .ok (.aload_n 0, 1) := by decide +kernel
theorem dX4_clearGaps_1 : decode cX4_clearGaps 1 = .ok (.getfield 34, 3) := by decide +kernel
theorem dX4_clearGaps_4 : decode cX4_clearGaps 4 = .ok (.iload_n 1, 1) := by decide +kernel
theorem dX4_clearGaps_5 : decode cX4_clearGaps 5 = .ok (.invokestatic 98, 3) := by decide +kernel
theorem dX4_clearGaps_8 : decode cX4_clearGaps 8 = .ok (.aaload, 1) := by decide +kernel
theorem dX4_clearGaps_9 : decode cX4_clearGaps 9 = .ok (.astore_n 2, 1) := by decide +kernel
theorem dX4_clearGaps_10 : decode cX4_clearGaps 10 = .ok (.aload_n 2, 1) := by decide +kernel
theorem dX4_clearGaps_11 : decode cX4_clearGaps 11 = .ok (.getfield 101, 3) := by decide +kernel
theorem dX4_clearGaps_14 : decode cX4_clearGaps 14 = .ok (.istore_n 3, 1) := by decide +kernel
theorem dX4_clearGaps_15 : decode cX4_clearGaps 15 = .ok (.aload_n 2, 1) := by decide +kernel
theorem dX4_clearGaps_16 : decode cX4_clearGaps 16 = .ok (.iconst 0, 1) := by decide +kernel
theorem dX4_clearGaps_17 : decode cX4_clearGaps 17 = .ok (.putfield 101, 3) := by decide +kernel
theorem dX4_clearGaps_20 : decode cX4_clearGaps 20 = .ok (.iload_n 3, 1) := by decide +kernel
theorem dX4_clearGaps_21 : decode cX4_clearGaps 21 = .ok (.ireturn, 1) := by decide +kernel
theorem dX4_setTimes_0 : decode cX4_setTimes 0 = .ok (.iload_n 1, 1) := by decide +kernel
theorem dX4_setTimes_1 : decode cX4_setTimes 1 = .ok (.iconst 1, 1) := by decide +kernel
theorem dX4_setTimes_2 : decode cX4_setTimes 2 = .ok (.bipush 60, 2) := by decide +kernel
theorem dX4_setTimes_4 : decode cX4_setTimes 4 = .ok (.invokestatic 86, 3) := by decide +kernel
theorem dX4_setTimes_7 : decode cX4_setTimes 7 = .ok (.iload_n 2, 1) := by decide +kernel
theorem dX4_setTimes_8 : decode cX4_setTimes 8 = .ok (.iconst 1, 1) := by decide +kernel
theorem dX4_setTimes_9 : decode cX4_setTimes 9 = .ok (.bipush 90, 2) := by decide +kernel
theorem dX4_setTimes_11 : decode cX4_setTimes 11 = .ok (.invokestatic 86, 3) := by decide +kernel
theorem dX4_setTimes_14 : decode cX4_setTimes 14 = .ok (.aload_n 0, 1) := by decide +kernel
theorem dX4_setTimes_15 : decode cX4_setTimes 15 = .ok (.getfield 51, 3) := by decide +kernel
theorem dX4_setTimes_18 : decode cX4_setTimes 18 = .ok (.istore_n 3, 1) := by decide +kernel
theorem dX4_setTimes_19 : decode cX4_setTimes 19 = .ok (.aload_n 0, 1) := by decide +kernel
theorem dX4_setTimes_20 : decode cX4_setTimes 20 = .ok (.iload_n 1, 1) := by decide +kernel
theorem dX4_setTimes_21 : decode cX4_setTimes 21 = .ok (.putfield 51, 3) := by decide +kernel
theorem dX4_setTimes_24 : decode cX4_setTimes 24 = .ok (.aload_n 0, 1) := by decide +kernel
theorem dX4_setTimes_25 : decode cX4_setTimes 25 = .ok (.iload_n 2, 1) := by decide +kernel
theorem dX4_setTimes_26 : decode cX4_setTimes 26 = .ok (.putfield 55, 3) := by decide +kernel
theorem dX4_setTimes_29 : decode cX4_setTimes 29 = .ok (.iload_n 3, 1) := by decide +kernel
theorem dX4_setTimes_30 : decode cX4_setTimes 30 = .ok (.ireturn, 1) := by decide +kernel
theorem dX4_bill_0 : decode cX4_bill 0 = .ok (.iload_n 1, 1) := by decide +kernel
theorem dX4_bill_1 : decode cX4_bill 1 = .ok (.invokestatic 109, 3) := by decide +kernel
theorem dX4_bill_4 : decode cX4_bill 4 = .ok (.iload_n 2, 1) := by decide +kernel
theorem dX4_bill_5 : decode cX4_bill 5 = .ok (.iconst 1, 1) := by decide +kernel
theorem dX4_bill_6 : decode cX4_bill 6 = .ok (.sipush 9999, 3) := by decide +kernel
theorem dX4_bill_9 : decode cX4_bill 9 = .ok (.invokestatic 86, 3) := by decide +kernel
theorem dX4_bill_12 : decode cX4_bill 12 = .ok (.aload_n 0, 1) := by decide +kernel
theorem dX4_bill_13 : decode cX4_bill 13 = .ok (.getfield 112, 3) := by decide +kernel
theorem dX4_bill_16 : decode cX4_bill 16 = .ok (.istore_n 3, 1) := by decide +kernel
theorem dX4_bill_17 : decode cX4_bill 17 = .ok (.iload_n 3, 1) := by decide +kernel
theorem dX4_bill_18 : decode cX4_bill 18 = .ok (.ifCond .lt 12, 3) := by decide +kernel
theorem dX4_bill_21 : decode cX4_bill 21 = .ok (.iload_n 3, 1) := by decide +kernel
theorem dX4_bill_22 : decode cX4_bill 22 = .ok (.aload_n 0, 1) := by decide +kernel
theorem dX4_bill_23 : decode cX4_bill 23 = .ok (.getfield 40, 3) := by decide +kernel
theorem dX4_bill_26 : decode cX4_bill 26 = .ok (.arraylength, 1) := by decide +kernel
theorem dX4_bill_27 : decode cX4_bill 27 = .ok (.if_icmp .lt 13, 3) := by decide +kernel
theorem dX4_bill_30 : decode cX4_bill 30 = .ok (.new 69, 3) := by decide +kernel
theorem dX4_bill_33 : decode cX4_bill 33 = .ok (.dup, 1) := by decide +kernel
theorem dX4_bill_34 : decode cX4_bill 34 = .ok (.ldc 115, 2) := by decide +kernel
theorem dX4_bill_36 : decode cX4_bill 36 = .ok (.invokespecial 73, 3) := by decide +kernel
theorem dX4_bill_39 : decode cX4_bill 39 = .ok (.athrow, 1) := by decide +kernel
theorem dX4_bill_40 : decode cX4_bill 40 = .ok (.new 38, 3) := by decide +kernel
theorem dX4_bill_43 : decode cX4_bill 43 = .ok (.dup, 1) := by decide +kernel
theorem dX4_bill_44 : decode cX4_bill 44 = .ok (.iload_n 3, 1) := by decide +kernel
theorem dX4_bill_45 : decode cX4_bill 45 = .ok (.iload_n 1, 1) := by decide +kernel
theorem dX4_bill_46 : decode cX4_bill 46 = .ok (.iload_n 2, 1) := by decide +kernel
theorem dX4_bill_47 : decode cX4_bill 47 = .ok (.invokespecial 117, 3) := by decide +kernel
theorem dX4_bill_50 : decode cX4_bill 50 = .ok (.astore 4, 2) := by decide +kernel
theorem dX4_bill_52 : decode cX4_bill 52 = .ok (.aload_n 0, 1) := by decide +kernel
theorem dX4_bill_53 : decode cX4_bill 53 = .ok (.getfield 40, 3) := by decide +kernel
theorem dX4_bill_56 : decode cX4_bill 56 = .ok (.iload_n 3, 1) := by decide +kernel
theorem dX4_bill_57 : decode cX4_bill 57 = .ok (.aload 4, 2) := by decide +kernel
theorem dX4_bill_59 : decode cX4_bill 59 = .ok (.aastore, 1) := by decide +kernel
theorem dX4_bill_60 : decode cX4_bill 60 = .ok (.aload_n 0, 1) := by decide +kernel
theorem dX4_bill_61 : decode cX4_bill 61 = .ok (.iload_n 3, 1) := by decide +kernel
theorem dX4_bill_62 : decode cX4_bill 62 = .ok (.iconst 1, 1) := by decide +kernel
theorem dX4_bill_63 : decode cX4_bill 63 = .ok (.iadd, 1) := by decide +kernel
theorem dX4_bill_64 : decode cX4_bill 64 = .ok (.putfield 112, 3) := by decide +kernel
theorem dX4_bill_67 : decode cX4_bill 67 = .ok (.aload_n 0, 1) := by decide +kernel
theorem dX4_bill_68 : decode cX4_bill 68 = .ok (.dup, 1) := by decide +kernel
theorem dX4_bill_69 : decode cX4_bill 69 = .ok (.getfield 119, 3) := by decide +kernel
theorem dX4_bill_72 : decode cX4_bill 72 = .ok (.iload_n 2, 1) := by decide +kernel
theorem dX4_bill_73 : decode cX4_bill 73 = .ok (.iadd, 1) := by decide +kernel
theorem dX4_bill_74 : decode cX4_bill 74 = .ok (.putfield 119, 3) := by decide +kernel
theorem dX4_bill_77 : decode cX4_bill 77 = .ok (.aload_n 0, 1) := by decide +kernel
theorem dX4_bill_78 : decode cX4_bill 78 = .ok (.aload 4, 2) := by decide +kernel
theorem dX4_bill_80 : decode cX4_bill 80 = .ok (.iconst 0, 1) := by decide +kernel
theorem dX4_bill_81 : decode cX4_bill 81 = .ok (.aload_n 0, 1) := by decide +kernel
theorem dX4_bill_82 : decode cX4_bill 82 = .ok (.getfield 10, 3) := by decide +kernel
theorem dX4_bill_85 : decode cX4_bill 85 = .ok (.aload_n 0, 1) := by decide +kernel
theorem dX4_bill_86 : decode cX4_bill 86 = .ok (.getfield 83, 3) := by decide +kernel
theorem dX4_bill_89 : decode cX4_bill 89 = .ok (.iconst 1, 1) := by decide +kernel
theorem dX4_bill_90 : decode cX4_bill 90 = .ok (.iadd, 1) := by decide +kernel
theorem dX4_bill_91 : decode cX4_bill 91 = .ok (.invokevirtual 122, 3) := by decide +kernel
theorem dX4_bill_94 : decode cX4_bill 94 = .ok (.invokevirtual 125, 3) := by decide +kernel
theorem dX4_bill_97 : decode cX4_bill 97 = .ok (.iload_n 3, 1) := by decide +kernel
theorem dX4_bill_98 : decode cX4_bill 98 = .ok (.ireturn, 1) := by decide +kernel
theorem dX4_outcome_0 : decode cX4_outcome 0 = .ok (.aload_n 0, 1) := by decide +kernel
theorem dX4_outcome_1 : decode cX4_outcome 1 = .ok (.iload_n 1, 1) := by decide +kernel
theorem dX4_outcome_2 : decode cX4_outcome 2 = .ok (.invokevirtual 129, 3) := by decide +kernel
theorem dX4_outcome_5 : decode cX4_outcome 5 = .ok (.astore_n 3, 1) := by decide +kernel
theorem dX4_outcome_6 : decode cX4_outcome 6 = .ok (.iload_n 2, 1) := by decide +kernel
theorem dX4_outcome_7 : decode cX4_outcome 7 = .ok (.iconst 0, 1) := by decide +kernel
theorem dX4_outcome_8 : decode cX4_outcome 8 = .ok (.iconst 4, 1) := by decide +kernel
theorem dX4_outcome_9 : decode cX4_outcome 9 = .ok (.invokestatic 86, 3) := by decide +kernel
theorem dX4_outcome_12 : decode cX4_outcome 12 = .ok (.aload_n 3, 1) := by decide +kernel
theorem dX4_outcome_13 : decode cX4_outcome 13 = .ok (.getfield 133, 3) := by decide +kernel
theorem dX4_outcome_16 : decode cX4_outcome 16 = .ok (.iconst 1, 1) := by decide +kernel
theorem dX4_outcome_17 : decode cX4_outcome 17 = .ok (.if_icmp .eq 13, 3) := by decide +kernel
theorem dX4_outcome_20 : decode cX4_outcome 20 = .ok (.new 69, 3) := by decide +kernel
theorem dX4_outcome_23 : decode cX4_outcome 23 = .ok (.dup, 1) := by decide +kernel
theorem dX4_outcome_24 : decode cX4_outcome 24 = .ok (.ldc 136, 2) := by decide +kernel
theorem dX4_outcome_26 : decode cX4_outcome 26 = .ok (.invokespecial 73, 3) := by decide +kernel
theorem dX4_outcome_29 : decode cX4_outcome 29 = .ok (.athrow, 1) := by decide +kernel
theorem dX4_outcome_30 : decode cX4_outcome 30 = .ok (.iload_n 2, 1) := by decide +kernel
theorem dX4_outcome_31 : decode cX4_outcome 31 = .ok (.ifCond .ne 15, 3) := by decide +kernel
theorem dX4_outcome_34 : decode cX4_outcome 34 = .ok (.aload_n 0, 1) := by decide +kernel
theorem dX4_outcome_35 : decode cX4_outcome 35 = .ok (.aload_n 3, 1) := by decide +kernel
theorem dX4_outcome_36 : decode cX4_outcome 36 = .ok (.aload_n 3, 1) := by decide +kernel
theorem dX4_outcome_37 : decode cX4_outcome 37 = .ok (.getfield 138, 3) := by decide +kernel
theorem dX4_outcome_40 : decode cX4_outcome 40 = .ok (.invokevirtual 141, 3) := by decide +kernel
theorem dX4_outcome_43 : decode cX4_outcome 43 = .ok (.goto 9, 3) := by decide +kernel
theorem dX4_outcome_46 : decode cX4_outcome 46 = .ok (.aload_n 0, 1) := by decide +kernel
theorem dX4_outcome_47 : decode cX4_outcome 47 = .ok (.aload_n 3, 1) := by decide +kernel
theorem dX4_outcome_48 : decode cX4_outcome 48 = .ok (.iload_n 2, 1) := by decide +kernel
theorem dX4_outcome_49 : decode cX4_outcome 49 = .ok (.invokevirtual 145, 3) := by decide +kernel
theorem dX4_outcome_52 : decode cX4_outcome 52 = .ok (.aload_n 3, 1) := by decide +kernel
theorem dX4_outcome_53 : decode cX4_outcome 53 = .ok (.getfield 133, 3) := by decide +kernel
theorem dX4_outcome_56 : decode cX4_outcome 56 = .ok (.ireturn, 1) := by decide +kernel
theorem dX4_pay_0 : decode cX4_pay 0 = .ok (.aload_n 0, 1) := by decide +kernel
theorem dX4_pay_1 : decode cX4_pay 1 = .ok (.iload_n 1, 1) := by decide +kernel
theorem dX4_pay_2 : decode cX4_pay 2 = .ok (.invokevirtual 129, 3) := by decide +kernel
theorem dX4_pay_5 : decode cX4_pay 5 = .ok (.astore_n 3, 1) := by decide +kernel
theorem dX4_pay_6 : decode cX4_pay 6 = .ok (.iload_n 2, 1) := by decide +kernel
theorem dX4_pay_7 : decode cX4_pay 7 = .ok (.iconst 1, 1) := by decide +kernel
theorem dX4_pay_8 : decode cX4_pay 8 = .ok (.sipush 9999, 3) := by decide +kernel
theorem dX4_pay_11 : decode cX4_pay 11 = .ok (.invokestatic 86, 3) := by decide +kernel
theorem dX4_pay_14 : decode cX4_pay 14 = .ok (.aload_n 3, 1) := by decide +kernel
theorem dX4_pay_15 : decode cX4_pay 15 = .ok (.getfield 133, 3) := by decide +kernel
theorem dX4_pay_18 : decode cX4_pay 18 = .ok (.iconst 1, 1) := by decide +kernel
theorem dX4_pay_19 : decode cX4_pay 19 = .ok (.if_icmp .eq 20, 3) := by decide +kernel
theorem dX4_pay_22 : decode cX4_pay 22 = .ok (.aload_n 3, 1) := by decide +kernel
theorem dX4_pay_23 : decode cX4_pay 23 = .ok (.getfield 133, 3) := by decide +kernel
theorem dX4_pay_26 : decode cX4_pay 26 = .ok (.bipush 6, 2) := by decide +kernel
theorem dX4_pay_28 : decode cX4_pay 28 = .ok (.if_icmp .eq 11, 3) := by decide +kernel
theorem dX4_pay_31 : decode cX4_pay 31 = .ok (.iload_n 2, 1) := by decide +kernel
theorem dX4_pay_32 : decode cX4_pay 32 = .ok (.aload_n 3, 1) := by decide +kernel
theorem dX4_pay_33 : decode cX4_pay 33 = .ok (.getfield 138, 3) := by decide +kernel
theorem dX4_pay_36 : decode cX4_pay 36 = .ok (.if_icmp .le 13, 3) := by decide +kernel
theorem dX4_pay_39 : decode cX4_pay 39 = .ok (.new 69, 3) := by decide +kernel
theorem dX4_pay_42 : decode cX4_pay 42 = .ok (.dup, 1) := by decide +kernel
theorem dX4_pay_43 : decode cX4_pay 43 = .ok (.ldc 148, 2) := by decide +kernel
theorem dX4_pay_45 : decode cX4_pay 45 = .ok (.invokespecial 73, 3) := by decide +kernel
theorem dX4_pay_48 : decode cX4_pay 48 = .ok (.athrow, 1) := by decide +kernel
theorem dX4_pay_49 : decode cX4_pay 49 = .ok (.aload_n 0, 1) := by decide +kernel
theorem dX4_pay_50 : decode cX4_pay 50 = .ok (.aload_n 3, 1) := by decide +kernel
theorem dX4_pay_51 : decode cX4_pay 51 = .ok (.iload_n 2, 1) := by decide +kernel
theorem dX4_pay_52 : decode cX4_pay 52 = .ok (.invokevirtual 141, 3) := by decide +kernel
theorem dX4_pay_55 : decode cX4_pay 55 = .ok (.aload_n 3, 1) := by decide +kernel
theorem dX4_pay_56 : decode cX4_pay 56 = .ok (.getfield 138, 3) := by decide +kernel
theorem dX4_pay_59 : decode cX4_pay 59 = .ok (.ireturn, 1) := by decide +kernel
theorem dX4_promise_0 : decode cX4_promise 0 = .ok (.aload_n 0, 1) := by decide +kernel
theorem dX4_promise_1 : decode cX4_promise 1 = .ok (.iload_n 1, 1) := by decide +kernel
theorem dX4_promise_2 : decode cX4_promise 2 = .ok (.invokevirtual 129, 3) := by decide +kernel
theorem dX4_promise_5 : decode cX4_promise 5 = .ok (.astore_n 3, 1) := by decide +kernel
theorem dX4_promise_6 : decode cX4_promise 6 = .ok (.iload_n 2, 1) := by decide +kernel
theorem dX4_promise_7 : decode cX4_promise 7 = .ok (.iconst 1, 1) := by decide +kernel
theorem dX4_promise_8 : decode cX4_promise 8 = .ok (.bipush 30, 2) := by decide +kernel
theorem dX4_promise_10 : decode cX4_promise 10 = .ok (.invokestatic 86, 3) := by decide +kernel
theorem dX4_promise_13 : decode cX4_promise 13 = .ok (.aload_n 3, 1) := by decide +kernel
theorem dX4_promise_14 : decode cX4_promise 14 = .ok (.getfield 133, 3) := by decide +kernel
theorem dX4_promise_17 : decode cX4_promise 17 = .ok (.ifCond .eq 19, 3) := by decide +kernel
theorem dX4_promise_20 : decode cX4_promise 20 = .ok (.aload_n 3, 1) := by decide +kernel
theorem dX4_promise_21 : decode cX4_promise 21 = .ok (.getfield 133, 3) := by decide +kernel
theorem dX4_promise_24 : decode cX4_promise 24 = .ok (.iconst 2, 1) := by decide +kernel
theorem dX4_promise_25 : decode cX4_promise 25 = .ok (.if_icmp .eq 11, 3) := by decide +kernel
theorem dX4_promise_28 : decode cX4_promise 28 = .ok (.aload_n 3, 1) := by decide +kernel
theorem dX4_promise_29 : decode cX4_promise 29 = .ok (.getfield 133, 3) := by decide +kernel
theorem dX4_promise_32 : decode cX4_promise 32 = .ok (.iconst 3, 1) := by decide +kernel
theorem dX4_promise_33 : decode cX4_promise 33 = .ok (.if_icmp .ne 7, 3) := by decide +kernel
theorem dX4_promise_36 : decode cX4_promise 36 = .ok (.iconst 1, 1) := by decide +kernel
theorem dX4_promise_37 : decode cX4_promise 37 = .ok (.goto 4, 3) := by decide +kernel
theorem dX4_promise_40 : decode cX4_promise 40 = .ok (.iconst 0, 1) := by decide +kernel
theorem dX4_promise_41 : decode cX4_promise 41 = .ok (.istore 4, 2) := by decide +kernel
theorem dX4_promise_43 : decode cX4_promise 43 = .ok (.iload 4, 2) := by decide +kernel
theorem dX4_promise_45 : decode cX4_promise 45 = .ok (.ifCond .eq 11, 3) := by decide +kernel
theorem dX4_promise_48 : decode cX4_promise 48 = .ok (.aload_n 3, 1) := by decide +kernel
theorem dX4_promise_49 : decode cX4_promise 49 = .ok (.getfield 150, 3) := by decide +kernel
theorem dX4_promise_52 : decode cX4_promise 52 = .ok (.iconst 2, 1) := by decide +kernel
theorem dX4_promise_53 : decode cX4_promise 53 = .ok (.if_icmp .lt 13, 3) := by decide +kernel
theorem dX4_promise_56 : decode cX4_promise 56 = .ok (.new 69, 3) := by decide +kernel
theorem dX4_promise_59 : decode cX4_promise 59 = .ok (.dup, 1) := by decide +kernel
theorem dX4_promise_60 : decode cX4_promise 60 = .ok (.ldc 153, 2) := by decide +kernel
theorem dX4_promise_62 : decode cX4_promise 62 = .ok (.invokespecial 73, 3) := by decide +kernel
theorem dX4_promise_65 : decode cX4_promise 65 = .ok (.athrow, 1) := by decide +kernel
theorem dX4_promise_66 : decode cX4_promise 66 = .ok (.aload_n 3, 1) := by decide +kernel
theorem dX4_promise_67 : decode cX4_promise 67 = .ok (.dup, 1) := by decide +kernel
theorem dX4_promise_68 : decode cX4_promise 68 = .ok (.getfield 150, 3) := by decide +kernel
theorem dX4_promise_71 : decode cX4_promise 71 = .ok (.iconst 1, 1) := by decide +kernel
theorem dX4_promise_72 : decode cX4_promise 72 = .ok (.iadd, 1) := by decide +kernel
theorem dX4_promise_73 : decode cX4_promise 73 = .ok (.putfield 150, 3) := by decide +kernel
theorem dX4_promise_76 : decode cX4_promise 76 = .ok (.aload_n 3, 1) := by decide +kernel
theorem dX4_promise_77 : decode cX4_promise 77 = .ok (.aload_n 3, 1) := by decide +kernel
theorem dX4_promise_78 : decode cX4_promise 78 = .ok (.getfield 133, 3) := by decide +kernel
theorem dX4_promise_81 : decode cX4_promise 81 = .ok (.putfield 155, 3) := by decide +kernel
theorem dX4_promise_84 : decode cX4_promise 84 = .ok (.aload_n 3, 1) := by decide +kernel
theorem dX4_promise_85 : decode cX4_promise 85 = .ok (.aload_n 3, 1) := by decide +kernel
theorem dX4_promise_86 : decode cX4_promise 86 = .ok (.getfield 158, 3) := by decide +kernel
theorem dX4_promise_89 : decode cX4_promise 89 = .ok (.aload_n 0, 1) := by decide +kernel
theorem dX4_promise_90 : decode cX4_promise 90 = .ok (.getfield 83, 3) := by decide +kernel
theorem dX4_promise_93 : decode cX4_promise 93 = .ok (.isub, 1) := by decide +kernel
theorem dX4_promise_94 : decode cX4_promise 94 = .ok (.putfield 161, 3) := by decide +kernel
theorem dX4_promise_97 : decode cX4_promise 97 = .ok (.aload_n 0, 1) := by decide +kernel
theorem dX4_promise_98 : decode cX4_promise 98 = .ok (.aload_n 3, 1) := by decide +kernel
theorem dX4_promise_99 : decode cX4_promise 99 = .ok (.iconst 4, 1) := by decide +kernel
theorem dX4_promise_100 : decode cX4_promise 100 = .ok (.aload_n 0, 1) := by decide +kernel
theorem dX4_promise_101 : decode cX4_promise 101 = .ok (.getfield 83, 3) := by decide +kernel
theorem dX4_promise_104 : decode cX4_promise 104 = .ok (.iload_n 2, 1) := by decide +kernel
theorem dX4_promise_105 : decode cX4_promise 105 = .ok (.iadd, 1) := by decide +kernel
theorem dX4_promise_106 : decode cX4_promise 106 = .ok (.invokevirtual 125, 3) := by decide +kernel
theorem dX4_promise_109 : decode cX4_promise 109 = .ok (.aload_n 3, 1) := by decide +kernel
theorem dX4_promise_110 : decode cX4_promise 110 = .ok (.getfield 158, 3) := by decide +kernel
theorem dX4_promise_113 : decode cX4_promise 113 = .ok (.ireturn, 1) := by decide +kernel
theorem dX4_pass_0 : decode cX4_pass 0 = .ok (.iload_n 1, 1) := by decide +kernel
theorem dX4_pass_1 : decode cX4_pass 1 = .ok (.iconst 1, 1) := by decide +kernel
theorem dX4_pass_2 : decode cX4_pass 2 = .ok (.bipush 60, 2) := by decide +kernel
theorem dX4_pass_4 : decode cX4_pass 4 = .ok (.invokestatic 86, 3) := by decide +kernel
theorem dX4_pass_7 : decode cX4_pass 7 = .ok (.iconst 0, 1) := by decide +kernel
theorem dX4_pass_8 : decode cX4_pass 8 = .ok (.istore_n 2, 1) := by decide +kernel
theorem dX4_pass_9 : decode cX4_pass 9 = .ok (.iconst 0, 1) := by decide +kernel
theorem dX4_pass_10 : decode cX4_pass 10 = .ok (.istore_n 3, 1) := by decide +kernel
theorem dX4_pass_11 : decode cX4_pass 11 = .ok (.iload_n 3, 1) := by decide +kernel
theorem dX4_pass_12 : decode cX4_pass 12 = .ok (.iload_n 1, 1) := by decide +kernel
theorem dX4_pass_13 : decode cX4_pass 13 = .ok (.if_icmp .ge 30, 3) := by decide +kernel
theorem dX4_pass_16 : decode cX4_pass 16 = .ok (.aload_n 0, 1) := by decide +kernel
theorem dX4_pass_17 : decode cX4_pass 17 = .ok (.invokevirtual 164, 3) := by decide +kernel
theorem dX4_pass_20 : decode cX4_pass 20 = .ok (.aload_n 0, 1) := by decide +kernel
theorem dX4_pass_21 : decode cX4_pass 21 = .ok (.dup, 1) := by decide +kernel
theorem dX4_pass_22 : decode cX4_pass 22 = .ok (.getfield 83, 3) := by decide +kernel
theorem dX4_pass_25 : decode cX4_pass 25 = .ok (.iconst 1, 1) := by decide +kernel
theorem dX4_pass_26 : decode cX4_pass 26 = .ok (.iadd, 1) := by decide +kernel
theorem dX4_pass_27 : decode cX4_pass 27 = .ok (.putfield 83, 3) := by decide +kernel
theorem dX4_pass_30 : decode cX4_pass 30 = .ok (.iload_n 2, 1) := by decide +kernel
theorem dX4_pass_31 : decode cX4_pass 31 = .ok (.aload_n 0, 1) := by decide +kernel
theorem dX4_pass_32 : decode cX4_pass 32 = .ok (.invokevirtual 167, 3) := by decide +kernel
theorem dX4_pass_35 : decode cX4_pass 35 = .ok (.iadd, 1) := by decide +kernel
theorem dX4_pass_36 : decode cX4_pass 36 = .ok (.istore_n 2, 1) := by decide +kernel
theorem dX4_pass_37 : decode cX4_pass 37 = .ok (.iinc 3 1, 3) := by decide +kernel
theorem dX4_pass_40 : decode cX4_pass 40 = .ok (.goto (-29), 3) := by decide +kernel
theorem dX4_pass_43 : decode cX4_pass 43 = .ok (.iload_n 2, 1) := by decide +kernel
theorem dX4_pass_44 : decode cX4_pass 44 = .ok (.ireturn, 1) := by decide +kernel
theorem dX4_today_0 : decode cX4_today 0 = .ok (.aload_n 0, 1) := by decide +kernel
theorem dX4_today_1 : decode cX4_today 1 = .ok (.getfield 83, 3) := by decide +kernel
theorem dX4_today_4 : decode cX4_today 4 = .ok (.ireturn, 1) := by decide +kernel
theorem dX4_isCharging_0 : decode cX4_isCharging 0 = .ok (.iload_n 1, 1) := by decide +kernel
theorem dX4_isCharging_1 : decode cX4_isCharging 1 = .ok (.iconst 0, 1) := by decide +kernel
theorem dX4_isCharging_2 : decode cX4_isCharging 2 = .ok (.ldc 171, 2) := by decide +kernel
theorem dX4_isCharging_4 : decode cX4_isCharging 4 = .ok (.invokestatic 86, 3) := by decide +kernel
theorem dX4_isCharging_7 : decode cX4_isCharging 7 = .ok (.aload_n 0, 1) := by decide +kernel
theorem dX4_isCharging_8 : decode cX4_isCharging 8 = .ok (.getfield 10, 3) := by decide +kernel
theorem dX4_isCharging_11 : decode cX4_isCharging 11 = .ok (.iload_n 1, 1) := by decide +kernel
theorem dX4_isCharging_12 : decode cX4_isCharging 12 = .ok (.invokevirtual 172, 3) := by decide +kernel
theorem dX4_isCharging_15 : decode cX4_isCharging 15 = .ok (.ireturn, 1) := by decide +kernel
theorem dX4_bills_0 : decode cX4_bills 0 = .ok (.aload_n 0, 1) := by decide +kernel
theorem dX4_bills_1 : decode cX4_bills 1 = .ok (.getfield 112, 3) := by decide +kernel
theorem dX4_bills_4 : decode cX4_bills 4 = .ok (.ireturn, 1) := by decide +kernel
theorem dX4_stateOf_0 : decode cX4_stateOf 0 = .ok (.aload_n 0, 1) := by decide +kernel
theorem dX4_stateOf_1 : decode cX4_stateOf 1 = .ok (.iload_n 1, 1) := by decide +kernel
theorem dX4_stateOf_2 : decode cX4_stateOf 2 = .ok (.invokevirtual 129, 3) := by decide +kernel
theorem dX4_stateOf_5 : decode cX4_stateOf 5 = .ok (.getfield 133, 3) := by decide +kernel
theorem dX4_stateOf_8 : decode cX4_stateOf 8 = .ok (.ireturn, 1) := by decide +kernel
theorem dX4_left_0 : decode cX4_left 0 = .ok (.aload_n 0, 1) := by decide +kernel
theorem dX4_left_1 : decode cX4_left 1 = .ok (.iload_n 1, 1) := by decide +kernel
theorem dX4_left_2 : decode cX4_left 2 = .ok (.invokevirtual 129, 3) := by decide +kernel
theorem dX4_left_5 : decode cX4_left 5 = .ok (.getfield 138, 3) := by decide +kernel
theorem dX4_left_8 : decode cX4_left 8 = .ok (.ireturn, 1) := by decide +kernel
theorem dX4_tries_0 : decode cX4_tries 0 = .ok (.aload_n 0, 1) := by decide +kernel
theorem dX4_tries_1 : decode cX4_tries 1 = .ok (.iload_n 1, 1) := by decide +kernel
theorem dX4_tries_2 : decode cX4_tries 2 = .ok (.invokevirtual 129, 3) := by decide +kernel
theorem dX4_tries_5 : decode cX4_tries 5 = .ok (.getfield 175, 3) := by decide +kernel
theorem dX4_tries_8 : decode cX4_tries 8 = .ok (.ireturn, 1) := by decide +kernel
theorem dX4_failures_0 : decode cX4_failures 0 = .ok (.aload_n 0, 1) := by decide +kernel
theorem dX4_failures_1 : decode cX4_failures 1 = .ok (.iload_n 1, 1) := by decide +kernel
theorem dX4_failures_2 : decode cX4_failures 2 = .ok (.invokevirtual 129, 3) := by decide +kernel
theorem dX4_failures_5 : decode cX4_failures 5 = .ok (.astore_n 3, 1) := by decide +kernel
theorem dX4_failures_6 : decode cX4_failures 6 = .ok (.aload_n 3, 1) := by decide +kernel
theorem dX4_failures_7 : decode cX4_failures 7 = .ok (.getfield 178, 3) := by decide +kernel
theorem dX4_failures_10 : decode cX4_failures 10 = .ok (.iload_n 2, 1) := by decide +kernel
theorem dX4_failures_11 : decode cX4_failures 11 = .ok (.invokestatic 98, 3) := by decide +kernel
theorem dX4_failures_14 : decode cX4_failures 14 = .ok (.iaload, 1) := by decide +kernel
theorem dX4_failures_15 : decode cX4_failures 15 = .ok (.ireturn, 1) := by decide +kernel
theorem dX4_waitsFor_0 : decode cX4_waitsFor 0 = .ok (.aload_n 0, 1) := by decide +kernel
theorem dX4_waitsFor_1 : decode cX4_waitsFor 1 = .ok (.iload_n 1, 1) := by decide +kernel
theorem dX4_waitsFor_2 : decode cX4_waitsFor 2 = .ok (.invokevirtual 129, 3) := by decide +kernel
theorem dX4_waitsFor_5 : decode cX4_waitsFor 5 = .ok (.getfield 158, 3) := by decide +kernel
theorem dX4_waitsFor_8 : decode cX4_waitsFor 8 = .ok (.ireturn, 1) := by decide +kernel
theorem dX4_broken_0 : decode cX4_broken 0 = .ok (.aload_n 0, 1) := by decide +kernel
theorem dX4_broken_1 : decode cX4_broken 1 = .ok (.iload_n 1, 1) := by decide +kernel
theorem dX4_broken_2 : decode cX4_broken 2 = .ok (.invokevirtual 129, 3) := by decide +kernel
theorem dX4_broken_5 : decode cX4_broken 5 = .ok (.getfield 181, 3) := by decide +kernel
theorem dX4_broken_8 : decode cX4_broken 8 = .ok (.ireturn, 1) := by decide +kernel
theorem dX4_service_0 : decode cX4_service 0 = .ok (.iload_n 1, 1) := by decide +kernel
theorem dX4_service_1 : decode cX4_service 1 = .ok (.invokestatic 109, 3) := by decide +kernel
theorem dX4_service_4 : decode cX4_service 4 = .ok (.iconst 2, 1) := by decide +kernel
theorem dX4_service_5 : decode cX4_service 5 = .ok (.istore_n 2, 1) := by decide +kernel
theorem dX4_service_6 : decode cX4_service 6 = .ok (.iconst 0, 1) := by decide +kernel
theorem dX4_service_7 : decode cX4_service 7 = .ok (.istore_n 3, 1) := by decide +kernel
theorem dX4_service_8 : decode cX4_service 8 = .ok (.iload_n 3, 1) := by decide +kernel
theorem dX4_service_9 : decode cX4_service 9 = .ok (.aload_n 0, 1) := by decide +kernel
theorem dX4_service_10 : decode cX4_service 10 = .ok (.getfield 40, 3) := by decide +kernel
theorem dX4_service_13 : decode cX4_service 13 = .ok (.arraylength, 1) := by decide +kernel
theorem dX4_service_14 : decode cX4_service 14 = .ok (.if_icmp .ge 41, 3) := by decide +kernel
theorem dX4_service_17 : decode cX4_service 17 = .ok (.aload_n 0, 1) := by decide +kernel
theorem dX4_service_18 : decode cX4_service 18 = .ok (.getfield 40, 3) := by decide +kernel
theorem dX4_service_21 : decode cX4_service 21 = .ok (.iload_n 3, 1) := by decide +kernel
theorem dX4_service_22 : decode cX4_service 22 = .ok (.aaload, 1) := by decide +kernel
theorem dX4_service_23 : decode cX4_service 23 = .ok (.astore 4, 2) := by decide +kernel
theorem dX4_service_25 : decode cX4_service 25 = .ok (.aload 4, 2) := by decide +kernel
theorem dX4_service_27 : decode cX4_service 27 = .ok (.ifnull 22, 3) := by decide +kernel
theorem dX4_service_30 : decode cX4_service 30 = .ok (.aload 4, 2) := by decide +kernel
theorem dX4_service_32 : decode cX4_service 32 = .ok (.getfield 184, 3) := by decide +kernel
theorem dX4_service_35 : decode cX4_service 35 = .ok (.iload_n 1, 1) := by decide +kernel
theorem dX4_service_36 : decode cX4_service 36 = .ok (.if_icmp .ne 13, 3) := by decide +kernel
theorem dX4_service_39 : decode cX4_service 39 = .ok (.iload_n 2, 1) := by decide +kernel
theorem dX4_service_40 : decode cX4_service 40 = .ok (.aload 4, 2) := by decide +kernel
theorem dX4_service_42 : decode cX4_service 42 = .ok (.invokestatic 187, 3) := by decide +kernel
theorem dX4_service_45 : decode cX4_service 45 = .ok (.invokestatic 191, 3) := by decide +kernel
theorem dX4_service_48 : decode cX4_service 48 = .ok (.istore_n 2, 1) := by decide +kernel
theorem dX4_service_49 : decode cX4_service 49 = .ok (.iinc 3 1, 3) := by decide +kernel
theorem dX4_service_52 : decode cX4_service 52 = .ok (.goto (-44), 3) := by decide +kernel
theorem dX4_service_55 : decode cX4_service 55 = .ok (.iload_n 2, 1) := by decide +kernel
theorem dX4_service_56 : decode cX4_service 56 = .ok (.ireturn, 1) := by decide +kernel
theorem dX4_billed_0 : decode cX4_billed 0 = .ok (.aload_n 0, 1) := by decide +kernel
theorem dX4_billed_1 : decode cX4_billed 1 = .ok (.getfield 119, 3) := by decide +kernel
theorem dX4_billed_4 : decode cX4_billed 4 = .ok (.ireturn, 1) := by decide +kernel
theorem dX4_paid_0 : decode cX4_paid 0 = .ok (.aload_n 0, 1) := by decide +kernel
theorem dX4_paid_1 : decode cX4_paid 1 = .ok (.getfield 197, 3) := by decide +kernel
theorem dX4_paid_4 : decode cX4_paid 4 = .ok (.ireturn, 1) := by decide +kernel
theorem dX4_writtenOff_0 : decode cX4_writtenOff 0 = .ok (.aload_n 0, 1) := by decide +kernel
theorem dX4_writtenOff_1 : decode cX4_writtenOff 1 = .ok (.getfield 200, 3) := by decide +kernel
theorem dX4_writtenOff_4 : decode cX4_writtenOff 4 = .ok (.ireturn, 1) := by decide +kernel
theorem dX4_broughtBack_0 : decode cX4_broughtBack 0 = .ok (.aload_n 0, 1) := by decide +kernel
theorem dX4_broughtBack_1 : decode cX4_broughtBack 1 = .ok (.getfield 203, 3) := by decide +kernel
theorem dX4_broughtBack_4 : decode cX4_broughtBack 4 = .ok (.ireturn, 1) := by decide +kernel
theorem dX4_leftIn_0 : decode cX4_leftIn 0 = .ok (.iload_n 1, 1) := by decide +kernel
theorem dX4_leftIn_1 : decode cX4_leftIn 1 = .ok (.invokestatic 109, 3) := by decide +kernel
theorem dX4_leftIn_4 : decode cX4_leftIn 4 = .ok (.iload_n 2, 1) := by decide +kernel
theorem dX4_leftIn_5 : decode cX4_leftIn 5 = .ok (.iconst 0, 1) := by decide +kernel
theorem dX4_leftIn_6 : decode cX4_leftIn 6 = .ok (.bipush 6, 2) := by decide +kernel
theorem dX4_leftIn_8 : decode cX4_leftIn 8 = .ok (.invokestatic 86, 3) := by decide +kernel
theorem dX4_leftIn_11 : decode cX4_leftIn 11 = .ok (.iconst 0, 1) := by decide +kernel
theorem dX4_leftIn_12 : decode cX4_leftIn 12 = .ok (.istore_n 3, 1) := by decide +kernel
theorem dX4_leftIn_13 : decode cX4_leftIn 13 = .ok (.iconst 0, 1) := by decide +kernel
theorem dX4_leftIn_14 : decode cX4_leftIn 14 = .ok (.istore 4, 2) := by decide +kernel
theorem dX4_leftIn_16 : decode cX4_leftIn 16 = .ok (.iload 4, 2) := by decide +kernel
theorem dX4_leftIn_18 : decode cX4_leftIn 18 = .ok (.aload_n 0, 1) := by decide +kernel
theorem dX4_leftIn_19 : decode cX4_leftIn 19 = .ok (.getfield 40, 3) := by decide +kernel
theorem dX4_leftIn_22 : decode cX4_leftIn 22 = .ok (.arraylength, 1) := by decide +kernel
theorem dX4_leftIn_23 : decode cX4_leftIn 23 = .ok (.if_icmp .ge 49, 3) := by decide +kernel
theorem dX4_leftIn_26 : decode cX4_leftIn 26 = .ok (.aload_n 0, 1) := by decide +kernel
theorem dX4_leftIn_27 : decode cX4_leftIn 27 = .ok (.getfield 40, 3) := by decide +kernel
theorem dX4_leftIn_30 : decode cX4_leftIn 30 = .ok (.iload 4, 2) := by decide +kernel
theorem dX4_leftIn_32 : decode cX4_leftIn 32 = .ok (.aaload, 1) := by decide +kernel
theorem dX4_leftIn_33 : decode cX4_leftIn 33 = .ok (.astore 5, 2) := by decide +kernel
theorem dX4_leftIn_35 : decode cX4_leftIn 35 = .ok (.aload 5, 2) := by decide +kernel
theorem dX4_leftIn_37 : decode cX4_leftIn 37 = .ok (.ifnull 29, 3) := by decide +kernel
theorem dX4_leftIn_40 : decode cX4_leftIn 40 = .ok (.aload 5, 2) := by decide +kernel
theorem dX4_leftIn_42 : decode cX4_leftIn 42 = .ok (.getfield 184, 3) := by decide +kernel
theorem dX4_leftIn_45 : decode cX4_leftIn 45 = .ok (.iload_n 1, 1) := by decide +kernel
theorem dX4_leftIn_46 : decode cX4_leftIn 46 = .ok (.if_icmp .ne 20, 3) := by decide +kernel
theorem dX4_leftIn_49 : decode cX4_leftIn 49 = .ok (.aload 5, 2) := by decide +kernel
theorem dX4_leftIn_51 : decode cX4_leftIn 51 = .ok (.getfield 133, 3) := by decide +kernel
theorem dX4_leftIn_54 : decode cX4_leftIn 54 = .ok (.iload_n 2, 1) := by decide +kernel
theorem dX4_leftIn_55 : decode cX4_leftIn 55 = .ok (.if_icmp .ne 11, 3) := by decide +kernel
theorem dX4_leftIn_58 : decode cX4_leftIn 58 = .ok (.iload_n 3, 1) := by decide +kernel
theorem dX4_leftIn_59 : decode cX4_leftIn 59 = .ok (.aload 5, 2) := by decide +kernel
theorem dX4_leftIn_61 : decode cX4_leftIn 61 = .ok (.getfield 138, 3) := by decide +kernel
theorem dX4_leftIn_64 : decode cX4_leftIn 64 = .ok (.iadd, 1) := by decide +kernel
theorem dX4_leftIn_65 : decode cX4_leftIn 65 = .ok (.istore_n 3, 1) := by decide +kernel
theorem dX4_leftIn_66 : decode cX4_leftIn 66 = .ok (.iinc 4 1, 3) := by decide +kernel
theorem dX4_leftIn_69 : decode cX4_leftIn 69 = .ok (.goto (-53), 3) := by decide +kernel
theorem dX4_leftIn_72 : decode cX4_leftIn 72 = .ok (.iload_n 3, 1) := by decide +kernel
theorem dX4_leftIn_73 : decode cX4_leftIn 73 = .ok (.ireturn, 1) := by decide +kernel
theorem dX4_events_0 : decode cX4_events 0 = .ok (.aload_n 0, 1) := by decide +kernel
theorem dX4_events_1 : decode cX4_events 1 = .ok (.getfield 47, 3) := by decide +kernel
theorem dX4_events_4 : decode cX4_events 4 = .ok (.getfield 206, 3) := by decide +kernel
theorem dX4_events_7 : decode cX4_events 7 = .ok (.ireturn, 1) := by decide +kernel
theorem dX4_event_0 : decode cX4_event 0 = .ok (.iload_n 1, 1) := by decide +kernel
theorem dX4_event_1 : decode cX4_event 1 = .ok (.ifCond .lt 14, 3) := by decide +kernel
theorem dX4_event_4 : decode cX4_event 4 = .ok (.iload_n 1, 1) := by decide +kernel
theorem dX4_event_5 : decode cX4_event 5 = .ok (.aload_n 0, 1) := by decide +kernel
theorem dX4_event_6 : decode cX4_event 6 = .ok (.getfield 47, 3) := by decide +kernel
theorem dX4_event_9 : decode cX4_event 9 = .ok (.invokevirtual 209, 3) := by decide +kernel
theorem dX4_event_12 : decode cX4_event 12 = .ok (.if_icmp .lt 13, 3) := by decide +kernel
theorem dX4_event_15 : decode cX4_event 15 = .ok (.new 58, 3) := by decide +kernel
theorem dX4_event_18 : decode cX4_event 18 = .ok (.dup, 1) := by decide +kernel
theorem dX4_event_19 : decode cX4_event 19 = .ok (.ldc 212, 2) := by decide +kernel
theorem dX4_event_21 : decode cX4_event 21 = .ok (.invokespecial 62, 3) := by decide +kernel
theorem dX4_event_24 : decode cX4_event 24 = .ok (.athrow, 1) := by decide +kernel
theorem dX4_event_25 : decode cX4_event 25 = .ok (.aload_n 0, 1) := by decide +kernel
theorem dX4_event_26 : decode cX4_event 26 = .ok (.getfield 47, 3) := by decide +kernel
theorem dX4_event_29 : decode cX4_event 29 = .ok (.iload_n 1, 1) := by decide +kernel
theorem dX4_event_30 : decode cX4_event 30 = .ok (.invokevirtual 214, 3) := by decide +kernel
theorem dX4_event_33 : decode cX4_event 33 = .ok (.ireturn, 1) := by decide +kernel
theorem dX4_stateAt_0 : decode cX4_stateAt 0 = .ok (.aload_n 0, 1) := by decide +kernel
theorem dX4_stateAt_1 : decode cX4_stateAt 1 = .ok (.iload_n 1, 1) := by decide +kernel
theorem dX4_stateAt_2 : decode cX4_stateAt 2 = .ok (.invokevirtual 129, 3) := by decide +kernel
theorem dX4_stateAt_5 : decode cX4_stateAt 5 = .ok (.pop, 1) := by decide +kernel
theorem dX4_stateAt_6 : decode cX4_stateAt 6 = .ok (.iload_n 2, 1) := by decide +kernel
theorem dX4_stateAt_7 : decode cX4_stateAt 7 = .ok (.iconst 0, 1) := by decide +kernel
theorem dX4_stateAt_8 : decode cX4_stateAt 8 = .ok (.aload_n 0, 1) := by decide +kernel
theorem dX4_stateAt_9 : decode cX4_stateAt 9 = .ok (.getfield 83, 3) := by decide +kernel
theorem dX4_stateAt_12 : decode cX4_stateAt 12 = .ok (.invokestatic 86, 3) := by decide +kernel
theorem dX4_stateAt_15 : decode cX4_stateAt 15 = .ok (.aload_n 0, 1) := by decide +kernel
theorem dX4_stateAt_16 : decode cX4_stateAt 16 = .ok (.getfield 47, 3) := by decide +kernel
theorem dX4_stateAt_19 : decode cX4_stateAt 19 = .ok (.iload_n 1, 1) := by decide +kernel
theorem dX4_stateAt_20 : decode cX4_stateAt 20 = .ok (.iload_n 2, 1) := by decide +kernel
theorem dX4_stateAt_21 : decode cX4_stateAt 21 = .ok (.invokevirtual 217, 3) := by decide +kernel
theorem dX4_stateAt_24 : decode cX4_stateAt 24 = .ok (.ireturn, 1) := by decide +kernel
theorem dX4_checkRange_0 : decode cX4_checkRange 0 = .ok (.iload_n 0, 1) := by decide +kernel
theorem dX4_checkRange_1 : decode cX4_checkRange 1 = .ok (.iload_n 1, 1) := by decide +kernel
theorem dX4_checkRange_2 : decode cX4_checkRange 2 = .ok (.if_icmp .lt 8, 3) := by decide +kernel
theorem dX4_checkRange_5 : decode cX4_checkRange 5 = .ok (.iload_n 0, 1) := by decide +kernel
theorem dX4_checkRange_6 : decode cX4_checkRange 6 = .ok (.iload_n 2, 1) := by decide +kernel
theorem dX4_checkRange_7 : decode cX4_checkRange 7 = .ok (.if_icmp .le 13, 3) := by decide +kernel
theorem dX4_checkRange_10 : decode cX4_checkRange 10 = .ok (.new 220, 3) := by decide +kernel
theorem dX4_checkRange_13 : decode cX4_checkRange 13 = .ok (.dup, 1) := by decide +kernel
theorem dX4_checkRange_14 : decode cX4_checkRange 14 = .ok (.ldc 222, 2) := by decide +kernel
theorem dX4_checkRange_16 : decode cX4_checkRange 16 = .ok (.invokespecial 224, 3) := by decide +kernel
theorem dX4_checkRange_19 : decode cX4_checkRange 19 = .ok (.athrow, 1) := by decide +kernel
theorem dX4_checkRange_20 : decode cX4_checkRange 20 = .ok (.return_, 1) := by decide +kernel
theorem dX4_checkAccount_0 : decode cX4_checkAccount 0 = .ok (.iload_n 0, 1) := by decide +kernel
theorem dX4_checkAccount_1 : decode cX4_checkAccount 1 = .ok (.ifCond .lt 9, 3) := by decide +kernel
theorem dX4_checkAccount_4 : decode cX4_checkAccount 4 = .ok (.iload_n 0, 1) := by decide +kernel
theorem dX4_checkAccount_5 : decode cX4_checkAccount 5 = .ok (.bipush 8, 2) := by decide +kernel
theorem dX4_checkAccount_7 : decode cX4_checkAccount 7 = .ok (.if_icmp .lt 13, 3) := by decide +kernel
theorem dX4_checkAccount_10 : decode cX4_checkAccount 10 = .ok (.new 58, 3) := by decide +kernel
theorem dX4_checkAccount_13 : decode cX4_checkAccount 13 = .ok (.dup, 1) := by decide +kernel
theorem dX4_checkAccount_14 : decode cX4_checkAccount 14 = .ok (.ldc 225, 2) := by decide +kernel
theorem dX4_checkAccount_16 : decode cX4_checkAccount 16 = .ok (.invokespecial 62, 3) := by decide +kernel
theorem dX4_checkAccount_19 : decode cX4_checkAccount 19 = .ok (.athrow, 1) := by decide +kernel
theorem dX4_checkAccount_20 : decode cX4_checkAccount 20 = .ok (.return_, 1) := by decide +kernel
theorem dX4_indexOfReason_0 : decode cX4_indexOfReason 0 = .ok (.iload_n 0, 1) := by decide +kernel
theorem dX4_indexOfReason_1 : decode cX4_indexOfReason 1 = .ok (.iconst 1, 1) := by decide +kernel
theorem dX4_indexOfReason_2 : decode cX4_indexOfReason 2 = .ok (.if_icmp .lt 8, 3) := by decide +kernel
theorem dX4_indexOfReason_5 : decode cX4_indexOfReason 5 = .ok (.iload_n 0, 1) := by decide +kernel
theorem dX4_indexOfReason_6 : decode cX4_indexOfReason 6 = .ok (.iconst 4, 1) := by decide +kernel
theorem dX4_indexOfReason_7 : decode cX4_indexOfReason 7 = .ok (.if_icmp .le 13, 3) := by decide +kernel
theorem dX4_indexOfReason_10 : decode cX4_indexOfReason 10 = .ok (.new 58, 3) := by decide +kernel
theorem dX4_indexOfReason_13 : decode cX4_indexOfReason 13 = .ok (.dup, 1) := by decide +kernel
theorem dX4_indexOfReason_14 : decode cX4_indexOfReason 14 = .ok (.ldc 227, 2) := by decide +kernel
theorem dX4_indexOfReason_16 : decode cX4_indexOfReason 16 = .ok (.invokespecial 62, 3) := by decide +kernel
theorem dX4_indexOfReason_19 : decode cX4_indexOfReason 19 = .ok (.athrow, 1) := by decide +kernel
theorem dX4_indexOfReason_20 : decode cX4_indexOfReason 20 = .ok (.iload_n 0, 1) := by decide +kernel
theorem dX4_indexOfReason_21 : decode cX4_indexOfReason 21 = .ok (.iconst 1, 1) := by decide +kernel
theorem dX4_indexOfReason_22 : decode cX4_indexOfReason 22 = .ok (.isub, 1) := by decide +kernel
theorem dX4_indexOfReason_23 : decode cX4_indexOfReason 23 = .ok (.ireturn, 1) := by decide +kernel
theorem dX4_findBill_0 : decode cX4_findBill 0 = .ok (.iload_n 1, 1) := by decide +kernel
theorem dX4_findBill_1 : decode cX4_findBill 1 = .ok (.ifCond .lt 21, 3) := by decide +kernel
theorem dX4_findBill_4 : decode cX4_findBill 4 = .ok (.iload_n 1, 1) := by decide +kernel
theorem dX4_findBill_5 : decode cX4_findBill 5 = .ok (.aload_n 0, 1) := by decide +kernel
theorem dX4_findBill_6 : decode cX4_findBill 6 = .ok (.getfield 40, 3) := by decide +kernel
theorem dX4_findBill_9 : decode cX4_findBill 9 = .ok (.arraylength, 1) := by decide +kernel
theorem dX4_findBill_10 : decode cX4_findBill 10 = .ok (.if_icmp .ge 12, 3) := by decide +kernel
theorem dX4_findBill_13 : decode cX4_findBill 13 = .ok (.aload_n 0, 1) := by decide +kernel
theorem dX4_findBill_14 : decode cX4_findBill 14 = .ok (.getfield 40, 3) := by decide +kernel
theorem dX4_findBill_17 : decode cX4_findBill 17 = .ok (.iload_n 1, 1) := by decide +kernel
theorem dX4_findBill_18 : decode cX4_findBill 18 = .ok (.aaload, 1) := by decide +kernel
theorem dX4_findBill_19 : decode cX4_findBill 19 = .ok (.goto 4, 3) := by decide +kernel
theorem dX4_findBill_22 : decode cX4_findBill 22 = .ok (.aconst_null, 1) := by decide +kernel
theorem dX4_findBill_23 : decode cX4_findBill 23 = .ok (.astore_n 2, 1) := by decide +kernel
theorem dX4_findBill_24 : decode cX4_findBill 24 = .ok (.aload_n 2, 1) := by decide +kernel
theorem dX4_findBill_25 : decode cX4_findBill 25 = .ok (.ifnonnull 13, 3) := by decide +kernel
theorem dX4_findBill_28 : decode cX4_findBill 28 = .ok (.new 58, 3) := by decide +kernel
theorem dX4_findBill_31 : decode cX4_findBill 31 = .ok (.dup, 1) := by decide +kernel
theorem dX4_findBill_32 : decode cX4_findBill 32 = .ok (.ldc 229, 2) := by decide +kernel
theorem dX4_findBill_34 : decode cX4_findBill 34 = .ok (.invokespecial 62, 3) := by decide +kernel
theorem dX4_findBill_37 : decode cX4_findBill 37 = .ok (.athrow, 1) := by decide +kernel
theorem dX4_findBill_38 : decode cX4_findBill 38 = .ok (.aload_n 2, 1) := by decide +kernel
theorem dX4_findBill_39 : decode cX4_findBill 39 = .ok (.areturn, 1) := by decide +kernel
theorem dX4_enter_0 : decode cX4_enter 0 = .ok (.aload_n 1, 1) := by decide +kernel
theorem dX4_enter_1 : decode cX4_enter 1 = .ok (.iload_n 2, 1) := by decide +kernel
theorem dX4_enter_2 : decode cX4_enter 2 = .ok (.putfield 133, 3) := by decide +kernel
theorem dX4_enter_5 : decode cX4_enter 5 = .ok (.aload_n 1, 1) := by decide +kernel
theorem dX4_enter_6 : decode cX4_enter 6 = .ok (.iload_n 3, 1) := by decide +kernel
theorem dX4_enter_7 : decode cX4_enter 7 = .ok (.putfield 158, 3) := by decide +kernel
theorem dX4_enter_10 : decode cX4_enter 10 = .ok (.aload_n 0, 1) := by decide +kernel
theorem dX4_enter_11 : decode cX4_enter 11 = .ok (.getfield 47, 3) := by decide +kernel
theorem dX4_enter_14 : decode cX4_enter 14 = .ok (.aload_n 0, 1) := by decide +kernel
theorem dX4_enter_15 : decode cX4_enter 15 = .ok (.getfield 83, 3) := by decide +kernel
theorem dX4_enter_18 : decode cX4_enter 18 = .ok (.aload_n 1, 1) := by decide +kernel
theorem dX4_enter_19 : decode cX4_enter 19 = .ok (.getfield 231, 3) := by decide +kernel
theorem dX4_enter_22 : decode cX4_enter 22 = .ok (.iload_n 2, 1) := by decide +kernel
theorem dX4_enter_23 : decode cX4_enter 23 = .ok (.invokevirtual 234, 3) := by decide +kernel
theorem dX4_enter_26 : decode cX4_enter 26 = .ok (.return_, 1) := by decide +kernel
theorem dX4_takePayment_0 : decode cX4_takePayment 0 = .ok (.aload_n 1, 1) := by decide +kernel
theorem dX4_takePayment_1 : decode cX4_takePayment 1 = .ok (.dup, 1) := by decide +kernel
theorem dX4_takePayment_2 : decode cX4_takePayment 2 = .ok (.getfield 138, 3) := by decide +kernel
theorem dX4_takePayment_5 : decode cX4_takePayment 5 = .ok (.iload_n 2, 1) := by decide +kernel
theorem dX4_takePayment_6 : decode cX4_takePayment 6 = .ok (.isub, 1) := by decide +kernel
theorem dX4_takePayment_7 : decode cX4_takePayment 7 = .ok (.putfield 138, 3) := by decide +kernel
theorem dX4_takePayment_10 : decode cX4_takePayment 10 = .ok (.aload_n 0, 1) := by decide +kernel
theorem dX4_takePayment_11 : decode cX4_takePayment 11 = .ok (.dup, 1) := by decide +kernel
theorem dX4_takePayment_12 : decode cX4_takePayment 12 = .ok (.getfield 197, 3) := by decide +kernel
theorem dX4_takePayment_15 : decode cX4_takePayment 15 = .ok (.iload_n 2, 1) := by decide +kernel
theorem dX4_takePayment_16 : decode cX4_takePayment 16 = .ok (.iadd, 1) := by decide +kernel
theorem dX4_takePayment_17 : decode cX4_takePayment 17 = .ok (.putfield 197, 3) := by decide +kernel
theorem dX4_takePayment_20 : decode cX4_takePayment 20 = .ok (.aload_n 1, 1) := by decide +kernel
theorem dX4_takePayment_21 : decode cX4_takePayment 21 = .ok (.getfield 133, 3) := by decide +kernel
theorem dX4_takePayment_24 : decode cX4_takePayment 24 = .ok (.iconst 5, 1) := by decide +kernel
theorem dX4_takePayment_25 : decode cX4_takePayment 25 = .ok (.if_icmp .ne 13, 3) := by decide +kernel
theorem dX4_takePayment_28 : decode cX4_takePayment 28 = .ok (.aload_n 0, 1) := by decide +kernel
theorem dX4_takePayment_29 : decode cX4_takePayment 29 = .ok (.dup, 1) := by decide +kernel
theorem dX4_takePayment_30 : decode cX4_takePayment 30 = .ok (.getfield 203, 3) := by decide +kernel
theorem dX4_takePayment_33 : decode cX4_takePayment 33 = .ok (.iload_n 2, 1) := by decide +kernel
theorem dX4_takePayment_34 : decode cX4_takePayment 34 = .ok (.iadd, 1) := by decide +kernel
theorem dX4_takePayment_35 : decode cX4_takePayment 35 = .ok (.putfield 203, 3) := by decide +kernel
theorem dX4_takePayment_38 : decode cX4_takePayment 38 = .ok (.aload_n 1, 1) := by decide +kernel
theorem dX4_takePayment_39 : decode cX4_takePayment 39 = .ok (.getfield 138, 3) := by decide +kernel
theorem dX4_takePayment_42 : decode cX4_takePayment 42 = .ok (.ifCond .ne 11, 3) := by decide +kernel
theorem dX4_takePayment_45 : decode cX4_takePayment 45 = .ok (.aload_n 0, 1) := by decide +kernel
theorem dX4_takePayment_46 : decode cX4_takePayment 46 = .ok (.aload_n 1, 1) := by decide +kernel
theorem dX4_takePayment_47 : decode cX4_takePayment 47 = .ok (.bipush 6, 2) := by decide +kernel
theorem dX4_takePayment_49 : decode cX4_takePayment 49 = .ok (.iconst (-1), 1) := by decide +kernel
theorem dX4_takePayment_50 : decode cX4_takePayment 50 = .ok (.invokevirtual 125, 3) := by decide +kernel
theorem dX4_takePayment_53 : decode cX4_takePayment 53 = .ok (.return_, 1) := by decide +kernel
theorem dX4_fail_0 : decode cX4_fail 0 = .ok (.iload_n 2, 1) := by decide +kernel
theorem dX4_fail_1 : decode cX4_fail 1 = .ok (.invokestatic 98, 3) := by decide +kernel
theorem dX4_fail_4 : decode cX4_fail 4 = .ok (.istore_n 3, 1) := by decide +kernel
theorem dX4_fail_5 : decode cX4_fail 5 = .ok (.aload_n 1, 1) := by decide +kernel
theorem dX4_fail_6 : decode cX4_fail 6 = .ok (.getfield 178, 3) := by decide +kernel
theorem dX4_fail_9 : decode cX4_fail 9 = .ok (.iload_n 3, 1) := by decide +kernel
theorem dX4_fail_10 : decode cX4_fail 10 = .ok (.dup2, 1) := by decide +kernel
theorem dX4_fail_11 : decode cX4_fail 11 = .ok (.iaload, 1) := by decide +kernel
theorem dX4_fail_12 : decode cX4_fail 12 = .ok (.iconst 1, 1) := by decide +kernel
theorem dX4_fail_13 : decode cX4_fail 13 = .ok (.iadd, 1) := by decide +kernel
theorem dX4_fail_14 : decode cX4_fail 14 = .ok (.iastore, 1) := by decide +kernel
theorem dX4_fail_15 : decode cX4_fail 15 = .ok (.aload_n 0, 1) := by decide +kernel
theorem dX4_fail_16 : decode cX4_fail 16 = .ok (.getfield 34, 3) := by decide +kernel
theorem dX4_fail_19 : decode cX4_fail 19 = .ok (.iload_n 3, 1) := by decide +kernel
theorem dX4_fail_20 : decode cX4_fail 20 = .ok (.aaload, 1) := by decide +kernel
theorem dX4_fail_21 : decode cX4_fail 21 = .ok (.aload_n 1, 1) := by decide +kernel
theorem dX4_fail_22 : decode cX4_fail 22 = .ok (.getfield 178, 3) := by decide +kernel
theorem dX4_fail_25 : decode cX4_fail 25 = .ok (.iload_n 3, 1) := by decide +kernel
theorem dX4_fail_26 : decode cX4_fail 26 = .ok (.iaload, 1) := by decide +kernel
theorem dX4_fail_27 : decode cX4_fail 27 = .ok (.invokevirtual 237, 3) := by decide +kernel
theorem dX4_fail_30 : decode cX4_fail 30 = .ok (.istore 4, 2) := by decide +kernel
theorem dX4_fail_32 : decode cX4_fail 32 = .ok (.iload 4, 2) := by decide +kernel
theorem dX4_fail_34 : decode cX4_fail 34 = .ok (.ifCond .ne 21, 3) := by decide +kernel
theorem dX4_fail_37 : decode cX4_fail 37 = .ok (.aload_n 0, 1) := by decide +kernel
theorem dX4_fail_38 : decode cX4_fail 38 = .ok (.aload_n 1, 1) := by decide +kernel
theorem dX4_fail_39 : decode cX4_fail 39 = .ok (.iconst 2, 1) := by decide +kernel
theorem dX4_fail_40 : decode cX4_fail 40 = .ok (.aload_n 0, 1) := by decide +kernel
theorem dX4_fail_41 : decode cX4_fail 41 = .ok (.getfield 83, 3) := by decide +kernel
theorem dX4_fail_44 : decode cX4_fail 44 = .ok (.aload_n 0, 1) := by decide +kernel
theorem dX4_fail_45 : decode cX4_fail 45 = .ok (.getfield 51, 3) := by decide +kernel
theorem dX4_fail_48 : decode cX4_fail 48 = .ok (.iadd, 1) := by decide +kernel
theorem dX4_fail_49 : decode cX4_fail 49 = .ok (.invokevirtual 125, 3) := by decide +kernel
theorem dX4_fail_52 : decode cX4_fail 52 = .ok (.goto 23, 3) := by decide +kernel
theorem dX4_fail_55 : decode cX4_fail 55 = .ok (.aload_n 0, 1) := by decide +kernel
theorem dX4_fail_56 : decode cX4_fail 56 = .ok (.aload_n 1, 1) := by decide +kernel
theorem dX4_fail_57 : decode cX4_fail 57 = .ok (.iconst 0, 1) := by decide +kernel
theorem dX4_fail_58 : decode cX4_fail 58 = .ok (.aload_n 0, 1) := by decide +kernel
theorem dX4_fail_59 : decode cX4_fail 59 = .ok (.getfield 10, 3) := by decide +kernel
theorem dX4_fail_62 : decode cX4_fail 62 = .ok (.aload_n 0, 1) := by decide +kernel
theorem dX4_fail_63 : decode cX4_fail 63 = .ok (.getfield 83, 3) := by decide +kernel
theorem dX4_fail_66 : decode cX4_fail 66 = .ok (.iload 4, 2) := by decide +kernel
theorem dX4_fail_68 : decode cX4_fail 68 = .ok (.iadd, 1) := by decide +kernel
theorem dX4_fail_69 : decode cX4_fail 69 = .ok (.invokevirtual 122, 3) := by decide +kernel
theorem dX4_fail_72 : decode cX4_fail 72 = .ok (.invokevirtual 125, 3) := by decide +kernel
theorem dX4_fail_75 : decode cX4_fail 75 = .ok (.return_, 1) := by decide +kernel
theorem dX4_failUnansweredTries_0 : decode cX4_failUnansweredTries 0 = .ok (.iconst 0, 1) := by decide +kernel
theorem dX4_failUnansweredTries_1 : decode cX4_failUnansweredTries 1 = .ok (.istore_n 1, 1) := by decide +kernel
theorem dX4_failUnansweredTries_2 : decode cX4_failUnansweredTries 2 = .ok (.iload_n 1, 1) := by decide +kernel
theorem dX4_failUnansweredTries_3 : decode cX4_failUnansweredTries 3 = .ok (.aload_n 0, 1) := by decide +kernel
theorem dX4_failUnansweredTries_4 : decode cX4_failUnansweredTries 4 = .ok (.getfield 40, 3) := by decide +kernel
theorem dX4_failUnansweredTries_7 : decode cX4_failUnansweredTries 7 = .ok (.arraylength, 1) := by decide +kernel
theorem dX4_failUnansweredTries_8 : decode cX4_failUnansweredTries 8 = .ok (.if_icmp .ge 34, 3) := by decide +kernel
theorem dX4_failUnansweredTries_11 : decode cX4_failUnansweredTries 11 = .ok (.aload_n 0, 1) := by decide +kernel
theorem dX4_failUnansweredTries_12 : decode cX4_failUnansweredTries 12 = .ok (.getfield 40, 3) := by decide +kernel
theorem dX4_failUnansweredTries_15 : decode cX4_failUnansweredTries 15 = .ok (.iload_n 1, 1) := by decide +kernel
theorem dX4_failUnansweredTries_16 : decode cX4_failUnansweredTries 16 = .ok (.aaload, 1) := by decide +kernel
theorem dX4_failUnansweredTries_17 : decode cX4_failUnansweredTries 17 = .ok (.astore_n 2, 1) := by decide +kernel
theorem dX4_failUnansweredTries_18 : decode cX4_failUnansweredTries 18 = .ok (.aload_n 2, 1) := by decide +kernel
theorem dX4_failUnansweredTries_19 : decode cX4_failUnansweredTries 19 = .ok (.ifnull 17, 3) := by decide +kernel
theorem dX4_failUnansweredTries_22 : decode cX4_failUnansweredTries 22 = .ok (.aload_n 2, 1) := by decide +kernel
theorem dX4_failUnansweredTries_23 : decode cX4_failUnansweredTries 23 = .ok (.getfield 133, 3) := by decide +kernel
theorem dX4_failUnansweredTries_26 : decode cX4_failUnansweredTries 26 = .ok (.iconst 1, 1) := by decide +kernel
theorem dX4_failUnansweredTries_27 : decode cX4_failUnansweredTries 27 = .ok (.if_icmp .ne 9, 3) := by decide +kernel
theorem dX4_failUnansweredTries_30 : decode cX4_failUnansweredTries 30 = .ok (.aload_n 0, 1) := by decide +kernel
theorem dX4_failUnansweredTries_31 : decode cX4_failUnansweredTries 31 = .ok (.aload_n 2, 1) := by decide +kernel
theorem dX4_failUnansweredTries_32 : decode cX4_failUnansweredTries 32 = .ok (.iconst 4, 1) := by decide +kernel
theorem dX4_failUnansweredTries_33 : decode cX4_failUnansweredTries 33 = .ok (.invokevirtual 145, 3) := by decide +kernel
theorem dX4_failUnansweredTries_36 : decode cX4_failUnansweredTries 36 = .ok (.iinc 1 1, 3) := by decide +kernel
theorem dX4_failUnansweredTries_39 : decode cX4_failUnansweredTries 39 = .ok (.goto (-37), 3) := by decide +kernel
theorem dX4_failUnansweredTries_42 : decode cX4_failUnansweredTries 42 = .ok (.return_, 1) := by decide +kernel
theorem dX4_lookAtBills_0 : decode cX4_lookAtBills 0 = .ok (.iconst 0, 1) := by decide +kernel
theorem dX4_lookAtBills_1 : decode cX4_lookAtBills 1 = .ok (.istore_n 1, 1) := by decide +kernel
theorem dX4_lookAtBills_2 : decode cX4_lookAtBills 2 = .ok (.iconst 0, 1) := by decide +kernel
theorem dX4_lookAtBills_3 : decode cX4_lookAtBills 3 = .ok (.istore_n 2, 1) := by decide +kernel
theorem dX4_lookAtBills_4 : decode cX4_lookAtBills 4 = .ok (.iload_n 2, 1) := by decide +kernel
theorem dX4_lookAtBills_5 : decode cX4_lookAtBills 5 = .ok (.aload_n 0, 1) := by decide +kernel
theorem dX4_lookAtBills_6 : decode cX4_lookAtBills 6 = .ok (.getfield 40, 3) := by decide +kernel
theorem dX4_lookAtBills_9 : decode cX4_lookAtBills 9 = .ok (.arraylength, 1) := by decide +kernel
theorem dX4_lookAtBills_10 : decode cX4_lookAtBills 10 = .ok (.if_icmp .ge 31, 3) := by decide +kernel
theorem dX4_lookAtBills_13 : decode cX4_lookAtBills 13 = .ok (.aload_n 0, 1) := by decide +kernel
theorem dX4_lookAtBills_14 : decode cX4_lookAtBills 14 = .ok (.getfield 40, 3) := by decide +kernel
theorem dX4_lookAtBills_17 : decode cX4_lookAtBills 17 = .ok (.iload_n 2, 1) := by decide +kernel
theorem dX4_lookAtBills_18 : decode cX4_lookAtBills 18 = .ok (.aaload, 1) := by decide +kernel
theorem dX4_lookAtBills_19 : decode cX4_lookAtBills 19 = .ok (.astore_n 3, 1) := by decide +kernel
theorem dX4_lookAtBills_20 : decode cX4_lookAtBills 20 = .ok (.aload_n 3, 1) := by decide +kernel
theorem dX4_lookAtBills_21 : decode cX4_lookAtBills 21 = .ok (.ifnull 14, 3) := by decide +kernel
theorem dX4_lookAtBills_24 : decode cX4_lookAtBills 24 = .ok (.aload_n 0, 1) := by decide +kernel
theorem dX4_lookAtBills_25 : decode cX4_lookAtBills 25 = .ok (.aload_n 3, 1) := by decide +kernel
theorem dX4_lookAtBills_26 : decode cX4_lookAtBills 26 = .ok (.invokevirtual 240, 3) := by decide +kernel
theorem dX4_lookAtBills_29 : decode cX4_lookAtBills 29 = .ok (.ifCond .eq 6, 3) := by decide +kernel
theorem dX4_lookAtBills_32 : decode cX4_lookAtBills 32 = .ok (.iinc 1 1, 3) := by decide +kernel
theorem dX4_lookAtBills_35 : decode cX4_lookAtBills 35 = .ok (.iinc 2 1, 3) := by decide +kernel
theorem dX4_lookAtBills_38 : decode cX4_lookAtBills 38 = .ok (.goto (-34), 3) := by decide +kernel
theorem dX4_lookAtBills_41 : decode cX4_lookAtBills 41 = .ok (.iload_n 1, 1) := by decide +kernel
theorem dX4_lookAtBills_42 : decode cX4_lookAtBills 42 = .ok (.ireturn, 1) := by decide +kernel
theorem dX4_lookAt_0 : decode cX4_lookAt 0 = .ok (.aload_n 1, 1) := by decide +kernel
theorem dX4_lookAt_1 : decode cX4_lookAt 1 = .ok (.getfield 133, 3) := by decide +kernel
theorem dX4_lookAt_4 : decode cX4_lookAt 4 = .ok (.ifCond .ne 28, 3) := by decide +kernel
theorem dX4_lookAt_7 : decode cX4_lookAt 7 = .ok (.aload_n 1, 1) := by decide +kernel
theorem dX4_lookAt_8 : decode cX4_lookAt 8 = .ok (.getfield 158, 3) := by decide +kernel
theorem dX4_lookAt_11 : decode cX4_lookAt 11 = .ok (.aload_n 0, 1) := by decide +kernel
theorem dX4_lookAt_12 : decode cX4_lookAt 12 = .ok (.getfield 83, 3) := by decide +kernel
theorem dX4_lookAt_15 : decode cX4_lookAt 15 = .ok (.if_icmp .gt 15, 3) := by decide +kernel
theorem dX4_lookAt_18 : decode cX4_lookAt 18 = .ok (.aload_n 0, 1) := by decide +kernel
theorem dX4_lookAt_19 : decode cX4_lookAt 19 = .ok (.aload_n 1, 1) := by decide +kernel
theorem dX4_lookAt_20 : decode cX4_lookAt 20 = .ok (.invokevirtual 244, 3) := by decide +kernel
theorem dX4_lookAt_23 : decode cX4_lookAt 23 = .ok (.ifCond .eq 7, 3) := by decide +kernel
theorem dX4_lookAt_26 : decode cX4_lookAt 26 = .ok (.iconst 1, 1) := by decide +kernel
theorem dX4_lookAt_27 : decode cX4_lookAt 27 = .ok (.goto 4, 3) := by decide +kernel
theorem dX4_lookAt_30 : decode cX4_lookAt 30 = .ok (.iconst 0, 1) := by decide +kernel
theorem dX4_lookAt_31 : decode cX4_lookAt 31 = .ok (.ireturn, 1) := by decide +kernel
theorem dX4_lookAt_32 : decode cX4_lookAt 32 = .ok (.aload_n 1, 1) := by decide +kernel
theorem dX4_lookAt_33 : decode cX4_lookAt 33 = .ok (.getfield 158, 3) := by decide +kernel
theorem dX4_lookAt_36 : decode cX4_lookAt 36 = .ok (.aload_n 0, 1) := by decide +kernel
theorem dX4_lookAt_37 : decode cX4_lookAt 37 = .ok (.getfield 83, 3) := by decide +kernel
theorem dX4_lookAt_40 : decode cX4_lookAt 40 = .ok (.if_icmp .eq 5, 3) := by decide +kernel
theorem dX4_lookAt_43 : decode cX4_lookAt 43 = .ok (.iconst 0, 1) := by decide +kernel
theorem dX4_lookAt_44 : decode cX4_lookAt 44 = .ok (.ireturn, 1) := by decide +kernel
theorem dX4_lookAt_45 : decode cX4_lookAt 45 = .ok (.aload_n 1, 1) := by decide +kernel
theorem dX4_lookAt_46 : decode cX4_lookAt 46 = .ok (.getfield 133, 3) := by decide +kernel
theorem dX4_lookAt_49 : decode cX4_lookAt 49 = .ok (.iconst 2, 1) := by decide +kernel
theorem dX4_lookAt_50 : decode cX4_lookAt 50 = .ok (.if_icmp .ne 21, 3) := by decide +kernel
theorem dX4_lookAt_53 : decode cX4_lookAt 53 = .ok (.aload_n 0, 1) := by decide +kernel
theorem dX4_lookAt_54 : decode cX4_lookAt 54 = .ok (.aload_n 1, 1) := by decide +kernel
theorem dX4_lookAt_55 : decode cX4_lookAt 55 = .ok (.iconst 3, 1) := by decide +kernel
theorem dX4_lookAt_56 : decode cX4_lookAt 56 = .ok (.aload_n 0, 1) := by decide +kernel
theorem dX4_lookAt_57 : decode cX4_lookAt 57 = .ok (.getfield 83, 3) := by decide +kernel
theorem dX4_lookAt_60 : decode cX4_lookAt 60 = .ok (.aload_n 0, 1) := by decide +kernel
theorem dX4_lookAt_61 : decode cX4_lookAt 61 = .ok (.getfield 55, 3) := by decide +kernel
theorem dX4_lookAt_64 : decode cX4_lookAt 64 = .ok (.iadd, 1) := by decide +kernel
theorem dX4_lookAt_65 : decode cX4_lookAt 65 = .ok (.invokevirtual 125, 3) := by decide +kernel
theorem dX4_lookAt_68 : decode cX4_lookAt 68 = .ok (.goto 47, 3) := by decide +kernel
theorem dX4_lookAt_71 : decode cX4_lookAt 71 = .ok (.aload_n 1, 1) := by decide +kernel
theorem dX4_lookAt_72 : decode cX4_lookAt 72 = .ok (.getfield 133, 3) := by decide +kernel
theorem dX4_lookAt_75 : decode cX4_lookAt 75 = .ok (.iconst 3, 1) := by decide +kernel
theorem dX4_lookAt_76 : decode cX4_lookAt 76 = .ok (.if_icmp .ne 26, 3) := by decide +kernel
theorem dX4_lookAt_79 : decode cX4_lookAt 79 = .ok (.aload_n 0, 1) := by decide +kernel
theorem dX4_lookAt_80 : decode cX4_lookAt 80 = .ok (.dup, 1) := by decide +kernel
theorem dX4_lookAt_81 : decode cX4_lookAt 81 = .ok (.getfield 200, 3) := by decide +kernel
theorem dX4_lookAt_84 : decode cX4_lookAt 84 = .ok (.aload_n 1, 1) := by decide +kernel
theorem dX4_lookAt_85 : decode cX4_lookAt 85 = .ok (.getfield 138, 3) := by decide +kernel
theorem dX4_lookAt_88 : decode cX4_lookAt 88 = .ok (.iadd, 1) := by decide +kernel
theorem dX4_lookAt_89 : decode cX4_lookAt 89 = .ok (.putfield 200, 3) := by decide +kernel
theorem dX4_lookAt_92 : decode cX4_lookAt 92 = .ok (.aload_n 0, 1) := by decide +kernel
theorem dX4_lookAt_93 : decode cX4_lookAt 93 = .ok (.aload_n 1, 1) := by decide +kernel
theorem dX4_lookAt_94 : decode cX4_lookAt 94 = .ok (.iconst 5, 1) := by decide +kernel
theorem dX4_lookAt_95 : decode cX4_lookAt 95 = .ok (.iconst (-1), 1) := by decide +kernel
theorem dX4_lookAt_96 : decode cX4_lookAt 96 = .ok (.invokevirtual 125, 3) := by decide +kernel
theorem dX4_lookAt_99 : decode cX4_lookAt 99 = .ok (.goto 16, 3) := by decide +kernel
theorem dX4_lookAt_102 : decode cX4_lookAt 102 = .ok (.aload_n 1, 1) := by decide +kernel
theorem dX4_lookAt_103 : decode cX4_lookAt 103 = .ok (.getfield 133, 3) := by decide +kernel
theorem dX4_lookAt_106 : decode cX4_lookAt 106 = .ok (.iconst 4, 1) := by decide +kernel
theorem dX4_lookAt_107 : decode cX4_lookAt 107 = .ok (.if_icmp .ne 8, 3) := by decide +kernel
theorem dX4_lookAt_110 : decode cX4_lookAt 110 = .ok (.aload_n 0, 1) := by decide +kernel
theorem dX4_lookAt_111 : decode cX4_lookAt 111 = .ok (.aload_n 1, 1) := by decide +kernel
theorem dX4_lookAt_112 : decode cX4_lookAt 112 = .ok (.invokevirtual 247, 3) := by decide +kernel
theorem dX4_lookAt_115 : decode cX4_lookAt 115 = .ok (.iconst 0, 1) := by decide +kernel
theorem dX4_lookAt_116 : decode cX4_lookAt 116 = .ok (.ireturn, 1) := by decide +kernel
theorem dX4_beginTry_0 : decode cX4_beginTry 0 = .ok (.aload_n 0, 1) := by decide +kernel
theorem dX4_beginTry_1 : decode cX4_beginTry 1 = .ok (.getfield 10, 3) := by decide +kernel
theorem dX4_beginTry_4 : decode cX4_beginTry 4 = .ok (.aload_n 0, 1) := by decide +kernel
theorem dX4_beginTry_5 : decode cX4_beginTry 5 = .ok (.getfield 83, 3) := by decide +kernel
theorem dX4_beginTry_8 : decode cX4_beginTry 8 = .ok (.invokevirtual 172, 3) := by decide +kernel
theorem dX4_beginTry_11 : decode cX4_beginTry 11 = .ok (.ifCond .ne 22, 3) := by decide +kernel
theorem dX4_beginTry_14 : decode cX4_beginTry 14 = .ok (.aload_n 1, 1) := by decide +kernel
theorem dX4_beginTry_15 : decode cX4_beginTry 15 = .ok (.aload_n 0, 1) := by decide +kernel
theorem dX4_beginTry_16 : decode cX4_beginTry 16 = .ok (.getfield 10, 3) := by decide +kernel
theorem dX4_beginTry_19 : decode cX4_beginTry 19 = .ok (.aload_n 0, 1) := by decide +kernel
theorem dX4_beginTry_20 : decode cX4_beginTry 20 = .ok (.getfield 83, 3) := by decide +kernel
theorem dX4_beginTry_23 : decode cX4_beginTry 23 = .ok (.iconst 1, 1) := by decide +kernel
theorem dX4_beginTry_24 : decode cX4_beginTry 24 = .ok (.iadd, 1) := by decide +kernel
theorem dX4_beginTry_25 : decode cX4_beginTry 25 = .ok (.invokevirtual 122, 3) := by decide +kernel
theorem dX4_beginTry_28 : decode cX4_beginTry 28 = .ok (.putfield 158, 3) := by decide +kernel
theorem dX4_beginTry_31 : decode cX4_beginTry 31 = .ok (.iconst 0, 1) := by decide +kernel
theorem dX4_beginTry_32 : decode cX4_beginTry 32 = .ok (.ireturn, 1) := by decide +kernel
theorem dX4_beginTry_33 : decode cX4_beginTry 33 = .ok (.aload_n 1, 1) := by decide +kernel
theorem dX4_beginTry_34 : decode cX4_beginTry 34 = .ok (.dup, 1) := by decide +kernel
theorem dX4_beginTry_35 : decode cX4_beginTry 35 = .ok (.getfield 175, 3) := by decide +kernel
theorem dX4_beginTry_38 : decode cX4_beginTry 38 = .ok (.iconst 1, 1) := by decide +kernel
theorem dX4_beginTry_39 : decode cX4_beginTry 39 = .ok (.iadd, 1) := by decide +kernel
theorem dX4_beginTry_40 : decode cX4_beginTry 40 = .ok (.putfield 175, 3) := by decide +kernel
theorem dX4_beginTry_43 : decode cX4_beginTry 43 = .ok (.aload_n 0, 1) := by decide +kernel
theorem dX4_beginTry_44 : decode cX4_beginTry 44 = .ok (.aload_n 1, 1) := by decide +kernel
theorem dX4_beginTry_45 : decode cX4_beginTry 45 = .ok (.iconst 1, 1) := by decide +kernel
theorem dX4_beginTry_46 : decode cX4_beginTry 46 = .ok (.iconst (-1), 1) := by decide +kernel
theorem dX4_beginTry_47 : decode cX4_beginTry 47 = .ok (.invokevirtual 125, 3) := by decide +kernel
theorem dX4_beginTry_50 : decode cX4_beginTry 50 = .ok (.iconst 1, 1) := by decide +kernel
theorem dX4_beginTry_51 : decode cX4_beginTry 51 = .ok (.ireturn, 1) := by decide +kernel
theorem dX4_breakPromise_0 : decode cX4_breakPromise 0 = .ok (.aload_n 1, 1) := by decide +kernel
theorem dX4_breakPromise_1 : decode cX4_breakPromise 1 = .ok (.dup, 1) := by decide +kernel
theorem dX4_breakPromise_2 : decode cX4_breakPromise 2 = .ok (.getfield 181, 3) := by decide +kernel
theorem dX4_breakPromise_5 : decode cX4_breakPromise 5 = .ok (.iconst 1, 1) := by decide +kernel
theorem dX4_breakPromise_6 : decode cX4_breakPromise 6 = .ok (.iadd, 1) := by decide +kernel
theorem dX4_breakPromise_7 : decode cX4_breakPromise 7 = .ok (.putfield 181, 3) := by decide +kernel
theorem dX4_breakPromise_10 : decode cX4_breakPromise 10 = .ok (.aload_n 1, 1) := by decide +kernel
theorem dX4_breakPromise_11 : decode cX4_breakPromise 11 = .ok (.getfield 155, 3) := by decide +kernel
theorem dX4_breakPromise_14 : decode cX4_breakPromise 14 = .ok (.ifCond .ne 25, 3) := by decide +kernel
theorem dX4_breakPromise_17 : decode cX4_breakPromise 17 = .ok (.aload_n 0, 1) := by decide +kernel
theorem dX4_breakPromise_18 : decode cX4_breakPromise 18 = .ok (.aload_n 1, 1) := by decide +kernel
theorem dX4_breakPromise_19 : decode cX4_breakPromise 19 = .ok (.iconst 0, 1) := by decide +kernel
theorem dX4_breakPromise_20 : decode cX4_breakPromise 20 = .ok (.aload_n 0, 1) := by decide +kernel
theorem dX4_breakPromise_21 : decode cX4_breakPromise 21 = .ok (.getfield 10, 3) := by decide +kernel
theorem dX4_breakPromise_24 : decode cX4_breakPromise 24 = .ok (.aload_n 0, 1) := by decide +kernel
theorem dX4_breakPromise_25 : decode cX4_breakPromise 25 = .ok (.getfield 83, 3) := by decide +kernel
theorem dX4_breakPromise_28 : decode cX4_breakPromise 28 = .ok (.iconst 1, 1) := by decide +kernel
theorem dX4_breakPromise_29 : decode cX4_breakPromise 29 = .ok (.iadd, 1) := by decide +kernel
theorem dX4_breakPromise_30 : decode cX4_breakPromise 30 = .ok (.invokevirtual 122, 3) := by decide +kernel
theorem dX4_breakPromise_33 : decode cX4_breakPromise 33 = .ok (.invokevirtual 125, 3) := by decide +kernel
theorem dX4_breakPromise_36 : decode cX4_breakPromise 36 = .ok (.goto 21, 3) := by decide +kernel
theorem dX4_breakPromise_39 : decode cX4_breakPromise 39 = .ok (.aload_n 0, 1) := by decide +kernel
theorem dX4_breakPromise_40 : decode cX4_breakPromise 40 = .ok (.aload_n 1, 1) := by decide +kernel
theorem dX4_breakPromise_41 : decode cX4_breakPromise 41 = .ok (.aload_n 1, 1) := by decide +kernel
theorem dX4_breakPromise_42 : decode cX4_breakPromise 42 = .ok (.getfield 155, 3) := by decide +kernel
theorem dX4_breakPromise_45 : decode cX4_breakPromise 45 = .ok (.aload_n 0, 1) := by decide +kernel
theorem dX4_breakPromise_46 : decode cX4_breakPromise 46 = .ok (.getfield 83, 3) := by decide +kernel
theorem dX4_breakPromise_49 : decode cX4_breakPromise 49 = .ok (.aload_n 1, 1) := by decide +kernel
theorem dX4_breakPromise_50 : decode cX4_breakPromise 50 = .ok (.getfield 161, 3) := by decide +kernel
theorem dX4_breakPromise_53 : decode cX4_breakPromise 53 = .ok (.iadd, 1) := by decide +kernel
theorem dX4_breakPromise_54 : decode cX4_breakPromise 54 = .ok (.invokevirtual 125, 3) := by decide +kernel
theorem dX4_breakPromise_57 : decode cX4_breakPromise 57 = .ok (.return_, 1) := by decide +kernel
theorem dX4_serviceWith_0 : decode cX4_serviceWith 0 = .ok (.aload_n 0, 1) := by decide +kernel
theorem dX4_serviceWith_1 : decode cX4_serviceWith 1 = .ok (.getfield 133, 3) := by decide +kernel
theorem dX4_serviceWith_4 : decode cX4_serviceWith 4 = .ok (.iconst 3, 1) := by decide +kernel
theorem dX4_serviceWith_5 : decode cX4_serviceWith 5 = .ok (.if_icmp .eq 11, 3) := by decide +kernel
theorem dX4_serviceWith_8 : decode cX4_serviceWith 8 = .ok (.aload_n 0, 1) := by decide +kernel
theorem dX4_serviceWith_9 : decode cX4_serviceWith 9 = .ok (.getfield 133, 3) := by decide +kernel
theorem dX4_serviceWith_12 : decode cX4_serviceWith 12 = .ok (.iconst 5, 1) := by decide +kernel
theorem dX4_serviceWith_13 : decode cX4_serviceWith 13 = .ok (.if_icmp .ne 5, 3) := by decide +kernel
theorem dX4_serviceWith_16 : decode cX4_serviceWith 16 = .ok (.iconst 0, 1) := by decide +kernel
theorem dX4_serviceWith_17 : decode cX4_serviceWith 17 = .ok (.ireturn, 1) := by decide +kernel
theorem dX4_serviceWith_18 : decode cX4_serviceWith 18 = .ok (.aload_n 0, 1) := by decide +kernel
theorem dX4_serviceWith_19 : decode cX4_serviceWith 19 = .ok (.getfield 133, 3) := by decide +kernel
theorem dX4_serviceWith_22 : decode cX4_serviceWith 22 = .ok (.iconst 4, 1) := by decide +kernel
theorem dX4_serviceWith_23 : decode cX4_serviceWith 23 = .ok (.if_icmp .ne 14, 3) := by decide +kernel
theorem dX4_serviceWith_26 : decode cX4_serviceWith 26 = .ok (.aload_n 0, 1) := by decide +kernel
theorem dX4_serviceWith_27 : decode cX4_serviceWith 27 = .ok (.getfield 155, 3) := by decide +kernel
theorem dX4_serviceWith_30 : decode cX4_serviceWith 30 = .ok (.ifCond .eq 7, 3) := by decide +kernel
theorem dX4_serviceWith_33 : decode cX4_serviceWith 33 = .ok (.iconst 1, 1) := by decide +kernel
theorem dX4_serviceWith_34 : decode cX4_serviceWith 34 = .ok (.goto 4, 3) := by decide +kernel
theorem dX4_serviceWith_37 : decode cX4_serviceWith 37 = .ok (.iconst 0, 1) := by decide +kernel
theorem dX4_serviceWith_38 : decode cX4_serviceWith 38 = .ok (.istore_n 1, 1) := by decide +kernel
theorem dX4_serviceWith_39 : decode cX4_serviceWith 39 = .ok (.aload_n 0, 1) := by decide +kernel
theorem dX4_serviceWith_40 : decode cX4_serviceWith 40 = .ok (.getfield 133, 3) := by decide +kernel
theorem dX4_serviceWith_43 : decode cX4_serviceWith 43 = .ok (.iconst 2, 1) := by decide +kernel
theorem dX4_serviceWith_44 : decode cX4_serviceWith 44 = .ok (.if_icmp .eq 7, 3) := by decide +kernel
theorem dX4_serviceWith_47 : decode cX4_serviceWith 47 = .ok (.iload_n 1, 1) := by decide +kernel
theorem dX4_serviceWith_48 : decode cX4_serviceWith 48 = .ok (.ifCond .eq 7, 3) := by decide +kernel
theorem dX4_serviceWith_51 : decode cX4_serviceWith 51 = .ok (.iconst 1, 1) := by decide +kernel
theorem dX4_serviceWith_52 : decode cX4_serviceWith 52 = .ok (.goto 4, 3) := by decide +kernel
theorem dX4_serviceWith_55 : decode cX4_serviceWith 55 = .ok (.iconst 2, 1) := by decide +kernel
theorem dX4_serviceWith_56 : decode cX4_serviceWith 56 = .ok (.ireturn, 1) := by decide +kernel
theorem dJ6_bitCount_0f7a4_0 : decode cJ6_bitCount_0f7a4 0 = .ok (.iload_n 0, 1) := by decide +kernel
theorem dJ6_bitCount_0f7a4_1 : decode cJ6_bitCount_0f7a4 1 = .ok (.iload_n 0, 1) := by decide +kernel
theorem dJ6_bitCount_0f7a4_2 : decode cJ6_bitCount_0f7a4 2 = .ok (.iconst 1, 1) := by decide +kernel
theorem dJ6_bitCount_0f7a4_3 : decode cJ6_bitCount_0f7a4 3 = .ok (.iushr, 1) := by decide +kernel
theorem dJ6_bitCount_0f7a4_4 : decode cJ6_bitCount_0f7a4 4 = .ok (.ldc_w 265, 3) := by decide +kernel
theorem dJ6_bitCount_0f7a4_7 : decode cJ6_bitCount_0f7a4 7 = .ok (.iand, 1) := by decide +kernel
theorem dJ6_bitCount_0f7a4_8 : decode cJ6_bitCount_0f7a4 8 = .ok (.isub, 1) := by decide +kernel
theorem dJ6_bitCount_0f7a4_9 : decode cJ6_bitCount_0f7a4 9 = .ok (.istore_n 0, 1) := by decide +kernel
theorem dJ6_bitCount_0f7a4_10 : decode cJ6_bitCount_0f7a4 10 = .ok (.iload_n 0, 1) := by decide +kernel
theorem dJ6_bitCount_0f7a4_11 : decode cJ6_bitCount_0f7a4 11 = .ok (.ldc_w 266, 3) := by decide +kernel
theorem dJ6_bitCount_0f7a4_14 : decode cJ6_bitCount_0f7a4 14 = .ok (.iand, 1) := by decide +kernel
theorem dJ6_bitCount_0f7a4_15 : decode cJ6_bitCount_0f7a4 15 = .ok (.iload_n 0, 1) := by decide +kernel
theorem dJ6_bitCount_0f7a4_16 : decode cJ6_bitCount_0f7a4 16 = .ok (.iconst 2, 1) := by decide +kernel
theorem dJ6_bitCount_0f7a4_17 : decode cJ6_bitCount_0f7a4 17 = .ok (.iushr, 1) := by decide +kernel
theorem dJ6_bitCount_0f7a4_18 : decode cJ6_bitCount_0f7a4 18 = .ok (.ldc_w 266, 3) := by decide +kernel
theorem dJ6_bitCount_0f7a4_21 : decode cJ6_bitCount_0f7a4 21 = .ok (.iand, 1) := by decide +kernel
theorem dJ6_bitCount_0f7a4_22 : decode cJ6_bitCount_0f7a4 22 = .ok (.iadd, 1) := by decide +kernel
theorem dJ6_bitCount_0f7a4_23 : decode cJ6_bitCount_0f7a4 23 = .ok (.istore_n 0, 1) := by decide +kernel
theorem dJ6_bitCount_0f7a4_24 : decode cJ6_bitCount_0f7a4 24 = .ok (.iload_n 0, 1) := by decide +kernel
theorem dJ6_bitCount_0f7a4_25 : decode cJ6_bitCount_0f7a4 25 = .ok (.iload_n 0, 1) := by decide +kernel
theorem dJ6_bitCount_0f7a4_26 : decode cJ6_bitCount_0f7a4 26 = .ok (.iconst 4, 1) := by decide +kernel
theorem dJ6_bitCount_0f7a4_27 : decode cJ6_bitCount_0f7a4 27 = .ok (.iushr, 1) := by decide +kernel
theorem dJ6_bitCount_0f7a4_28 : decode cJ6_bitCount_0f7a4 28 = .ok (.iadd, 1) := by decide +kernel
theorem dJ6_bitCount_0f7a4_29 : decode cJ6_bitCount_0f7a4 29 = .ok (.ldc_w 267, 3) := by decide +kernel
theorem dJ6_bitCount_0f7a4_32 : decode cJ6_bitCount_0f7a4 32 = .ok (.iand, 1) := by decide +kernel
theorem dJ6_bitCount_0f7a4_33 : decode cJ6_bitCount_0f7a4 33 = .ok (.istore_n 0, 1) := by decide +kernel
theorem dJ6_bitCount_0f7a4_34 : decode cJ6_bitCount_0f7a4 34 = .ok (.iload_n 0, 1) := by decide +kernel
theorem dJ6_bitCount_0f7a4_35 : decode cJ6_bitCount_0f7a4 35 = .ok (.iload_n 0, 1) := by decide +kernel
theorem dJ6_bitCount_0f7a4_36 : decode cJ6_bitCount_0f7a4 36 = .ok (.bipush 8, 2) := by decide +kernel
theorem dJ6_bitCount_0f7a4_38 : decode cJ6_bitCount_0f7a4 38 = .ok (.iushr, 1) := by decide +kernel
theorem dJ6_bitCount_0f7a4_39 : decode cJ6_bitCount_0f7a4 39 = .ok (.iadd, 1) := by decide +kernel
theorem dJ6_bitCount_0f7a4_40 : decode cJ6_bitCount_0f7a4 40 = .ok (.istore_n 0, 1) := by decide +kernel
theorem dJ6_bitCount_0f7a4_41 : decode cJ6_bitCount_0f7a4 41 = .ok (.iload_n 0, 1) := by decide +kernel
theorem dJ6_bitCount_0f7a4_42 : decode cJ6_bitCount_0f7a4 42 = .ok (.iload_n 0, 1) := by decide +kernel
theorem dJ6_bitCount_0f7a4_43 : decode cJ6_bitCount_0f7a4 43 = .ok (.bipush 16, 2) := by decide +kernel
theorem dJ6_bitCount_0f7a4_45 : decode cJ6_bitCount_0f7a4 45 = .ok (.iushr, 1) := by decide +kernel
theorem dJ6_bitCount_0f7a4_46 : decode cJ6_bitCount_0f7a4 46 = .ok (.iadd, 1) := by decide +kernel
theorem dJ6_bitCount_0f7a4_47 : decode cJ6_bitCount_0f7a4 47 = .ok (.istore_n 0, 1) := by decide +kernel
theorem dJ6_bitCount_0f7a4_48 : decode cJ6_bitCount_0f7a4 48 = .ok (.iload_n 0, 1) := by decide +kernel
theorem dJ6_bitCount_0f7a4_49 : decode cJ6_bitCount_0f7a4 49 = .ok (.bipush 63, 2) := by decide +kernel
theorem dJ6_bitCount_0f7a4_51 : decode cJ6_bitCount_0f7a4 51 = .ok (.iand, 1) := by decide +kernel
theorem dJ6_bitCount_0f7a4_52 : decode cJ6_bitCount_0f7a4 52 = .ok (.ireturn, 1) := by decide +kernel
theorem dJ9_floorMod_7cf53_0 : decode cJ9_floorMod_7cf53 0 = .ok (.iload_n 0, 1) := by decide +kernel
theorem dJ9_floorMod_7cf53_1 : decode cJ9_floorMod_7cf53 1 = .ok (.iload_n 1, 1) := by decide +kernel
theorem dJ9_floorMod_7cf53_2 : decode cJ9_floorMod_7cf53 2 = .ok (.irem, 1) := by decide +kernel
theorem dJ9_floorMod_7cf53_3 : decode cJ9_floorMod_7cf53 3 = .ok (.istore_n 2, 1) := by decide +kernel
theorem dJ9_floorMod_7cf53_4 : decode cJ9_floorMod_7cf53 4 = .ok (.iload_n 0, 1) := by decide +kernel
theorem dJ9_floorMod_7cf53_5 : decode cJ9_floorMod_7cf53 5 = .ok (.iload_n 1, 1) := by decide +kernel
theorem dJ9_floorMod_7cf53_6 : decode cJ9_floorMod_7cf53 6 = .ok (.ixor, 1) := by decide +kernel
theorem dJ9_floorMod_7cf53_7 : decode cJ9_floorMod_7cf53 7 = .ok (.ifCond .ge 11, 3) := by decide +kernel
theorem dJ9_floorMod_7cf53_10 : decode cJ9_floorMod_7cf53 10 = .ok (.iload_n 2, 1) := by decide +kernel
theorem dJ9_floorMod_7cf53_11 : decode cJ9_floorMod_7cf53 11 = .ok (.ifCond .eq 7, 3) := by decide +kernel
theorem dJ9_floorMod_7cf53_14 : decode cJ9_floorMod_7cf53 14 = .ok (.iload_n 2, 1) := by decide +kernel
theorem dJ9_floorMod_7cf53_15 : decode cJ9_floorMod_7cf53 15 = .ok (.iload_n 1, 1) := by decide +kernel
theorem dJ9_floorMod_7cf53_16 : decode cJ9_floorMod_7cf53 16 = .ok (.iadd, 1) := by decide +kernel
theorem dJ9_floorMod_7cf53_17 : decode cJ9_floorMod_7cf53 17 = .ok (.ireturn, 1) := by decide +kernel
theorem dJ9_floorMod_7cf53_18 : decode cJ9_floorMod_7cf53 18 = .ok (.iload_n 2, 1) := by decide +kernel
theorem dJ9_floorMod_7cf53_19 : decode cJ9_floorMod_7cf53 19 = .ok (.ireturn, 1) := by decide +kernel
theorem dJ9_min_7cf53_0 : decode cJ9_min_7cf53 0 = .ok (.iload_n 0, 1) := by decide +kernel
theorem dJ9_min_7cf53_1 : decode cJ9_min_7cf53 1 = .ok (.iload_n 1, 1) := by decide +kernel
theorem dJ9_min_7cf53_2 : decode cJ9_min_7cf53 2 = .ok (.if_icmp .gt 7, 3) := by decide +kernel
theorem dJ9_min_7cf53_5 : decode cJ9_min_7cf53 5 = .ok (.iload_n 0, 1) := by decide +kernel
theorem dJ9_min_7cf53_6 : decode cJ9_min_7cf53 6 = .ok (.goto 4, 3) := by decide +kernel
theorem dJ9_min_7cf53_9 : decode cJ9_min_7cf53 9 = .ok (.iload_n 1, 1) := by decide +kernel
theorem dJ9_min_7cf53_10 : decode cJ9_min_7cf53 10 = .ok (.ireturn, 1) := by decide +kernel
theorem dL_charges_0 : decode cL_charges 0 = .ok (.aload_n 0, 1) := by decide +kernel
theorem dL_charges_1 : decode cL_charges 1 = .ok (.iconst 1, 1) := by decide +kernel
theorem dL_charges_2 : decode cL_charges 2 = .ok (.iaload, 1) := by decide +kernel
theorem dL_charges_3 : decode cL_charges 3 = .ok (.iload_n 2, 1) := by decide +kernel
theorem dL_charges_4 : decode cL_charges 4 = .ok (.bipush 7, 2) := by decide +kernel
theorem dL_charges_6 : decode cL_charges 6 = .ok (.irem, 1) := by decide +kernel
theorem dL_charges_7 : decode cL_charges 7 = .ok (.ishr, 1) := by decide +kernel
theorem dL_charges_8 : decode cL_charges 8 = .ok (.iconst 1, 1) := by decide +kernel
theorem dL_charges_9 : decode cL_charges 9 = .ok (.iand, 1) := by decide +kernel
theorem dL_charges_10 : decode cL_charges 10 = .ok (.iconst 1, 1) := by decide +kernel
theorem dL_charges_11 : decode cL_charges 11 = .ok (.if_icmp .ne 7, 3) := by decide +kernel
theorem dL_charges_14 : decode cL_charges 14 = .ok (.iconst 1, 1) := by decide +kernel
theorem dL_charges_15 : decode cL_charges 15 = .ok (.goto 4, 3) := by decide +kernel
theorem dL_charges_18 : decode cL_charges 18 = .ok (.iconst 0, 1) := by decide +kernel
theorem dL_charges_19 : decode cL_charges 19 = .ok (.istore_n 3, 1) := by decide +kernel
theorem dL_charges_20 : decode cL_charges 20 = .ok (.iconst 0, 1) := by decide +kernel
theorem dL_charges_21 : decode cL_charges 21 = .ok (.istore 4, 2) := by decide +kernel
theorem dL_charges_23 : decode cL_charges 23 = .ok (.iload 4, 2) := by decide +kernel
theorem dL_charges_25 : decode cL_charges 25 = .ok (.aload_n 1, 1) := by decide +kernel
theorem dL_charges_26 : decode cL_charges 26 = .ok (.bipush 63, 2) := by decide +kernel
theorem dL_charges_28 : decode cL_charges 28 = .ok (.iaload, 1) := by decide +kernel
theorem dL_charges_29 : decode cL_charges 29 = .ok (.if_icmp .ge 27, 3) := by decide +kernel
theorem dL_charges_32 : decode cL_charges 32 = .ok (.iload_n 3, 1) := by decide +kernel
theorem dL_charges_33 : decode cL_charges 33 = .ok (.ifCond .eq 15, 3) := by decide +kernel
theorem dL_charges_36 : decode cL_charges 36 = .ok (.aload_n 1, 1) := by decide +kernel
theorem dL_charges_37 : decode cL_charges 37 = .ok (.iload 4, 2) := by decide +kernel
theorem dL_charges_39 : decode cL_charges 39 = .ok (.iaload, 1) := by decide +kernel
theorem dL_charges_40 : decode cL_charges 40 = .ok (.iload_n 2, 1) := by decide +kernel
theorem dL_charges_41 : decode cL_charges 41 = .ok (.if_icmp .eq 7, 3) := by decide +kernel
theorem dL_charges_44 : decode cL_charges 44 = .ok (.iconst 1, 1) := by decide +kernel
theorem dL_charges_45 : decode cL_charges 45 = .ok (.goto 4, 3) := by decide +kernel
theorem dL_charges_48 : decode cL_charges 48 = .ok (.iconst 0, 1) := by decide +kernel
theorem dL_charges_49 : decode cL_charges 49 = .ok (.istore_n 3, 1) := by decide +kernel
theorem dL_charges_50 : decode cL_charges 50 = .ok (.iinc 4 1, 3) := by decide +kernel
theorem dL_charges_53 : decode cL_charges 53 = .ok (.goto (-30), 3) := by decide +kernel
theorem dL_charges_56 : decode cL_charges 56 = .ok (.iload_n 3, 1) := by decide +kernel
theorem dL_charges_57 : decode cL_charges 57 = .ok (.ireturn, 1) := by decide +kernel
theorem dL_from_0 : decode cL_from 0 = .ok (.iload_n 2, 1) := by decide +kernel
theorem dL_from_1 : decode cL_from 1 = .ok (.istore_n 3, 1) := by decide +kernel
theorem dL_from_2 : decode cL_from 2 = .ok (.aload_n 0, 1) := by decide +kernel
theorem dL_from_3 : decode cL_from 3 = .ok (.aload_n 1, 1) := by decide +kernel
theorem dL_from_4 : decode cL_from 4 = .ok (.iload_n 3, 1) := by decide +kernel
theorem dL_from_5 : decode cL_from 5 = .ok (.invokestatic 7, 3) := by decide +kernel
theorem dL_from_8 : decode cL_from 8 = .ok (.ifCond .ne 9, 3) := by decide +kernel
theorem dL_from_11 : decode cL_from 11 = .ok (.iinc 3 1, 3) := by decide +kernel
theorem dL_from_14 : decode cL_from 14 = .ok (.goto (-12), 3) := by decide +kernel
theorem dL_from_17 : decode cL_from 17 = .ok (.iload_n 3, 1) := by decide +kernel
theorem dL_from_18 : decode cL_from 18 = .ok (.ireturn, 1) := by decide +kernel
theorem dL_enters_0 : decode cL_enters 0 = .ok (.aload_n 1, 1) := by decide +kernel
theorem dL_enters_1 : decode cL_enters 1 = .ok (.iload_n 3, 1) := by decide +kernel
theorem dL_enters_2 : decode cL_enters 2 = .ok (.iload 4, 2) := by decide +kernel
theorem dL_enters_4 : decode cL_enters 4 = .ok (.iastore, 1) := by decide +kernel
theorem dL_enters_5 : decode cL_enters 5 = .ok (.aload_n 2, 1) := by decide +kernel
theorem dL_enters_6 : decode cL_enters 6 = .ok (.aload_n 0, 1) := by decide +kernel
theorem dL_enters_7 : decode cL_enters 7 = .ok (.bipush 8, 2) := by decide +kernel
theorem dL_enters_9 : decode cL_enters 9 = .ok (.iaload, 1) := by decide +kernel
theorem dL_enters_10 : decode cL_enters 10 = .ok (.bipush 60, 2) := by decide +kernel
theorem dL_enters_12 : decode cL_enters 12 = .ok (.irem, 1) := by decide +kernel
theorem dL_enters_13 : decode cL_enters 13 = .ok (.aload_n 0, 1) := by decide +kernel
theorem dL_enters_14 : decode cL_enters 14 = .ok (.iconst 0, 1) := by decide +kernel
theorem dL_enters_15 : decode cL_enters 15 = .ok (.iaload, 1) := by decide +kernel
theorem dL_enters_16 : decode cL_enters 16 = .ok (.bipush 100, 2) := by decide +kernel
theorem dL_enters_18 : decode cL_enters 18 = .ok (.imul, 1) := by decide +kernel
theorem dL_enters_19 : decode cL_enters 19 = .ok (.iload_n 3, 1) := by decide +kernel
theorem dL_enters_20 : decode cL_enters 20 = .ok (.iadd, 1) := by decide +kernel
theorem dL_enters_21 : decode cL_enters 21 = .ok (.bipush 10, 2) := by decide +kernel
theorem dL_enters_23 : decode cL_enters 23 = .ok (.imul, 1) := by decide +kernel
theorem dL_enters_24 : decode cL_enters 24 = .ok (.iload 4, 2) := by decide +kernel
theorem dL_enters_26 : decode cL_enters 26 = .ok (.iadd, 1) := by decide +kernel
theorem dL_enters_27 : decode cL_enters 27 = .ok (.iastore, 1) := by decide +kernel
theorem dL_enters_28 : decode cL_enters 28 = .ok (.aload_n 0, 1) := by decide +kernel
theorem dL_enters_29 : decode cL_enters 29 = .ok (.bipush 8, 2) := by decide +kernel
theorem dL_enters_31 : decode cL_enters 31 = .ok (.dup2, 1) := by decide +kernel
theorem dL_enters_32 : decode cL_enters 32 = .ok (.iaload, 1) := by decide +kernel
theorem dL_enters_33 : decode cL_enters 33 = .ok (.iconst 1, 1) := by decide +kernel
theorem dL_enters_34 : decode cL_enters 34 = .ok (.iadd, 1) := by decide +kernel
theorem dL_enters_35 : decode cL_enters 35 = .ok (.iastore, 1) := by decide +kernel
theorem dL_enters_36 : decode cL_enters 36 = .ok (.return_, 1) := by decide +kernel
theorem dL_fails_0 : decode cL_fails 0 = .ok (.aload 5, 2) := by decide +kernel
theorem dL_fails_2 : decode cL_fails 2 = .ok (.iconst 5, 1) := by decide +kernel
theorem dL_fails_3 : decode cL_fails 3 = .ok (.iload 7, 2) := by decide +kernel
theorem dL_fails_5 : decode cL_fails 5 = .ok (.imul, 1) := by decide +kernel
theorem dL_fails_6 : decode cL_fails 6 = .ok (.iload 8, 2) := by decide +kernel
theorem dL_fails_8 : decode cL_fails 8 = .ok (.iadd, 1) := by decide +kernel
theorem dL_fails_9 : decode cL_fails 9 = .ok (.iaload, 1) := by decide +kernel
theorem dL_fails_10 : decode cL_fails 10 = .ok (.istore 9, 2) := by decide +kernel
theorem dL_fails_12 : decode cL_fails 12 = .ok (.aload 5, 2) := by decide +kernel
theorem dL_fails_14 : decode cL_fails 14 = .ok (.iconst 5, 1) := by decide +kernel
theorem dL_fails_15 : decode cL_fails 15 = .ok (.iload 7, 2) := by decide +kernel
theorem dL_fails_17 : decode cL_fails 17 = .ok (.imul, 1) := by decide +kernel
theorem dL_fails_18 : decode cL_fails 18 = .ok (.iload 8, 2) := by decide +kernel
theorem dL_fails_20 : decode cL_fails 20 = .ok (.iadd, 1) := by decide +kernel
theorem dL_fails_21 : decode cL_fails 21 = .ok (.dup2, 1) := by decide +kernel
theorem dL_fails_22 : decode cL_fails 22 = .ok (.iaload, 1) := by decide +kernel
theorem dL_fails_23 : decode cL_fails 23 = .ok (.iconst 1, 1) := by decide +kernel
theorem dL_fails_24 : decode cL_fails 24 = .ok (.iadd, 1) := by decide +kernel
theorem dL_fails_25 : decode cL_fails 25 = .ok (.iastore, 1) := by decide +kernel
theorem dL_fails_26 : decode cL_fails 26 = .ok (.iload 9, 2) := by decide +kernel
theorem dL_fails_28 : decode cL_fails 28 = .ok (.aload_n 3, 1) := by decide +kernel
theorem dL_fails_29 : decode cL_fails 29 = .ok (.iload 8, 2) := by decide +kernel
theorem dL_fails_31 : decode cL_fails 31 = .ok (.iaload, 1) := by decide +kernel
theorem dL_fails_32 : decode cL_fails 32 = .ok (.if_icmp .ge 7, 3) := by decide +kernel
theorem dL_fails_35 : decode cL_fails 35 = .ok (.iconst 1, 1) := by decide +kernel
theorem dL_fails_36 : decode cL_fails 36 = .ok (.goto 4, 3) := by decide +kernel
theorem dL_fails_39 : decode cL_fails 39 = .ok (.iconst 0, 1) := by decide +kernel
theorem dL_fails_40 : decode cL_fails 40 = .ok (.istore 10, 2) := by decide +kernel
theorem dL_fails_42 : decode cL_fails 42 = .ok (.aload 4, 2) := by decide +kernel
theorem dL_fails_44 : decode cL_fails 44 = .ok (.bipush 12, 2) := by decide +kernel
theorem dL_fails_46 : decode cL_fails 46 = .ok (.iload 7, 2) := by decide +kernel
theorem dL_fails_48 : decode cL_fails 48 = .ok (.iadd, 1) := by decide +kernel
theorem dL_fails_49 : decode cL_fails 49 = .ok (.iload 10, 2) := by decide +kernel
theorem dL_fails_51 : decode cL_fails 51 = .ok (.ifCond .eq 25, 3) := by decide +kernel
theorem dL_fails_54 : decode cL_fails 54 = .ok (.aload_n 0, 1) := by decide +kernel
theorem dL_fails_55 : decode cL_fails 55 = .ok (.aload_n 1, 1) := by decide +kernel
theorem dL_fails_56 : decode cL_fails 56 = .ok (.aload_n 0, 1) := by decide +kernel
theorem dL_fails_57 : decode cL_fails 57 = .ok (.iconst 0, 1) := by decide +kernel
theorem dL_fails_58 : decode cL_fails 58 = .ok (.iaload, 1) := by decide +kernel
theorem dL_fails_59 : decode cL_fails 59 = .ok (.aload_n 2, 1) := by decide +kernel
theorem dL_fails_60 : decode cL_fails 60 = .ok (.bipush 6, 2) := by decide +kernel
theorem dL_fails_62 : decode cL_fails 62 = .ok (.iload 8, 2) := by decide +kernel
theorem dL_fails_64 : decode cL_fails 64 = .ok (.imul, 1) := by decide +kernel
theorem dL_fails_65 : decode cL_fails 65 = .ok (.iload 9, 2) := by decide +kernel
theorem dL_fails_67 : decode cL_fails 67 = .ok (.iadd, 1) := by decide +kernel
theorem dL_fails_68 : decode cL_fails 68 = .ok (.iaload, 1) := by decide +kernel
theorem dL_fails_69 : decode cL_fails 69 = .ok (.iadd, 1) := by decide +kernel
theorem dL_fails_70 : decode cL_fails 70 = .ok (.invokestatic 13, 3) := by decide +kernel
theorem dL_fails_73 : decode cL_fails 73 = .ok (.goto 10, 3) := by decide +kernel
theorem dL_fails_76 : decode cL_fails 76 = .ok (.aload_n 0, 1) := by decide +kernel
theorem dL_fails_77 : decode cL_fails 77 = .ok (.iconst 0, 1) := by decide +kernel
theorem dL_fails_78 : decode cL_fails 78 = .ok (.iaload, 1) := by decide +kernel
theorem dL_fails_79 : decode cL_fails 79 = .ok (.aload_n 0, 1) := by decide +kernel
theorem dL_fails_80 : decode cL_fails 80 = .ok (.iconst 3, 1) := by decide +kernel
theorem dL_fails_81 : decode cL_fails 81 = .ok (.iaload, 1) := by decide +kernel
theorem dL_fails_82 : decode cL_fails 82 = .ok (.iadd, 1) := by decide +kernel
theorem dL_fails_83 : decode cL_fails 83 = .ok (.iastore, 1) := by decide +kernel
theorem dL_fails_84 : decode cL_fails 84 = .ok (.aload_n 0, 1) := by decide +kernel
theorem dL_fails_85 : decode cL_fails 85 = .ok (.aload 4, 2) := by decide +kernel
theorem dL_fails_87 : decode cL_fails 87 = .ok (.aload 6, 2) := by decide +kernel
theorem dL_fails_89 : decode cL_fails 89 = .ok (.iload 7, 2) := by decide +kernel
theorem dL_fails_91 : decode cL_fails 91 = .ok (.iload 10, 2) := by decide +kernel
theorem dL_fails_93 : decode cL_fails 93 = .ok (.ifCond .eq 7, 3) := by decide +kernel
theorem dL_fails_96 : decode cL_fails 96 = .ok (.iconst 0, 1) := by decide +kernel
theorem dL_fails_97 : decode cL_fails 97 = .ok (.goto 4, 3) := by decide +kernel
theorem dL_fails_100 : decode cL_fails 100 = .ok (.iconst 2, 1) := by decide +kernel
theorem dL_fails_101 : decode cL_fails 101 = .ok (.invokestatic 17, 3) := by decide +kernel
theorem dL_fails_104 : decode cL_fails 104 = .ok (.return_, 1) := by decide +kernel
theorem dL_passes_0 : decode cL_passes 0 = .ok (.iconst 0, 1) := by decide +kernel
theorem dL_passes_1 : decode cL_passes 1 = .ok (.istore 9, 2) := by decide +kernel
theorem dL_passes_3 : decode cL_passes 3 = .ok (.iconst 0, 1) := by decide +kernel
theorem dL_passes_4 : decode cL_passes 4 = .ok (.istore 10, 2) := by decide +kernel
theorem dL_passes_6 : decode cL_passes 6 = .ok (.iload 10, 2) := by decide +kernel
theorem dL_passes_8 : decode cL_passes 8 = .ok (.aload_n 0, 1) := by decide +kernel
theorem dL_passes_9 : decode cL_passes 9 = .ok (.iconst 2, 1) := by decide +kernel
theorem dL_passes_10 : decode cL_passes 10 = .ok (.iaload, 1) := by decide +kernel
theorem dL_passes_11 : decode cL_passes 11 = .ok (.if_icmp .ge 34, 3) := by decide +kernel
theorem dL_passes_14 : decode cL_passes 14 = .ok (.aload 5, 2) := by decide +kernel
theorem dL_passes_16 : decode cL_passes 16 = .ok (.iload 10, 2) := by decide +kernel
theorem dL_passes_18 : decode cL_passes 18 = .ok (.iaload, 1) := by decide +kernel
theorem dL_passes_19 : decode cL_passes 19 = .ok (.iconst 1, 1) := by decide +kernel
theorem dL_passes_20 : decode cL_passes 20 = .ok (.if_icmp .ne 19, 3) := by decide +kernel
theorem dL_passes_23 : decode cL_passes 23 = .ok (.aload_n 0, 1) := by decide +kernel
theorem dL_passes_24 : decode cL_passes 24 = .ok (.aload_n 1, 1) := by decide +kernel
theorem dL_passes_25 : decode cL_passes 25 = .ok (.aload_n 2, 1) := by decide +kernel
theorem dL_passes_26 : decode cL_passes 26 = .ok (.aload_n 3, 1) := by decide +kernel
theorem dL_passes_27 : decode cL_passes 27 = .ok (.aload 5, 2) := by decide +kernel
theorem dL_passes_29 : decode cL_passes 29 = .ok (.aload 6, 2) := by decide +kernel
theorem dL_passes_31 : decode cL_passes 31 = .ok (.aload 8, 2) := by decide +kernel
theorem dL_passes_33 : decode cL_passes 33 = .ok (.iload 10, 2) := by decide +kernel
theorem dL_passes_35 : decode cL_passes 35 = .ok (.iconst 4, 1) := by decide +kernel
theorem dL_passes_36 : decode cL_passes 36 = .ok (.invokestatic 21, 3) := by decide +kernel
theorem dL_passes_39 : decode cL_passes 39 = .ok (.iinc 10 1, 3) := by decide +kernel
theorem dL_passes_42 : decode cL_passes 42 = .ok (.goto (-36), 3) := by decide +kernel
theorem dL_passes_45 : decode cL_passes 45 = .ok (.aload_n 0, 1) := by decide +kernel
theorem dL_passes_46 : decode cL_passes 46 = .ok (.iconst 0, 1) := by decide +kernel
theorem dL_passes_47 : decode cL_passes 47 = .ok (.dup2, 1) := by decide +kernel
theorem dL_passes_48 : decode cL_passes 48 = .ok (.iaload, 1) := by decide +kernel
theorem dL_passes_49 : decode cL_passes 49 = .ok (.iconst 1, 1) := by decide +kernel
theorem dL_passes_50 : decode cL_passes 50 = .ok (.iadd, 1) := by decide +kernel
theorem dL_passes_51 : decode cL_passes 51 = .ok (.iastore, 1) := by decide +kernel
theorem dL_passes_52 : decode cL_passes 52 = .ok (.iconst 0, 1) := by decide +kernel
theorem dL_passes_53 : decode cL_passes 53 = .ok (.istore 10, 2) := by decide +kernel
theorem dL_passes_55 : decode cL_passes 55 = .ok (.iload 10, 2) := by decide +kernel
theorem dL_passes_57 : decode cL_passes 57 = .ok (.aload_n 0, 1) := by decide +kernel
theorem dL_passes_58 : decode cL_passes 58 = .ok (.iconst 2, 1) := by decide +kernel
theorem dL_passes_59 : decode cL_passes 59 = .ok (.iaload, 1) := by decide +kernel
theorem dL_passes_60 : decode cL_passes 60 = .ok (.if_icmp .ge 280, 3) := by decide +kernel
theorem dL_passes_63 : decode cL_passes 63 = .ok (.aload 5, 2) := by decide +kernel
theorem dL_passes_65 : decode cL_passes 65 = .ok (.bipush 12, 2) := by decide +kernel
theorem dL_passes_67 : decode cL_passes 67 = .ok (.iload 10, 2) := by decide +kernel
theorem dL_passes_69 : decode cL_passes 69 = .ok (.iadd, 1) := by decide +kernel
theorem dL_passes_70 : decode cL_passes 70 = .ok (.iaload, 1) := by decide +kernel
theorem dL_passes_71 : decode cL_passes 71 = .ok (.aload_n 0, 1) := by decide +kernel
theorem dL_passes_72 : decode cL_passes 72 = .ok (.iconst 0, 1) := by decide +kernel
theorem dL_passes_73 : decode cL_passes 73 = .ok (.iaload, 1) := by decide +kernel
theorem dL_passes_74 : decode cL_passes 74 = .ok (.if_icmp .ne 7, 3) := by decide +kernel
theorem dL_passes_77 : decode cL_passes 77 = .ok (.iconst 1, 1) := by decide +kernel
theorem dL_passes_78 : decode cL_passes 78 = .ok (.goto 4, 3) := by decide +kernel
theorem dL_passes_81 : decode cL_passes 81 = .ok (.iconst 0, 1) := by decide +kernel
theorem dL_passes_82 : decode cL_passes 82 = .ok (.istore 11, 2) := by decide +kernel
theorem dL_passes_84 : decode cL_passes 84 = .ok (.aload 5, 2) := by decide +kernel
theorem dL_passes_86 : decode cL_passes 86 = .ok (.iload 10, 2) := by decide +kernel
theorem dL_passes_88 : decode cL_passes 88 = .ok (.iaload, 1) := by decide +kernel
theorem dL_passes_89 : decode cL_passes 89 = .ok (.ifCond .ne 78, 3) := by decide +kernel
theorem dL_passes_92 : decode cL_passes 92 = .ok (.aload 5, 2) := by decide +kernel
theorem dL_passes_94 : decode cL_passes 94 = .ok (.bipush 12, 2) := by decide +kernel
theorem dL_passes_96 : decode cL_passes 96 = .ok (.iload 10, 2) := by decide +kernel
theorem dL_passes_98 : decode cL_passes 98 = .ok (.iadd, 1) := by decide +kernel
theorem dL_passes_99 : decode cL_passes 99 = .ok (.iaload, 1) := by decide +kernel
theorem dL_passes_100 : decode cL_passes 100 = .ok (.aload_n 0, 1) := by decide +kernel
theorem dL_passes_101 : decode cL_passes 101 = .ok (.iconst 0, 1) := by decide +kernel
theorem dL_passes_102 : decode cL_passes 102 = .ok (.iaload, 1) := by decide +kernel
theorem dL_passes_103 : decode cL_passes 103 = .ok (.if_icmp .gt 64, 3) := by decide +kernel
theorem dL_passes_106 : decode cL_passes 106 = .ok (.aload_n 0, 1) := by decide +kernel
theorem dL_passes_107 : decode cL_passes 107 = .ok (.aload_n 1, 1) := by decide +kernel
theorem dL_passes_108 : decode cL_passes 108 = .ok (.aload_n 0, 1) := by decide +kernel
theorem dL_passes_109 : decode cL_passes 109 = .ok (.iconst 0, 1) := by decide +kernel
theorem dL_passes_110 : decode cL_passes 110 = .ok (.iaload, 1) := by decide +kernel
theorem dL_passes_111 : decode cL_passes 111 = .ok (.invokestatic 7, 3) := by decide +kernel
theorem dL_passes_114 : decode cL_passes 114 = .ok (.ifCond .eq 32, 3) := by decide +kernel
theorem dL_passes_117 : decode cL_passes 117 = .ok (.aload 5, 2) := by decide +kernel
theorem dL_passes_119 : decode cL_passes 119 = .ok (.bipush 24, 2) := by decide +kernel
theorem dL_passes_121 : decode cL_passes 121 = .ok (.iload 10, 2) := by decide +kernel
theorem dL_passes_123 : decode cL_passes 123 = .ok (.iadd, 1) := by decide +kernel
theorem dL_passes_124 : decode cL_passes 124 = .ok (.dup2, 1) := by decide +kernel
theorem dL_passes_125 : decode cL_passes 125 = .ok (.iaload, 1) := by decide +kernel
theorem dL_passes_126 : decode cL_passes 126 = .ok (.iconst 1, 1) := by decide +kernel
theorem dL_passes_127 : decode cL_passes 127 = .ok (.iadd, 1) := by decide +kernel
theorem dL_passes_128 : decode cL_passes 128 = .ok (.iastore, 1) := by decide +kernel
theorem dL_passes_129 : decode cL_passes 129 = .ok (.iinc 9 1, 3) := by decide +kernel
theorem dL_passes_132 : decode cL_passes 132 = .ok (.aload_n 0, 1) := by decide +kernel
theorem dL_passes_133 : decode cL_passes 133 = .ok (.aload 5, 2) := by decide +kernel
theorem dL_passes_135 : decode cL_passes 135 = .ok (.aload 8, 2) := by decide +kernel
theorem dL_passes_137 : decode cL_passes 137 = .ok (.iload 10, 2) := by decide +kernel
theorem dL_passes_139 : decode cL_passes 139 = .ok (.iconst 1, 1) := by decide +kernel
theorem dL_passes_140 : decode cL_passes 140 = .ok (.invokestatic 17, 3) := by decide +kernel
theorem dL_passes_143 : decode cL_passes 143 = .ok (.goto 191, 3) := by decide +kernel
theorem dL_passes_146 : decode cL_passes 146 = .ok (.aload 5, 2) := by decide +kernel
theorem dL_passes_148 : decode cL_passes 148 = .ok (.bipush 12, 2) := by decide +kernel
theorem dL_passes_150 : decode cL_passes 150 = .ok (.iload 10, 2) := by decide +kernel
theorem dL_passes_152 : decode cL_passes 152 = .ok (.iadd, 1) := by decide +kernel
theorem dL_passes_153 : decode cL_passes 153 = .ok (.aload_n 0, 1) := by decide +kernel
theorem dL_passes_154 : decode cL_passes 154 = .ok (.aload_n 1, 1) := by decide +kernel
theorem dL_passes_155 : decode cL_passes 155 = .ok (.aload_n 0, 1) := by decide +kernel
theorem dL_passes_156 : decode cL_passes 156 = .ok (.iconst 0, 1) := by decide +kernel
theorem dL_passes_157 : decode cL_passes 157 = .ok (.iaload, 1) := by decide +kernel
theorem dL_passes_158 : decode cL_passes 158 = .ok (.iconst 1, 1) := by decide +kernel
theorem dL_passes_159 : decode cL_passes 159 = .ok (.iadd, 1) := by decide +kernel
theorem dL_passes_160 : decode cL_passes 160 = .ok (.invokestatic 13, 3) := by decide +kernel
theorem dL_passes_163 : decode cL_passes 163 = .ok (.iastore, 1) := by decide +kernel
theorem dL_passes_164 : decode cL_passes 164 = .ok (.goto 170, 3) := by decide +kernel
theorem dL_passes_167 : decode cL_passes 167 = .ok (.aload 5, 2) := by decide +kernel
theorem dL_passes_169 : decode cL_passes 169 = .ok (.iload 10, 2) := by decide +kernel
theorem dL_passes_171 : decode cL_passes 171 = .ok (.iaload, 1) := by decide +kernel
theorem dL_passes_172 : decode cL_passes 172 = .ok (.iconst 2, 1) := by decide +kernel
theorem dL_passes_173 : decode cL_passes 173 = .ok (.if_icmp .ne 36, 3) := by decide +kernel
theorem dL_passes_176 : decode cL_passes 176 = .ok (.iload 11, 2) := by decide +kernel
theorem dL_passes_178 : decode cL_passes 178 = .ok (.ifCond .eq 31, 3) := by decide +kernel
theorem dL_passes_181 : decode cL_passes 181 = .ok (.aload 5, 2) := by decide +kernel
theorem dL_passes_183 : decode cL_passes 183 = .ok (.bipush 12, 2) := by decide +kernel
theorem dL_passes_185 : decode cL_passes 185 = .ok (.iload 10, 2) := by decide +kernel
theorem dL_passes_187 : decode cL_passes 187 = .ok (.iadd, 1) := by decide +kernel
theorem dL_passes_188 : decode cL_passes 188 = .ok (.dup2, 1) := by decide +kernel
theorem dL_passes_189 : decode cL_passes 189 = .ok (.iaload, 1) := by decide +kernel
theorem dL_passes_190 : decode cL_passes 190 = .ok (.aload_n 0, 1) := by decide +kernel
theorem dL_passes_191 : decode cL_passes 191 = .ok (.iconst 4, 1) := by decide +kernel
theorem dL_passes_192 : decode cL_passes 192 = .ok (.iaload, 1) := by decide +kernel
theorem dL_passes_193 : decode cL_passes 193 = .ok (.iadd, 1) := by decide +kernel
theorem dL_passes_194 : decode cL_passes 194 = .ok (.iastore, 1) := by decide +kernel
theorem dL_passes_195 : decode cL_passes 195 = .ok (.aload_n 0, 1) := by decide +kernel
theorem dL_passes_196 : decode cL_passes 196 = .ok (.aload 5, 2) := by decide +kernel
theorem dL_passes_198 : decode cL_passes 198 = .ok (.aload 8, 2) := by decide +kernel
theorem dL_passes_200 : decode cL_passes 200 = .ok (.iload 10, 2) := by decide +kernel
theorem dL_passes_202 : decode cL_passes 202 = .ok (.iconst 3, 1) := by decide +kernel
theorem dL_passes_203 : decode cL_passes 203 = .ok (.invokestatic 17, 3) := by decide +kernel
theorem dL_passes_206 : decode cL_passes 206 = .ok (.goto 128, 3) := by decide +kernel
theorem dL_passes_209 : decode cL_passes 209 = .ok (.aload 5, 2) := by decide +kernel
theorem dL_passes_211 : decode cL_passes 211 = .ok (.iload 10, 2) := by decide +kernel
theorem dL_passes_213 : decode cL_passes 213 = .ok (.iaload, 1) := by decide +kernel
theorem dL_passes_214 : decode cL_passes 214 = .ok (.iconst 3, 1) := by decide +kernel
theorem dL_passes_215 : decode cL_passes 215 = .ok (.if_icmp .ne 37, 3) := by decide +kernel
theorem dL_passes_218 : decode cL_passes 218 = .ok (.iload 11, 2) := by decide +kernel
theorem dL_passes_220 : decode cL_passes 220 = .ok (.ifCond .eq 32, 3) := by decide +kernel
theorem dL_passes_223 : decode cL_passes 223 = .ok (.aload_n 0, 1) := by decide +kernel
theorem dL_passes_224 : decode cL_passes 224 = .ok (.bipush 6, 2) := by decide +kernel
theorem dL_passes_226 : decode cL_passes 226 = .ok (.dup2, 1) := by decide +kernel
theorem dL_passes_227 : decode cL_passes 227 = .ok (.iaload, 1) := by decide +kernel
theorem dL_passes_228 : decode cL_passes 228 = .ok (.aload 4, 2) := by decide +kernel
theorem dL_passes_230 : decode cL_passes 230 = .ok (.bipush 24, 2) := by decide +kernel
theorem dL_passes_232 : decode cL_passes 232 = .ok (.iload 10, 2) := by decide +kernel
theorem dL_passes_234 : decode cL_passes 234 = .ok (.iadd, 1) := by decide +kernel
theorem dL_passes_235 : decode cL_passes 235 = .ok (.iaload, 1) := by decide +kernel
theorem dL_passes_236 : decode cL_passes 236 = .ok (.iadd, 1) := by decide +kernel
theorem dL_passes_237 : decode cL_passes 237 = .ok (.iastore, 1) := by decide +kernel
theorem dL_passes_238 : decode cL_passes 238 = .ok (.aload_n 0, 1) := by decide +kernel
theorem dL_passes_239 : decode cL_passes 239 = .ok (.aload 5, 2) := by decide +kernel
theorem dL_passes_241 : decode cL_passes 241 = .ok (.aload 8, 2) := by decide +kernel
theorem dL_passes_243 : decode cL_passes 243 = .ok (.iload 10, 2) := by decide +kernel
theorem dL_passes_245 : decode cL_passes 245 = .ok (.iconst 5, 1) := by decide +kernel
theorem dL_passes_246 : decode cL_passes 246 = .ok (.invokestatic 17, 3) := by decide +kernel
theorem dL_passes_249 : decode cL_passes 249 = .ok (.goto 85, 3) := by decide +kernel
theorem dL_passes_252 : decode cL_passes 252 = .ok (.aload 5, 2) := by decide +kernel
theorem dL_passes_254 : decode cL_passes 254 = .ok (.iload 10, 2) := by decide +kernel
theorem dL_passes_256 : decode cL_passes 256 = .ok (.iaload, 1) := by decide +kernel
theorem dL_passes_257 : decode cL_passes 257 = .ok (.iconst 4, 1) := by decide +kernel
theorem dL_passes_258 : decode cL_passes 258 = .ok (.if_icmp .ne 76, 3) := by decide +kernel
theorem dL_passes_261 : decode cL_passes 261 = .ok (.iload 11, 2) := by decide +kernel
theorem dL_passes_263 : decode cL_passes 263 = .ok (.ifCond .eq 71, 3) := by decide +kernel
theorem dL_passes_266 : decode cL_passes 266 = .ok (.aload 7, 2) := by decide +kernel
theorem dL_passes_268 : decode cL_passes 268 = .ok (.bipush 24, 2) := by decide +kernel
theorem dL_passes_270 : decode cL_passes 270 = .ok (.iload 10, 2) := by decide +kernel
theorem dL_passes_272 : decode cL_passes 272 = .ok (.iadd, 1) := by decide +kernel
theorem dL_passes_273 : decode cL_passes 273 = .ok (.dup2, 1) := by decide +kernel
theorem dL_passes_274 : decode cL_passes 274 = .ok (.iaload, 1) := by decide +kernel
theorem dL_passes_275 : decode cL_passes 275 = .ok (.iconst 1, 1) := by decide +kernel
theorem dL_passes_276 : decode cL_passes 276 = .ok (.iadd, 1) := by decide +kernel
theorem dL_passes_277 : decode cL_passes 277 = .ok (.iastore, 1) := by decide +kernel
theorem dL_passes_278 : decode cL_passes 278 = .ok (.aload 5, 2) := by decide +kernel
theorem dL_passes_280 : decode cL_passes 280 = .ok (.bipush 12, 2) := by decide +kernel
theorem dL_passes_282 : decode cL_passes 282 = .ok (.iload 10, 2) := by decide +kernel
theorem dL_passes_284 : decode cL_passes 284 = .ok (.iadd, 1) := by decide +kernel
theorem dL_passes_285 : decode cL_passes 285 = .ok (.aload 7, 2) := by decide +kernel
theorem dL_passes_287 : decode cL_passes 287 = .ok (.iload 10, 2) := by decide +kernel
theorem dL_passes_289 : decode cL_passes 289 = .ok (.iaload, 1) := by decide +kernel
theorem dL_passes_290 : decode cL_passes 290 = .ok (.ifCond .ne 16, 3) := by decide +kernel
theorem dL_passes_293 : decode cL_passes 293 = .ok (.aload_n 0, 1) := by decide +kernel
theorem dL_passes_294 : decode cL_passes 294 = .ok (.aload_n 1, 1) := by decide +kernel
theorem dL_passes_295 : decode cL_passes 295 = .ok (.aload_n 0, 1) := by decide +kernel
theorem dL_passes_296 : decode cL_passes 296 = .ok (.iconst 0, 1) := by decide +kernel
theorem dL_passes_297 : decode cL_passes 297 = .ok (.iaload, 1) := by decide +kernel
theorem dL_passes_298 : decode cL_passes 298 = .ok (.iconst 1, 1) := by decide +kernel
theorem dL_passes_299 : decode cL_passes 299 = .ok (.iadd, 1) := by decide +kernel
theorem dL_passes_300 : decode cL_passes 300 = .ok (.invokestatic 13, 3) := by decide +kernel
theorem dL_passes_303 : decode cL_passes 303 = .ok (.goto 15, 3) := by decide +kernel
theorem dL_passes_306 : decode cL_passes 306 = .ok (.aload_n 0, 1) := by decide +kernel
theorem dL_passes_307 : decode cL_passes 307 = .ok (.iconst 0, 1) := by decide +kernel
theorem dL_passes_308 : decode cL_passes 308 = .ok (.iaload, 1) := by decide +kernel
theorem dL_passes_309 : decode cL_passes 309 = .ok (.aload 7, 2) := by decide +kernel
theorem dL_passes_311 : decode cL_passes 311 = .ok (.bipush 12, 2) := by decide +kernel
theorem dL_passes_313 : decode cL_passes 313 = .ok (.iload 10, 2) := by decide +kernel
theorem dL_passes_315 : decode cL_passes 315 = .ok (.iadd, 1) := by decide +kernel
theorem dL_passes_316 : decode cL_passes 316 = .ok (.iaload, 1) := by decide +kernel
theorem dL_passes_317 : decode cL_passes 317 = .ok (.iadd, 1) := by decide +kernel
theorem dL_passes_318 : decode cL_passes 318 = .ok (.iastore, 1) := by decide +kernel
theorem dL_passes_319 : decode cL_passes 319 = .ok (.aload_n 0, 1) := by decide +kernel
theorem dL_passes_320 : decode cL_passes 320 = .ok (.aload 5, 2) := by decide +kernel
theorem dL_passes_322 : decode cL_passes 322 = .ok (.aload 8, 2) := by decide +kernel
theorem dL_passes_324 : decode cL_passes 324 = .ok (.iload 10, 2) := by decide +kernel
theorem dL_passes_326 : decode cL_passes 326 = .ok (.aload 7, 2) := by decide +kernel
theorem dL_passes_328 : decode cL_passes 328 = .ok (.iload 10, 2) := by decide +kernel
theorem dL_passes_330 : decode cL_passes 330 = .ok (.iaload, 1) := by decide +kernel
theorem dL_passes_331 : decode cL_passes 331 = .ok (.invokestatic 17, 3) := by decide +kernel
theorem dL_passes_334 : decode cL_passes 334 = .ok (.iinc 10 1, 3) := by decide +kernel
theorem dL_passes_337 : decode cL_passes 337 = .ok (.goto (-282), 3) := by decide +kernel
theorem dL_passes_340 : decode cL_passes 340 = .ok (.iload 9, 2) := by decide +kernel
theorem dL_passes_342 : decode cL_passes 342 = .ok (.ireturn, 1) := by decide +kernel
theorem dL_pays_0 : decode cL_pays 0 = .ok (.aload_n 2, 1) := by decide +kernel
theorem dL_pays_1 : decode cL_pays 1 = .ok (.iload 4, 2) := by decide +kernel
theorem dL_pays_3 : decode cL_pays 3 = .ok (.iaload, 1) := by decide +kernel
theorem dL_pays_4 : decode cL_pays 4 = .ok (.iconst 1, 1) := by decide +kernel
theorem dL_pays_5 : decode cL_pays 5 = .ok (.if_icmp .eq 24, 3) := by decide +kernel
theorem dL_pays_8 : decode cL_pays 8 = .ok (.aload_n 2, 1) := by decide +kernel
theorem dL_pays_9 : decode cL_pays 9 = .ok (.iload 4, 2) := by decide +kernel
theorem dL_pays_11 : decode cL_pays 11 = .ok (.iaload, 1) := by decide +kernel
theorem dL_pays_12 : decode cL_pays 12 = .ok (.bipush 6, 2) := by decide +kernel
theorem dL_pays_14 : decode cL_pays 14 = .ok (.if_icmp .eq 15, 3) := by decide +kernel
theorem dL_pays_17 : decode cL_pays 17 = .ok (.iload 5, 2) := by decide +kernel
theorem dL_pays_19 : decode cL_pays 19 = .ok (.aload_n 1, 1) := by decide +kernel
theorem dL_pays_20 : decode cL_pays 20 = .ok (.bipush 24, 2) := by decide +kernel
theorem dL_pays_22 : decode cL_pays 22 = .ok (.iload 4, 2) := by decide +kernel
theorem dL_pays_24 : decode cL_pays 24 = .ok (.iadd, 1) := by decide +kernel
theorem dL_pays_25 : decode cL_pays 25 = .ok (.iaload, 1) := by decide +kernel
theorem dL_pays_26 : decode cL_pays 26 = .ok (.if_icmp .le 6, 3) := by decide +kernel
theorem dL_pays_29 : decode cL_pays 29 = .ok (.bipush (-13), 2) := by decide +kernel
theorem dL_pays_31 : decode cL_pays 31 = .ok (.ireturn, 1) := by decide +kernel
theorem dL_pays_32 : decode cL_pays 32 = .ok (.aload_n 0, 1) := by decide +kernel
theorem dL_pays_33 : decode cL_pays 33 = .ok (.bipush 7, 2) := by decide +kernel
theorem dL_pays_35 : decode cL_pays 35 = .ok (.dup2, 1) := by decide +kernel
theorem dL_pays_36 : decode cL_pays 36 = .ok (.iaload, 1) := by decide +kernel
theorem dL_pays_37 : decode cL_pays 37 = .ok (.aload_n 2, 1) := by decide +kernel
theorem dL_pays_38 : decode cL_pays 38 = .ok (.iload 4, 2) := by decide +kernel
theorem dL_pays_40 : decode cL_pays 40 = .ok (.iaload, 1) := by decide +kernel
theorem dL_pays_41 : decode cL_pays 41 = .ok (.iconst 5, 1) := by decide +kernel
theorem dL_pays_42 : decode cL_pays 42 = .ok (.if_icmp .ne 8, 3) := by decide +kernel
theorem dL_pays_45 : decode cL_pays 45 = .ok (.iload 5, 2) := by decide +kernel
theorem dL_pays_47 : decode cL_pays 47 = .ok (.goto 4, 3) := by decide +kernel
theorem dL_pays_50 : decode cL_pays 50 = .ok (.iconst 0, 1) := by decide +kernel
theorem dL_pays_51 : decode cL_pays 51 = .ok (.iadd, 1) := by decide +kernel
theorem dL_pays_52 : decode cL_pays 52 = .ok (.iastore, 1) := by decide +kernel
theorem dL_pays_53 : decode cL_pays 53 = .ok (.aload_n 0, 1) := by decide +kernel
theorem dL_pays_54 : decode cL_pays 54 = .ok (.iconst 5, 1) := by decide +kernel
theorem dL_pays_55 : decode cL_pays 55 = .ok (.dup2, 1) := by decide +kernel
theorem dL_pays_56 : decode cL_pays 56 = .ok (.iaload, 1) := by decide +kernel
theorem dL_pays_57 : decode cL_pays 57 = .ok (.iload 5, 2) := by decide +kernel
theorem dL_pays_59 : decode cL_pays 59 = .ok (.iadd, 1) := by decide +kernel
theorem dL_pays_60 : decode cL_pays 60 = .ok (.iastore, 1) := by decide +kernel
theorem dL_pays_61 : decode cL_pays 61 = .ok (.aload_n 1, 1) := by decide +kernel
theorem dL_pays_62 : decode cL_pays 62 = .ok (.bipush 24, 2) := by decide +kernel
theorem dL_pays_64 : decode cL_pays 64 = .ok (.iload 4, 2) := by decide +kernel
theorem dL_pays_66 : decode cL_pays 66 = .ok (.iadd, 1) := by decide +kernel
theorem dL_pays_67 : decode cL_pays 67 = .ok (.dup2, 1) := by decide +kernel
theorem dL_pays_68 : decode cL_pays 68 = .ok (.iaload, 1) := by decide +kernel
theorem dL_pays_69 : decode cL_pays 69 = .ok (.iload 5, 2) := by decide +kernel
theorem dL_pays_71 : decode cL_pays 71 = .ok (.isub, 1) := by decide +kernel
theorem dL_pays_72 : decode cL_pays 72 = .ok (.iastore, 1) := by decide +kernel
theorem dL_pays_73 : decode cL_pays 73 = .ok (.aload_n 1, 1) := by decide +kernel
theorem dL_pays_74 : decode cL_pays 74 = .ok (.bipush 24, 2) := by decide +kernel
theorem dL_pays_76 : decode cL_pays 76 = .ok (.iload 4, 2) := by decide +kernel
theorem dL_pays_78 : decode cL_pays 78 = .ok (.iadd, 1) := by decide +kernel
theorem dL_pays_79 : decode cL_pays 79 = .ok (.iaload, 1) := by decide +kernel
theorem dL_pays_80 : decode cL_pays 80 = .ok (.ifCond .ne 13, 3) := by decide +kernel
theorem dL_pays_83 : decode cL_pays 83 = .ok (.aload_n 0, 1) := by decide +kernel
theorem dL_pays_84 : decode cL_pays 84 = .ok (.aload_n 2, 1) := by decide +kernel
theorem dL_pays_85 : decode cL_pays 85 = .ok (.aload_n 3, 1) := by decide +kernel
theorem dL_pays_86 : decode cL_pays 86 = .ok (.iload 4, 2) := by decide +kernel
theorem dL_pays_88 : decode cL_pays 88 = .ok (.bipush 6, 2) := by decide +kernel
theorem dL_pays_90 : decode cL_pays 90 = .ok (.invokestatic 17, 3) := by decide +kernel
theorem dL_pays_93 : decode cL_pays 93 = .ok (.aload_n 1, 1) := by decide +kernel
theorem dL_pays_94 : decode cL_pays 94 = .ok (.bipush 24, 2) := by decide +kernel
theorem dL_pays_96 : decode cL_pays 96 = .ok (.iload 4, 2) := by decide +kernel
theorem dL_pays_98 : decode cL_pays 98 = .ok (.iadd, 1) := by decide +kernel
theorem dL_pays_99 : decode cL_pays 99 = .ok (.iaload, 1) := by decide +kernel
theorem dL_pays_100 : decode cL_pays 100 = .ok (.ireturn, 1) := by decide +kernel
theorem dL_does_0 : decode cL_does 0 = .ok (.iload_n 1, 1) := by decide +kernel
theorem dL_does_1 : decode cL_does 1 = .ok (.ifCond .ne 12, 3) := by decide +kernel
theorem dL_does_4 : decode cL_does 4 = .ok (.aload_n 0, 1) := by decide +kernel
theorem dL_does_5 : decode cL_does 5 = .ok (.iload_n 2, 1) := by decide +kernel
theorem dL_does_6 : decode cL_does 6 = .ok (.iload_n 3, 1) := by decide +kernel
theorem dL_does_7 : decode cL_does 7 = .ok (.invokevirtual 25, 3) := by decide +kernel
theorem dL_does_10 : decode cL_does 10 = .ok (.goto 60, 3) := by decide +kernel
theorem dL_does_13 : decode cL_does 13 = .ok (.iload_n 1, 1) := by decide +kernel
theorem dL_does_14 : decode cL_does 14 = .ok (.iconst 1, 1) := by decide +kernel
theorem dL_does_15 : decode cL_does 15 = .ok (.if_icmp .ne 12, 3) := by decide +kernel
theorem dL_does_18 : decode cL_does 18 = .ok (.aload_n 0, 1) := by decide +kernel
theorem dL_does_19 : decode cL_does 19 = .ok (.iload_n 2, 1) := by decide +kernel
theorem dL_does_20 : decode cL_does 20 = .ok (.iload_n 3, 1) := by decide +kernel
theorem dL_does_21 : decode cL_does 21 = .ok (.invokevirtual 31, 3) := by decide +kernel
theorem dL_does_24 : decode cL_does 24 = .ok (.goto 46, 3) := by decide +kernel
theorem dL_does_27 : decode cL_does 27 = .ok (.iload_n 1, 1) := by decide +kernel
theorem dL_does_28 : decode cL_does 28 = .ok (.iconst 2, 1) := by decide +kernel
theorem dL_does_29 : decode cL_does 29 = .ok (.if_icmp .ne 12, 3) := by decide +kernel
theorem dL_does_32 : decode cL_does 32 = .ok (.aload_n 0, 1) := by decide +kernel
theorem dL_does_33 : decode cL_does 33 = .ok (.iload_n 2, 1) := by decide +kernel
theorem dL_does_34 : decode cL_does 34 = .ok (.iload_n 3, 1) := by decide +kernel
theorem dL_does_35 : decode cL_does 35 = .ok (.invokevirtual 34, 3) := by decide +kernel
theorem dL_does_38 : decode cL_does 38 = .ok (.goto 32, 3) := by decide +kernel
theorem dL_does_41 : decode cL_does 41 = .ok (.iload_n 1, 1) := by decide +kernel
theorem dL_does_42 : decode cL_does 42 = .ok (.iconst 3, 1) := by decide +kernel
theorem dL_does_43 : decode cL_does 43 = .ok (.if_icmp .ne 12, 3) := by decide +kernel
theorem dL_does_46 : decode cL_does 46 = .ok (.aload_n 0, 1) := by decide +kernel
theorem dL_does_47 : decode cL_does 47 = .ok (.iload_n 2, 1) := by decide +kernel
theorem dL_does_48 : decode cL_does 48 = .ok (.iload_n 3, 1) := by decide +kernel
theorem dL_does_49 : decode cL_does 49 = .ok (.invokevirtual 37, 3) := by decide +kernel
theorem dL_does_52 : decode cL_does 52 = .ok (.goto 18, 3) := by decide +kernel
theorem dL_does_55 : decode cL_does 55 = .ok (.aload_n 0, 1) := by decide +kernel
theorem dL_does_56 : decode cL_does 56 = .ok (.iload_n 2, 1) := by decide +kernel
theorem dL_does_57 : decode cL_does 57 = .ok (.iload_n 3, 1) := by decide +kernel
theorem dL_does_58 : decode cL_does 58 = .ok (.iconst 1, 1) := by decide +kernel
theorem dL_does_59 : decode cL_does 59 = .ok (.if_icmp .ne 7, 3) := by decide +kernel
theorem dL_does_62 : decode cL_does 62 = .ok (.iconst 1, 1) := by decide +kernel
theorem dL_does_63 : decode cL_does 63 = .ok (.goto 4, 3) := by decide +kernel
theorem dL_does_66 : decode cL_does 66 = .ok (.iconst 0, 1) := by decide +kernel
theorem dL_does_67 : decode cL_does 67 = .ok (.invokevirtual 40, 3) := by decide +kernel
theorem dL_does_70 : decode cL_does 70 = .ok (.ireturn, 1) := by decide +kernel
theorem dL_does_71 : decode cL_does 71 = .ok (.astore 4, 2) := by decide +kernel
theorem dL_does_73 : decode cL_does 73 = .ok (.bipush (-13), 2) := by decide +kernel
theorem dL_does_75 : decode cL_does 75 = .ok (.ireturn, 1) := by decide +kernel
theorem dL_isEngine_0 : decode cL_isEngine 0 = .ok (.iconst 0, 1) := by decide +kernel
theorem dL_isEngine_1 : decode cL_isEngine 1 = .ok (.istore 9, 2) := by decide +kernel
theorem dL_isEngine_3 : decode cL_isEngine 3 = .ok (.aload_n 0, 1) := by decide +kernel
theorem dL_isEngine_4 : decode cL_isEngine 4 = .ok (.invokevirtual 46, 3) := by decide +kernel
theorem dL_isEngine_7 : decode cL_isEngine 7 = .ok (.aload_n 1, 1) := by decide +kernel
theorem dL_isEngine_8 : decode cL_isEngine 8 = .ok (.iconst 0, 1) := by decide +kernel
theorem dL_isEngine_9 : decode cL_isEngine 9 = .ok (.iaload, 1) := by decide +kernel
theorem dL_isEngine_10 : decode cL_isEngine 10 = .ok (.if_icmp .ne 60, 3) := by decide +kernel
theorem dL_isEngine_13 : decode cL_isEngine 13 = .ok (.aload_n 0, 1) := by decide +kernel
theorem dL_isEngine_14 : decode cL_isEngine 14 = .ok (.invokevirtual 50, 3) := by decide +kernel
theorem dL_isEngine_17 : decode cL_isEngine 17 = .ok (.aload_n 1, 1) := by decide +kernel
theorem dL_isEngine_18 : decode cL_isEngine 18 = .ok (.iconst 2, 1) := by decide +kernel
theorem dL_isEngine_19 : decode cL_isEngine 19 = .ok (.iaload, 1) := by decide +kernel
theorem dL_isEngine_20 : decode cL_isEngine 20 = .ok (.if_icmp .ne 50, 3) := by decide +kernel
theorem dL_isEngine_23 : decode cL_isEngine 23 = .ok (.aload_n 0, 1) := by decide +kernel
theorem dL_isEngine_24 : decode cL_isEngine 24 = .ok (.invokevirtual 53, 3) := by decide +kernel
theorem dL_isEngine_27 : decode cL_isEngine 27 = .ok (.aload_n 1, 1) := by decide +kernel
theorem dL_isEngine_28 : decode cL_isEngine 28 = .ok (.iconst 5, 1) := by decide +kernel
theorem dL_isEngine_29 : decode cL_isEngine 29 = .ok (.iaload, 1) := by decide +kernel
theorem dL_isEngine_30 : decode cL_isEngine 30 = .ok (.if_icmp .ne 40, 3) := by decide +kernel
theorem dL_isEngine_33 : decode cL_isEngine 33 = .ok (.aload_n 0, 1) := by decide +kernel
theorem dL_isEngine_34 : decode cL_isEngine 34 = .ok (.invokevirtual 56, 3) := by decide +kernel
theorem dL_isEngine_37 : decode cL_isEngine 37 = .ok (.aload_n 1, 1) := by decide +kernel
theorem dL_isEngine_38 : decode cL_isEngine 38 = .ok (.bipush 6, 2) := by decide +kernel
theorem dL_isEngine_40 : decode cL_isEngine 40 = .ok (.iaload, 1) := by decide +kernel
theorem dL_isEngine_41 : decode cL_isEngine 41 = .ok (.if_icmp .ne 29, 3) := by decide +kernel
theorem dL_isEngine_44 : decode cL_isEngine 44 = .ok (.aload_n 0, 1) := by decide +kernel
theorem dL_isEngine_45 : decode cL_isEngine 45 = .ok (.invokevirtual 59, 3) := by decide +kernel
theorem dL_isEngine_48 : decode cL_isEngine 48 = .ok (.aload_n 1, 1) := by decide +kernel
theorem dL_isEngine_49 : decode cL_isEngine 49 = .ok (.bipush 7, 2) := by decide +kernel
theorem dL_isEngine_51 : decode cL_isEngine 51 = .ok (.iaload, 1) := by decide +kernel
theorem dL_isEngine_52 : decode cL_isEngine 52 = .ok (.if_icmp .ne 18, 3) := by decide +kernel
theorem dL_isEngine_55 : decode cL_isEngine 55 = .ok (.aload_n 0, 1) := by decide +kernel
theorem dL_isEngine_56 : decode cL_isEngine 56 = .ok (.invokevirtual 62, 3) := by decide +kernel
theorem dL_isEngine_59 : decode cL_isEngine 59 = .ok (.aload_n 1, 1) := by decide +kernel
theorem dL_isEngine_60 : decode cL_isEngine 60 = .ok (.bipush 8, 2) := by decide +kernel
theorem dL_isEngine_62 : decode cL_isEngine 62 = .ok (.iaload, 1) := by decide +kernel
theorem dL_isEngine_63 : decode cL_isEngine 63 = .ok (.if_icmp .ne 7, 3) := by decide +kernel
theorem dL_isEngine_66 : decode cL_isEngine 66 = .ok (.iconst 1, 1) := by decide +kernel
theorem dL_isEngine_67 : decode cL_isEngine 67 = .ok (.goto 4, 3) := by decide +kernel
theorem dL_isEngine_70 : decode cL_isEngine 70 = .ok (.iconst 0, 1) := by decide +kernel
theorem dL_isEngine_71 : decode cL_isEngine 71 = .ok (.istore 10, 2) := by decide +kernel
theorem dL_isEngine_73 : decode cL_isEngine 73 = .ok (.iconst 0, 1) := by decide +kernel
theorem dL_isEngine_74 : decode cL_isEngine 74 = .ok (.istore 11, 2) := by decide +kernel
theorem dL_isEngine_76 : decode cL_isEngine 76 = .ok (.iload 11, 2) := by decide +kernel
theorem dL_isEngine_78 : decode cL_isEngine 78 = .ok (.bipush 12, 2) := by decide +kernel
theorem dL_isEngine_80 : decode cL_isEngine 80 = .ok (.if_icmp .ge 45, 3) := by decide +kernel
theorem dL_isEngine_83 : decode cL_isEngine 83 = .ok (.iload 10, 2) := by decide +kernel
theorem dL_isEngine_85 : decode cL_isEngine 85 = .ok (.ifCond .eq 40, 3) := by decide +kernel
theorem dL_isEngine_88 : decode cL_isEngine 88 = .ok (.aload_n 0, 1) := by decide +kernel
theorem dL_isEngine_89 : decode cL_isEngine 89 = .ok (.aload_n 1, 1) := by decide +kernel
theorem dL_isEngine_90 : decode cL_isEngine 90 = .ok (.iconst 0, 1) := by decide +kernel
theorem dL_isEngine_91 : decode cL_isEngine 91 = .ok (.iaload, 1) := by decide +kernel
theorem dL_isEngine_92 : decode cL_isEngine 92 = .ok (.iload 11, 2) := by decide +kernel
theorem dL_isEngine_94 : decode cL_isEngine 94 = .ok (.iadd, 1) := by decide +kernel
theorem dL_isEngine_95 : decode cL_isEngine 95 = .ok (.invokevirtual 65, 3) := by decide +kernel
theorem dL_isEngine_98 : decode cL_isEngine 98 = .ok (.aload_n 1, 1) := by decide +kernel
theorem dL_isEngine_99 : decode cL_isEngine 99 = .ok (.aload_n 2, 1) := by decide +kernel
theorem dL_isEngine_100 : decode cL_isEngine 100 = .ok (.aload_n 1, 1) := by decide +kernel
theorem dL_isEngine_101 : decode cL_isEngine 101 = .ok (.iconst 0, 1) := by decide +kernel
theorem dL_isEngine_102 : decode cL_isEngine 102 = .ok (.iaload, 1) := by decide +kernel
theorem dL_isEngine_103 : decode cL_isEngine 103 = .ok (.iload 11, 2) := by decide +kernel
theorem dL_isEngine_105 : decode cL_isEngine 105 = .ok (.iadd, 1) := by decide +kernel
theorem dL_isEngine_106 : decode cL_isEngine 106 = .ok (.invokestatic 7, 3) := by decide +kernel
theorem dL_isEngine_109 : decode cL_isEngine 109 = .ok (.if_icmp .ne 7, 3) := by decide +kernel
theorem dL_isEngine_112 : decode cL_isEngine 112 = .ok (.iconst 1, 1) := by decide +kernel
theorem dL_isEngine_113 : decode cL_isEngine 113 = .ok (.goto 4, 3) := by decide +kernel
theorem dL_isEngine_116 : decode cL_isEngine 116 = .ok (.iconst 0, 1) := by decide +kernel
theorem dL_isEngine_117 : decode cL_isEngine 117 = .ok (.istore 10, 2) := by decide +kernel
theorem dL_isEngine_119 : decode cL_isEngine 119 = .ok (.iinc 11 1, 3) := by decide +kernel
theorem dL_isEngine_122 : decode cL_isEngine 122 = .ok (.goto (-46), 3) := by decide +kernel
theorem dL_isEngine_125 : decode cL_isEngine 125 = .ok (.iconst 0, 1) := by decide +kernel
theorem dL_isEngine_126 : decode cL_isEngine 126 = .ok (.istore 11, 2) := by decide +kernel
theorem dL_isEngine_128 : decode cL_isEngine 128 = .ok (.iload 11, 2) := by decide +kernel
theorem dL_isEngine_130 : decode cL_isEngine 130 = .ok (.bipush 8, 2) := by decide +kernel
theorem dL_isEngine_132 : decode cL_isEngine 132 = .ok (.if_icmp .ge 189, 3) := by decide +kernel
theorem dL_isEngine_135 : decode cL_isEngine 135 = .ok (.iload 10, 2) := by decide +kernel
theorem dL_isEngine_137 : decode cL_isEngine 137 = .ok (.ifCond .eq 184, 3) := by decide +kernel
theorem dL_isEngine_140 : decode cL_isEngine 140 = .ok (.iconst 2, 1) := by decide +kernel
theorem dL_isEngine_141 : decode cL_isEngine 141 = .ok (.istore 12, 2) := by decide +kernel
theorem dL_isEngine_143 : decode cL_isEngine 143 = .ok (.iconst 0, 1) := by decide +kernel
theorem dL_isEngine_144 : decode cL_isEngine 144 = .ok (.istore 13, 2) := by decide +kernel
theorem dL_isEngine_146 : decode cL_isEngine 146 = .ok (.iconst 0, 1) := by decide +kernel
theorem dL_isEngine_147 : decode cL_isEngine 147 = .ok (.istore 14, 2) := by decide +kernel
theorem dL_isEngine_149 : decode cL_isEngine 149 = .ok (.iload 14, 2) := by decide +kernel
theorem dL_isEngine_151 : decode cL_isEngine 151 = .ok (.aload_n 1, 1) := by decide +kernel
theorem dL_isEngine_152 : decode cL_isEngine 152 = .ok (.iconst 2, 1) := by decide +kernel
theorem dL_isEngine_153 : decode cL_isEngine 153 = .ok (.iaload, 1) := by decide +kernel
theorem dL_isEngine_154 : decode cL_isEngine 154 = .ok (.if_icmp .ge 127, 3) := by decide +kernel
theorem dL_isEngine_157 : decode cL_isEngine 157 = .ok (.aload 4, 2) := by decide +kernel
theorem dL_isEngine_159 : decode cL_isEngine 159 = .ok (.iload 14, 2) := by decide +kernel
theorem dL_isEngine_161 : decode cL_isEngine 161 = .ok (.iaload, 1) := by decide +kernel
theorem dL_isEngine_162 : decode cL_isEngine 162 = .ok (.iconst 3, 1) := by decide +kernel
theorem dL_isEngine_163 : decode cL_isEngine 163 = .ok (.if_icmp .eq 12, 3) := by decide +kernel
theorem dL_isEngine_166 : decode cL_isEngine 166 = .ok (.aload 4, 2) := by decide +kernel
theorem dL_isEngine_168 : decode cL_isEngine 168 = .ok (.iload 14, 2) := by decide +kernel
theorem dL_isEngine_170 : decode cL_isEngine 170 = .ok (.iaload, 1) := by decide +kernel
theorem dL_isEngine_171 : decode cL_isEngine 171 = .ok (.iconst 5, 1) := by decide +kernel
theorem dL_isEngine_172 : decode cL_isEngine 172 = .ok (.if_icmp .ne 7, 3) := by decide +kernel
theorem dL_isEngine_175 : decode cL_isEngine 175 = .ok (.iconst 0, 1) := by decide +kernel
theorem dL_isEngine_176 : decode cL_isEngine 176 = .ok (.goto 34, 3) := by decide +kernel
theorem dL_isEngine_179 : decode cL_isEngine 179 = .ok (.aload 4, 2) := by decide +kernel
theorem dL_isEngine_181 : decode cL_isEngine 181 = .ok (.iload 14, 2) := by decide +kernel
theorem dL_isEngine_183 : decode cL_isEngine 183 = .ok (.iaload, 1) := by decide +kernel
theorem dL_isEngine_184 : decode cL_isEngine 184 = .ok (.iconst 2, 1) := by decide +kernel
theorem dL_isEngine_185 : decode cL_isEngine 185 = .ok (.if_icmp .eq 20, 3) := by decide +kernel
theorem dL_isEngine_188 : decode cL_isEngine 188 = .ok (.aload 4, 2) := by decide +kernel
theorem dL_isEngine_190 : decode cL_isEngine 190 = .ok (.iload 14, 2) := by decide +kernel
theorem dL_isEngine_192 : decode cL_isEngine 192 = .ok (.iaload, 1) := by decide +kernel
theorem dL_isEngine_193 : decode cL_isEngine 193 = .ok (.iconst 4, 1) := by decide +kernel
theorem dL_isEngine_194 : decode cL_isEngine 194 = .ok (.if_icmp .ne 15, 3) := by decide +kernel
theorem dL_isEngine_197 : decode cL_isEngine 197 = .ok (.aload 6, 2) := by decide +kernel
theorem dL_isEngine_199 : decode cL_isEngine 199 = .ok (.iload 14, 2) := by decide +kernel
theorem dL_isEngine_201 : decode cL_isEngine 201 = .ok (.iaload, 1) := by decide +kernel
theorem dL_isEngine_202 : decode cL_isEngine 202 = .ok (.ifCond .le 7, 3) := by decide +kernel
theorem dL_isEngine_205 : decode cL_isEngine 205 = .ok (.iconst 1, 1) := by decide +kernel
theorem dL_isEngine_206 : decode cL_isEngine 206 = .ok (.goto 4, 3) := by decide +kernel
theorem dL_isEngine_209 : decode cL_isEngine 209 = .ok (.iconst 2, 1) := by decide +kernel
theorem dL_isEngine_210 : decode cL_isEngine 210 = .ok (.istore 15, 2) := by decide +kernel
theorem dL_isEngine_212 : decode cL_isEngine 212 = .ok (.aload_n 3, 1) := by decide +kernel
theorem dL_isEngine_213 : decode cL_isEngine 213 = .ok (.iload 14, 2) := by decide +kernel
theorem dL_isEngine_215 : decode cL_isEngine 215 = .ok (.iaload, 1) := by decide +kernel
theorem dL_isEngine_216 : decode cL_isEngine 216 = .ok (.iload 11, 2) := by decide +kernel
theorem dL_isEngine_218 : decode cL_isEngine 218 = .ok (.if_icmp .ne 15, 3) := by decide +kernel
theorem dL_isEngine_221 : decode cL_isEngine 221 = .ok (.iload 15, 2) := by decide +kernel
theorem dL_isEngine_223 : decode cL_isEngine 223 = .ok (.iload 12, 2) := by decide +kernel
theorem dL_isEngine_225 : decode cL_isEngine 225 = .ok (.if_icmp .ge 8, 3) := by decide +kernel
theorem dL_isEngine_228 : decode cL_isEngine 228 = .ok (.iload 15, 2) := by decide +kernel
theorem dL_isEngine_230 : decode cL_isEngine 230 = .ok (.goto 5, 3) := by decide +kernel
theorem dL_isEngine_233 : decode cL_isEngine 233 = .ok (.iload 12, 2) := by decide +kernel
theorem dL_isEngine_235 : decode cL_isEngine 235 = .ok (.istore 12, 2) := by decide +kernel
theorem dL_isEngine_237 : decode cL_isEngine 237 = .ok (.iload 13, 2) := by decide +kernel
theorem dL_isEngine_239 : decode cL_isEngine 239 = .ok (.aload_n 3, 1) := by decide +kernel
theorem dL_isEngine_240 : decode cL_isEngine 240 = .ok (.iload 14, 2) := by decide +kernel
theorem dL_isEngine_242 : decode cL_isEngine 242 = .ok (.iaload, 1) := by decide +kernel
theorem dL_isEngine_243 : decode cL_isEngine 243 = .ok (.iload 11, 2) := by decide +kernel
theorem dL_isEngine_245 : decode cL_isEngine 245 = .ok (.if_icmp .ne 26, 3) := by decide +kernel
theorem dL_isEngine_248 : decode cL_isEngine 248 = .ok (.aload 4, 2) := by decide +kernel
theorem dL_isEngine_250 : decode cL_isEngine 250 = .ok (.iload 14, 2) := by decide +kernel
theorem dL_isEngine_252 : decode cL_isEngine 252 = .ok (.iaload, 1) := by decide +kernel
theorem dL_isEngine_253 : decode cL_isEngine 253 = .ok (.iload 8, 2) := by decide +kernel
theorem dL_isEngine_255 : decode cL_isEngine 255 = .ok (.bipush 7, 2) := by decide +kernel
theorem dL_isEngine_257 : decode cL_isEngine 257 = .ok (.irem, 1) := by decide +kernel
theorem dL_isEngine_258 : decode cL_isEngine 258 = .ok (.if_icmp .ne 13, 3) := by decide +kernel
theorem dL_isEngine_261 : decode cL_isEngine 261 = .ok (.aload_n 3, 1) := by decide +kernel
theorem dL_isEngine_262 : decode cL_isEngine 262 = .ok (.bipush 24, 2) := by decide +kernel
theorem dL_isEngine_264 : decode cL_isEngine 264 = .ok (.iload 14, 2) := by decide +kernel
theorem dL_isEngine_266 : decode cL_isEngine 266 = .ok (.iadd, 1) := by decide +kernel
theorem dL_isEngine_267 : decode cL_isEngine 267 = .ok (.iaload, 1) := by decide +kernel
theorem dL_isEngine_268 : decode cL_isEngine 268 = .ok (.goto 4, 3) := by decide +kernel
theorem dL_isEngine_271 : decode cL_isEngine 271 = .ok (.iconst 0, 1) := by decide +kernel
theorem dL_isEngine_272 : decode cL_isEngine 272 = .ok (.iadd, 1) := by decide +kernel
theorem dL_isEngine_273 : decode cL_isEngine 273 = .ok (.istore 13, 2) := by decide +kernel
theorem dL_isEngine_275 : decode cL_isEngine 275 = .ok (.iinc 14 1, 3) := by decide +kernel
theorem dL_isEngine_278 : decode cL_isEngine 278 = .ok (.goto (-129), 3) := by decide +kernel
theorem dL_isEngine_281 : decode cL_isEngine 281 = .ok (.aload_n 0, 1) := by decide +kernel
theorem dL_isEngine_282 : decode cL_isEngine 282 = .ok (.iload 11, 2) := by decide +kernel
theorem dL_isEngine_284 : decode cL_isEngine 284 = .ok (.invokevirtual 69, 3) := by decide +kernel
theorem dL_isEngine_287 : decode cL_isEngine 287 = .ok (.iload 12, 2) := by decide +kernel
theorem dL_isEngine_289 : decode cL_isEngine 289 = .ok (.if_icmp .ne 23, 3) := by decide +kernel
theorem dL_isEngine_292 : decode cL_isEngine 292 = .ok (.aload_n 0, 1) := by decide +kernel
theorem dL_isEngine_293 : decode cL_isEngine 293 = .ok (.iload 11, 2) := by decide +kernel
theorem dL_isEngine_295 : decode cL_isEngine 295 = .ok (.iload 8, 2) := by decide +kernel
theorem dL_isEngine_297 : decode cL_isEngine 297 = .ok (.bipush 7, 2) := by decide +kernel
theorem dL_isEngine_299 : decode cL_isEngine 299 = .ok (.irem, 1) := by decide +kernel
theorem dL_isEngine_300 : decode cL_isEngine 300 = .ok (.invokevirtual 73, 3) := by decide +kernel
theorem dL_isEngine_303 : decode cL_isEngine 303 = .ok (.iload 13, 2) := by decide +kernel
theorem dL_isEngine_305 : decode cL_isEngine 305 = .ok (.if_icmp .ne 7, 3) := by decide +kernel
theorem dL_isEngine_308 : decode cL_isEngine 308 = .ok (.iconst 1, 1) := by decide +kernel
theorem dL_isEngine_309 : decode cL_isEngine 309 = .ok (.goto 4, 3) := by decide +kernel
theorem dL_isEngine_312 : decode cL_isEngine 312 = .ok (.iconst 0, 1) := by decide +kernel
theorem dL_isEngine_313 : decode cL_isEngine 313 = .ok (.istore 10, 2) := by decide +kernel
theorem dL_isEngine_315 : decode cL_isEngine 315 = .ok (.iinc 11 1, 3) := by decide +kernel
theorem dL_isEngine_318 : decode cL_isEngine 318 = .ok (.goto (-190), 3) := by decide +kernel
theorem dL_isEngine_321 : decode cL_isEngine 321 = .ok (.iconst 0, 1) := by decide +kernel
theorem dL_isEngine_322 : decode cL_isEngine 322 = .ok (.istore 11, 2) := by decide +kernel
theorem dL_isEngine_324 : decode cL_isEngine 324 = .ok (.iload 11, 2) := by decide +kernel
theorem dL_isEngine_326 : decode cL_isEngine 326 = .ok (.aload_n 1, 1) := by decide +kernel
theorem dL_isEngine_327 : decode cL_isEngine 327 = .ok (.iconst 2, 1) := by decide +kernel
theorem dL_isEngine_328 : decode cL_isEngine 328 = .ok (.iaload, 1) := by decide +kernel
theorem dL_isEngine_329 : decode cL_isEngine 329 = .ok (.if_icmp .ge 184, 3) := by decide +kernel
theorem dL_isEngine_332 : decode cL_isEngine 332 = .ok (.iload 10, 2) := by decide +kernel
theorem dL_isEngine_334 : decode cL_isEngine 334 = .ok (.ifCond .eq 179, 3) := by decide +kernel
theorem dL_isEngine_337 : decode cL_isEngine 337 = .ok (.iload 9, 2) := by decide +kernel
theorem dL_isEngine_339 : decode cL_isEngine 339 = .ok (.aload_n 3, 1) := by decide +kernel
theorem dL_isEngine_340 : decode cL_isEngine 340 = .ok (.bipush 12, 2) := by decide +kernel
theorem dL_isEngine_342 : decode cL_isEngine 342 = .ok (.iload 11, 2) := by decide +kernel
theorem dL_isEngine_344 : decode cL_isEngine 344 = .ok (.iadd, 1) := by decide +kernel
theorem dL_isEngine_345 : decode cL_isEngine 345 = .ok (.iaload, 1) := by decide +kernel
theorem dL_isEngine_346 : decode cL_isEngine 346 = .ok (.iadd, 1) := by decide +kernel
theorem dL_isEngine_347 : decode cL_isEngine 347 = .ok (.istore 9, 2) := by decide +kernel
theorem dL_isEngine_349 : decode cL_isEngine 349 = .ok (.aload_n 0, 1) := by decide +kernel
theorem dL_isEngine_350 : decode cL_isEngine 350 = .ok (.iload 11, 2) := by decide +kernel
theorem dL_isEngine_352 : decode cL_isEngine 352 = .ok (.invokevirtual 76, 3) := by decide +kernel
theorem dL_isEngine_355 : decode cL_isEngine 355 = .ok (.aload 4, 2) := by decide +kernel
theorem dL_isEngine_357 : decode cL_isEngine 357 = .ok (.iload 11, 2) := by decide +kernel
theorem dL_isEngine_359 : decode cL_isEngine 359 = .ok (.iaload, 1) := by decide +kernel
theorem dL_isEngine_360 : decode cL_isEngine 360 = .ok (.if_icmp .ne 96, 3) := by decide +kernel
theorem dL_isEngine_363 : decode cL_isEngine 363 = .ok (.aload_n 0, 1) := by decide +kernel
theorem dL_isEngine_364 : decode cL_isEngine 364 = .ok (.iload 11, 2) := by decide +kernel
theorem dL_isEngine_366 : decode cL_isEngine 366 = .ok (.invokevirtual 79, 3) := by decide +kernel
theorem dL_isEngine_369 : decode cL_isEngine 369 = .ok (.aload_n 3, 1) := by decide +kernel
theorem dL_isEngine_370 : decode cL_isEngine 370 = .ok (.bipush 24, 2) := by decide +kernel
theorem dL_isEngine_372 : decode cL_isEngine 372 = .ok (.iload 11, 2) := by decide +kernel
theorem dL_isEngine_374 : decode cL_isEngine 374 = .ok (.iadd, 1) := by decide +kernel
theorem dL_isEngine_375 : decode cL_isEngine 375 = .ok (.iaload, 1) := by decide +kernel
theorem dL_isEngine_376 : decode cL_isEngine 376 = .ok (.if_icmp .ne 80, 3) := by decide +kernel
theorem dL_isEngine_379 : decode cL_isEngine 379 = .ok (.aload_n 0, 1) := by decide +kernel
theorem dL_isEngine_380 : decode cL_isEngine 380 = .ok (.iload 11, 2) := by decide +kernel
theorem dL_isEngine_382 : decode cL_isEngine 382 = .ok (.invokevirtual 82, 3) := by decide +kernel
theorem dL_isEngine_385 : decode cL_isEngine 385 = .ok (.aload 4, 2) := by decide +kernel
theorem dL_isEngine_387 : decode cL_isEngine 387 = .ok (.bipush 24, 2) := by decide +kernel
theorem dL_isEngine_389 : decode cL_isEngine 389 = .ok (.iload 11, 2) := by decide +kernel
theorem dL_isEngine_391 : decode cL_isEngine 391 = .ok (.iadd, 1) := by decide +kernel
theorem dL_isEngine_392 : decode cL_isEngine 392 = .ok (.iaload, 1) := by decide +kernel
theorem dL_isEngine_393 : decode cL_isEngine 393 = .ok (.if_icmp .ne 63, 3) := by decide +kernel
theorem dL_isEngine_396 : decode cL_isEngine 396 = .ok (.aload_n 0, 1) := by decide +kernel
theorem dL_isEngine_397 : decode cL_isEngine 397 = .ok (.iload 11, 2) := by decide +kernel
theorem dL_isEngine_399 : decode cL_isEngine 399 = .ok (.invokevirtual 85, 3) := by decide +kernel
theorem dL_isEngine_402 : decode cL_isEngine 402 = .ok (.aload 6, 2) := by decide +kernel
theorem dL_isEngine_404 : decode cL_isEngine 404 = .ok (.bipush 24, 2) := by decide +kernel
theorem dL_isEngine_406 : decode cL_isEngine 406 = .ok (.iload 11, 2) := by decide +kernel
theorem dL_isEngine_408 : decode cL_isEngine 408 = .ok (.iadd, 1) := by decide +kernel
theorem dL_isEngine_409 : decode cL_isEngine 409 = .ok (.iaload, 1) := by decide +kernel
theorem dL_isEngine_410 : decode cL_isEngine 410 = .ok (.if_icmp .ne 46, 3) := by decide +kernel
theorem dL_isEngine_413 : decode cL_isEngine 413 = .ok (.aload_n 0, 1) := by decide +kernel
theorem dL_isEngine_414 : decode cL_isEngine 414 = .ok (.iload 11, 2) := by decide +kernel
theorem dL_isEngine_416 : decode cL_isEngine 416 = .ok (.invokevirtual 88, 3) := by decide +kernel
theorem dL_isEngine_419 : decode cL_isEngine 419 = .ok (.aload 4, 2) := by decide +kernel
theorem dL_isEngine_421 : decode cL_isEngine 421 = .ok (.iload 11, 2) := by decide +kernel
theorem dL_isEngine_423 : decode cL_isEngine 423 = .ok (.iaload, 1) := by decide +kernel
theorem dL_isEngine_424 : decode cL_isEngine 424 = .ok (.iconst 1, 1) := by decide +kernel
theorem dL_isEngine_425 : decode cL_isEngine 425 = .ok (.if_icmp .eq 12, 3) := by decide +kernel
theorem dL_isEngine_428 : decode cL_isEngine 428 = .ok (.aload 4, 2) := by decide +kernel
theorem dL_isEngine_430 : decode cL_isEngine 430 = .ok (.iload 11, 2) := by decide +kernel
theorem dL_isEngine_432 : decode cL_isEngine 432 = .ok (.iaload, 1) := by decide +kernel
theorem dL_isEngine_433 : decode cL_isEngine 433 = .ok (.iconst 4, 1) := by decide +kernel
theorem dL_isEngine_434 : decode cL_isEngine 434 = .ok (.if_icmp .le 7, 3) := by decide +kernel
theorem dL_isEngine_437 : decode cL_isEngine 437 = .ok (.iconst (-1), 1) := by decide +kernel
theorem dL_isEngine_438 : decode cL_isEngine 438 = .ok (.goto 11, 3) := by decide +kernel
theorem dL_isEngine_441 : decode cL_isEngine 441 = .ok (.aload 4, 2) := by decide +kernel
theorem dL_isEngine_443 : decode cL_isEngine 443 = .ok (.bipush 12, 2) := by decide +kernel
theorem dL_isEngine_445 : decode cL_isEngine 445 = .ok (.iload 11, 2) := by decide +kernel
theorem dL_isEngine_447 : decode cL_isEngine 447 = .ok (.iadd, 1) := by decide +kernel
theorem dL_isEngine_448 : decode cL_isEngine 448 = .ok (.iaload, 1) := by decide +kernel
theorem dL_isEngine_449 : decode cL_isEngine 449 = .ok (.if_icmp .ne 7, 3) := by decide +kernel
theorem dL_isEngine_452 : decode cL_isEngine 452 = .ok (.iconst 1, 1) := by decide +kernel
theorem dL_isEngine_453 : decode cL_isEngine 453 = .ok (.goto 4, 3) := by decide +kernel
theorem dL_isEngine_456 : decode cL_isEngine 456 = .ok (.iconst 0, 1) := by decide +kernel
theorem dL_isEngine_457 : decode cL_isEngine 457 = .ok (.istore 10, 2) := by decide +kernel
theorem dL_isEngine_459 : decode cL_isEngine 459 = .ok (.iconst 1, 1) := by decide +kernel
theorem dL_isEngine_460 : decode cL_isEngine 460 = .ok (.istore 12, 2) := by decide +kernel
theorem dL_isEngine_462 : decode cL_isEngine 462 = .ok (.iload 12, 2) := by decide +kernel
theorem dL_isEngine_464 : decode cL_isEngine 464 = .ok (.iconst 5, 1) := by decide +kernel
theorem dL_isEngine_465 : decode cL_isEngine 465 = .ok (.if_icmp .ge 42, 3) := by decide +kernel
theorem dL_isEngine_468 : decode cL_isEngine 468 = .ok (.iload 10, 2) := by decide +kernel
theorem dL_isEngine_470 : decode cL_isEngine 470 = .ok (.ifCond .eq 28, 3) := by decide +kernel
theorem dL_isEngine_473 : decode cL_isEngine 473 = .ok (.aload_n 0, 1) := by decide +kernel
theorem dL_isEngine_474 : decode cL_isEngine 474 = .ok (.iload 11, 2) := by decide +kernel
theorem dL_isEngine_476 : decode cL_isEngine 476 = .ok (.iload 12, 2) := by decide +kernel
theorem dL_isEngine_478 : decode cL_isEngine 478 = .ok (.invokevirtual 91, 3) := by decide +kernel
theorem dL_isEngine_481 : decode cL_isEngine 481 = .ok (.aload 5, 2) := by decide +kernel
theorem dL_isEngine_483 : decode cL_isEngine 483 = .ok (.iconst 5, 1) := by decide +kernel
theorem dL_isEngine_484 : decode cL_isEngine 484 = .ok (.iload 11, 2) := by decide +kernel
theorem dL_isEngine_486 : decode cL_isEngine 486 = .ok (.imul, 1) := by decide +kernel
theorem dL_isEngine_487 : decode cL_isEngine 487 = .ok (.iload 12, 2) := by decide +kernel
theorem dL_isEngine_489 : decode cL_isEngine 489 = .ok (.iadd, 1) := by decide +kernel
theorem dL_isEngine_490 : decode cL_isEngine 490 = .ok (.iaload, 1) := by decide +kernel
theorem dL_isEngine_491 : decode cL_isEngine 491 = .ok (.if_icmp .ne 7, 3) := by decide +kernel
theorem dL_isEngine_494 : decode cL_isEngine 494 = .ok (.iconst 1, 1) := by decide +kernel
theorem dL_isEngine_495 : decode cL_isEngine 495 = .ok (.goto 4, 3) := by decide +kernel
theorem dL_isEngine_498 : decode cL_isEngine 498 = .ok (.iconst 0, 1) := by decide +kernel
theorem dL_isEngine_499 : decode cL_isEngine 499 = .ok (.istore 10, 2) := by decide +kernel
theorem dL_isEngine_501 : decode cL_isEngine 501 = .ok (.iinc 12 1, 3) := by decide +kernel
theorem dL_isEngine_504 : decode cL_isEngine 504 = .ok (.goto (-42), 3) := by decide +kernel
theorem dL_isEngine_507 : decode cL_isEngine 507 = .ok (.iinc 11 1, 3) := by decide +kernel
theorem dL_isEngine_510 : decode cL_isEngine 510 = .ok (.goto (-186), 3) := by decide +kernel
theorem dL_isEngine_513 : decode cL_isEngine 513 = .ok (.aload_n 1, 1) := by decide +kernel
theorem dL_isEngine_514 : decode cL_isEngine 514 = .ok (.iconst 0, 1) := by decide +kernel
theorem dL_isEngine_515 : decode cL_isEngine 515 = .ok (.iaload, 1) := by decide +kernel
theorem dL_isEngine_516 : decode cL_isEngine 516 = .ok (.iload 8, 2) := by decide +kernel
theorem dL_isEngine_518 : decode cL_isEngine 518 = .ok (.bipush 9, 2) := by decide +kernel
theorem dL_isEngine_520 : decode cL_isEngine 520 = .ok (.irem, 1) := by decide +kernel
theorem dL_isEngine_521 : decode cL_isEngine 521 = .ok (.isub, 1) := by decide +kernel
theorem dL_isEngine_522 : decode cL_isEngine 522 = .ok (.ifCond .ge 7, 3) := by decide +kernel
theorem dL_isEngine_525 : decode cL_isEngine 525 = .ok (.iconst 0, 1) := by decide +kernel
theorem dL_isEngine_526 : decode cL_isEngine 526 = .ok (.goto 12, 3) := by decide +kernel
theorem dL_isEngine_529 : decode cL_isEngine 529 = .ok (.aload_n 1, 1) := by decide +kernel
theorem dL_isEngine_530 : decode cL_isEngine 530 = .ok (.iconst 0, 1) := by decide +kernel
theorem dL_isEngine_531 : decode cL_isEngine 531 = .ok (.iaload, 1) := by decide +kernel
theorem dL_isEngine_532 : decode cL_isEngine 532 = .ok (.iload 8, 2) := by decide +kernel
theorem dL_isEngine_534 : decode cL_isEngine 534 = .ok (.bipush 9, 2) := by decide +kernel
theorem dL_isEngine_536 : decode cL_isEngine 536 = .ok (.irem, 1) := by decide +kernel
theorem dL_isEngine_537 : decode cL_isEngine 537 = .ok (.isub, 1) := by decide +kernel
theorem dL_isEngine_538 : decode cL_isEngine 538 = .ok (.istore 11, 2) := by decide +kernel
theorem dL_isEngine_540 : decode cL_isEngine 540 = .ok (.iconst 0, 1) := by decide +kernel
theorem dL_isEngine_541 : decode cL_isEngine 541 = .ok (.istore 12, 2) := by decide +kernel
theorem dL_isEngine_543 : decode cL_isEngine 543 = .ok (.iload 12, 2) := by decide +kernel
theorem dL_isEngine_545 : decode cL_isEngine 545 = .ok (.bipush 60, 2) := by decide +kernel
theorem dL_isEngine_547 : decode cL_isEngine 547 = .ok (.if_icmp .ge 58, 3) := by decide +kernel
theorem dL_isEngine_550 : decode cL_isEngine 550 = .ok (.iload 12, 2) := by decide +kernel
theorem dL_isEngine_552 : decode cL_isEngine 552 = .ok (.aload_n 1, 1) := by decide +kernel
theorem dL_isEngine_553 : decode cL_isEngine 553 = .ok (.bipush 8, 2) := by decide +kernel
theorem dL_isEngine_555 : decode cL_isEngine 555 = .ok (.iaload, 1) := by decide +kernel
theorem dL_isEngine_556 : decode cL_isEngine 556 = .ok (.if_icmp .ge 49, 3) := by decide +kernel
theorem dL_isEngine_559 : decode cL_isEngine 559 = .ok (.iload 10, 2) := by decide +kernel
theorem dL_isEngine_561 : decode cL_isEngine 561 = .ok (.ifCond .eq 44, 3) := by decide +kernel
theorem dL_isEngine_564 : decode cL_isEngine 564 = .ok (.aload 7, 2) := by decide +kernel
theorem dL_isEngine_566 : decode cL_isEngine 566 = .ok (.aload_n 1, 1) := by decide +kernel
theorem dL_isEngine_567 : decode cL_isEngine 567 = .ok (.bipush 8, 2) := by decide +kernel
theorem dL_isEngine_569 : decode cL_isEngine 569 = .ok (.iaload, 1) := by decide +kernel
theorem dL_isEngine_570 : decode cL_isEngine 570 = .ok (.iconst 1, 1) := by decide +kernel
theorem dL_isEngine_571 : decode cL_isEngine 571 = .ok (.isub, 1) := by decide +kernel
theorem dL_isEngine_572 : decode cL_isEngine 572 = .ok (.iload 12, 2) := by decide +kernel
theorem dL_isEngine_574 : decode cL_isEngine 574 = .ok (.isub, 1) := by decide +kernel
theorem dL_isEngine_575 : decode cL_isEngine 575 = .ok (.bipush 60, 2) := by decide +kernel
theorem dL_isEngine_577 : decode cL_isEngine 577 = .ok (.irem, 1) := by decide +kernel
theorem dL_isEngine_578 : decode cL_isEngine 578 = .ok (.iaload, 1) := by decide +kernel
theorem dL_isEngine_579 : decode cL_isEngine 579 = .ok (.istore 13, 2) := by decide +kernel
theorem dL_isEngine_581 : decode cL_isEngine 581 = .ok (.aload_n 0, 1) := by decide +kernel
theorem dL_isEngine_582 : decode cL_isEngine 582 = .ok (.iload 12, 2) := by decide +kernel
theorem dL_isEngine_584 : decode cL_isEngine 584 = .ok (.invokevirtual 94, 3) := by decide +kernel
theorem dL_isEngine_587 : decode cL_isEngine 587 = .ok (.iload 13, 2) := by decide +kernel
theorem dL_isEngine_589 : decode cL_isEngine 589 = .ok (.if_icmp .ne 7, 3) := by decide +kernel
theorem dL_isEngine_592 : decode cL_isEngine 592 = .ok (.iconst 1, 1) := by decide +kernel
theorem dL_isEngine_593 : decode cL_isEngine 593 = .ok (.goto 4, 3) := by decide +kernel
theorem dL_isEngine_596 : decode cL_isEngine 596 = .ok (.iconst 0, 1) := by decide +kernel
theorem dL_isEngine_597 : decode cL_isEngine 597 = .ok (.istore 10, 2) := by decide +kernel
theorem dL_isEngine_599 : decode cL_isEngine 599 = .ok (.iinc 12 1, 3) := by decide +kernel
theorem dL_isEngine_602 : decode cL_isEngine 602 = .ok (.goto (-59), 3) := by decide +kernel
theorem dL_isEngine_605 : decode cL_isEngine 605 = .ok (.iconst 0, 1) := by decide +kernel
theorem dL_isEngine_606 : decode cL_isEngine 606 = .ok (.istore 12, 2) := by decide +kernel
theorem dL_isEngine_608 : decode cL_isEngine 608 = .ok (.iload 12, 2) := by decide +kernel
theorem dL_isEngine_610 : decode cL_isEngine 610 = .ok (.aload_n 1, 1) := by decide +kernel
theorem dL_isEngine_611 : decode cL_isEngine 611 = .ok (.iconst 2, 1) := by decide +kernel
theorem dL_isEngine_612 : decode cL_isEngine 612 = .ok (.iaload, 1) := by decide +kernel
theorem dL_isEngine_613 : decode cL_isEngine 613 = .ok (.if_icmp .ge 155, 3) := by decide +kernel
theorem dL_isEngine_616 : decode cL_isEngine 616 = .ok (.iload 10, 2) := by decide +kernel
theorem dL_isEngine_618 : decode cL_isEngine 618 = .ok (.ifCond .eq 150, 3) := by decide +kernel
theorem dL_isEngine_621 : decode cL_isEngine 621 = .ok (.bipush (-2), 2) := by decide +kernel
theorem dL_isEngine_623 : decode cL_isEngine 623 = .ok (.istore 13, 2) := by decide +kernel
theorem dL_isEngine_625 : decode cL_isEngine 625 = .ok (.iconst 0, 1) := by decide +kernel
theorem dL_isEngine_626 : decode cL_isEngine 626 = .ok (.istore 14, 2) := by decide +kernel
theorem dL_isEngine_628 : decode cL_isEngine 628 = .ok (.iload 14, 2) := by decide +kernel
theorem dL_isEngine_630 : decode cL_isEngine 630 = .ok (.bipush 60, 2) := by decide +kernel
theorem dL_isEngine_632 : decode cL_isEngine 632 = .ok (.if_icmp .ge 76, 3) := by decide +kernel
theorem dL_isEngine_635 : decode cL_isEngine 635 = .ok (.iload 14, 2) := by decide +kernel
theorem dL_isEngine_637 : decode cL_isEngine 637 = .ok (.aload_n 1, 1) := by decide +kernel
theorem dL_isEngine_638 : decode cL_isEngine 638 = .ok (.bipush 8, 2) := by decide +kernel
theorem dL_isEngine_640 : decode cL_isEngine 640 = .ok (.iaload, 1) := by decide +kernel
theorem dL_isEngine_641 : decode cL_isEngine 641 = .ok (.if_icmp .ge 67, 3) := by decide +kernel
theorem dL_isEngine_644 : decode cL_isEngine 644 = .ok (.iload 13, 2) := by decide +kernel
theorem dL_isEngine_646 : decode cL_isEngine 646 = .ok (.ifCond .ge 62, 3) := by decide +kernel
theorem dL_isEngine_649 : decode cL_isEngine 649 = .ok (.aload 7, 2) := by decide +kernel
theorem dL_isEngine_651 : decode cL_isEngine 651 = .ok (.aload_n 1, 1) := by decide +kernel
theorem dL_isEngine_652 : decode cL_isEngine 652 = .ok (.bipush 8, 2) := by decide +kernel
theorem dL_isEngine_654 : decode cL_isEngine 654 = .ok (.iaload, 1) := by decide +kernel
theorem dL_isEngine_655 : decode cL_isEngine 655 = .ok (.iconst 1, 1) := by decide +kernel
theorem dL_isEngine_656 : decode cL_isEngine 656 = .ok (.isub, 1) := by decide +kernel
theorem dL_isEngine_657 : decode cL_isEngine 657 = .ok (.iload 14, 2) := by decide +kernel
theorem dL_isEngine_659 : decode cL_isEngine 659 = .ok (.isub, 1) := by decide +kernel
theorem dL_isEngine_660 : decode cL_isEngine 660 = .ok (.bipush 60, 2) := by decide +kernel
theorem dL_isEngine_662 : decode cL_isEngine 662 = .ok (.irem, 1) := by decide +kernel
theorem dL_isEngine_663 : decode cL_isEngine 663 = .ok (.iaload, 1) := by decide +kernel
theorem dL_isEngine_664 : decode cL_isEngine 664 = .ok (.istore 15, 2) := by decide +kernel
theorem dL_isEngine_666 : decode cL_isEngine 666 = .ok (.iload 15, 2) := by decide +kernel
theorem dL_isEngine_668 : decode cL_isEngine 668 = .ok (.sipush 1000, 3) := by decide +kernel
theorem dL_isEngine_671 : decode cL_isEngine 671 = .ok (.idiv, 1) := by decide +kernel
theorem dL_isEngine_672 : decode cL_isEngine 672 = .ok (.iload 11, 2) := by decide +kernel
theorem dL_isEngine_674 : decode cL_isEngine 674 = .ok (.if_icmp .gt 24, 3) := by decide +kernel
theorem dL_isEngine_677 : decode cL_isEngine 677 = .ok (.iload 15, 2) := by decide +kernel
theorem dL_isEngine_679 : decode cL_isEngine 679 = .ok (.bipush 10, 2) := by decide +kernel
theorem dL_isEngine_681 : decode cL_isEngine 681 = .ok (.idiv, 1) := by decide +kernel
theorem dL_isEngine_682 : decode cL_isEngine 682 = .ok (.bipush 100, 2) := by decide +kernel
theorem dL_isEngine_684 : decode cL_isEngine 684 = .ok (.irem, 1) := by decide +kernel
theorem dL_isEngine_685 : decode cL_isEngine 685 = .ok (.iload 12, 2) := by decide +kernel
theorem dL_isEngine_687 : decode cL_isEngine 687 = .ok (.if_icmp .ne 11, 3) := by decide +kernel
theorem dL_isEngine_690 : decode cL_isEngine 690 = .ok (.iload 15, 2) := by decide +kernel
theorem dL_isEngine_692 : decode cL_isEngine 692 = .ok (.bipush 10, 2) := by decide +kernel
theorem dL_isEngine_694 : decode cL_isEngine 694 = .ok (.irem, 1) := by decide +kernel
theorem dL_isEngine_695 : decode cL_isEngine 695 = .ok (.goto 5, 3) := by decide +kernel
theorem dL_isEngine_698 : decode cL_isEngine 698 = .ok (.iload 13, 2) := by decide +kernel
theorem dL_isEngine_700 : decode cL_isEngine 700 = .ok (.istore 13, 2) := by decide +kernel
theorem dL_isEngine_702 : decode cL_isEngine 702 = .ok (.iinc 14 1, 3) := by decide +kernel
theorem dL_isEngine_705 : decode cL_isEngine 705 = .ok (.goto (-77), 3) := by decide +kernel
theorem dL_isEngine_708 : decode cL_isEngine 708 = .ok (.iload 13, 2) := by decide +kernel
theorem dL_isEngine_710 : decode cL_isEngine 710 = .ok (.ifCond .ge 32, 3) := by decide +kernel
theorem dL_isEngine_713 : decode cL_isEngine 713 = .ok (.aload_n 1, 1) := by decide +kernel
theorem dL_isEngine_714 : decode cL_isEngine 714 = .ok (.bipush 8, 2) := by decide +kernel
theorem dL_isEngine_716 : decode cL_isEngine 716 = .ok (.iaload, 1) := by decide +kernel
theorem dL_isEngine_717 : decode cL_isEngine 717 = .ok (.bipush 60, 2) := by decide +kernel
theorem dL_isEngine_719 : decode cL_isEngine 719 = .ok (.if_icmp .gt 15, 3) := by decide +kernel
theorem dL_isEngine_722 : decode cL_isEngine 722 = .ok (.aload_n 0, 1) := by decide +kernel
theorem dL_isEngine_723 : decode cL_isEngine 723 = .ok (.iload 12, 2) := by decide +kernel
theorem dL_isEngine_725 : decode cL_isEngine 725 = .ok (.iload 11, 2) := by decide +kernel
theorem dL_isEngine_727 : decode cL_isEngine 727 = .ok (.invokevirtual 97, 3) := by decide +kernel
theorem dL_isEngine_730 : decode cL_isEngine 730 = .ok (.iconst (-1), 1) := by decide +kernel
theorem dL_isEngine_731 : decode cL_isEngine 731 = .ok (.if_icmp .ne 7, 3) := by decide +kernel
theorem dL_isEngine_734 : decode cL_isEngine 734 = .ok (.iconst 1, 1) := by decide +kernel
theorem dL_isEngine_735 : decode cL_isEngine 735 = .ok (.goto 25, 3) := by decide +kernel
theorem dL_isEngine_738 : decode cL_isEngine 738 = .ok (.iconst 0, 1) := by decide +kernel
theorem dL_isEngine_739 : decode cL_isEngine 739 = .ok (.goto 21, 3) := by decide +kernel
theorem dL_isEngine_742 : decode cL_isEngine 742 = .ok (.aload_n 0, 1) := by decide +kernel
theorem dL_isEngine_743 : decode cL_isEngine 743 = .ok (.iload 12, 2) := by decide +kernel
theorem dL_isEngine_745 : decode cL_isEngine 745 = .ok (.iload 11, 2) := by decide +kernel
theorem dL_isEngine_747 : decode cL_isEngine 747 = .ok (.invokevirtual 97, 3) := by decide +kernel
theorem dL_isEngine_750 : decode cL_isEngine 750 = .ok (.iload 13, 2) := by decide +kernel
theorem dL_isEngine_752 : decode cL_isEngine 752 = .ok (.if_icmp .ne 7, 3) := by decide +kernel
theorem dL_isEngine_755 : decode cL_isEngine 755 = .ok (.iconst 1, 1) := by decide +kernel
theorem dL_isEngine_756 : decode cL_isEngine 756 = .ok (.goto 4, 3) := by decide +kernel
theorem dL_isEngine_759 : decode cL_isEngine 759 = .ok (.iconst 0, 1) := by decide +kernel
theorem dL_isEngine_760 : decode cL_isEngine 760 = .ok (.istore 10, 2) := by decide +kernel
theorem dL_isEngine_762 : decode cL_isEngine 762 = .ok (.iinc 12 1, 3) := by decide +kernel
theorem dL_isEngine_765 : decode cL_isEngine 765 = .ok (.goto (-157), 3) := by decide +kernel
theorem dL_isEngine_768 : decode cL_isEngine 768 = .ok (.iload 10, 2) := by decide +kernel
theorem dL_isEngine_770 : decode cL_isEngine 770 = .ok (.ifCond .eq 16, 3) := by decide +kernel
theorem dL_isEngine_773 : decode cL_isEngine 773 = .ok (.aload_n 0, 1) := by decide +kernel
theorem dL_isEngine_774 : decode cL_isEngine 774 = .ok (.invokevirtual 100, 3) := by decide +kernel
theorem dL_isEngine_777 : decode cL_isEngine 777 = .ok (.iload 9, 2) := by decide +kernel
theorem dL_isEngine_779 : decode cL_isEngine 779 = .ok (.if_icmp .ne 7, 3) := by decide +kernel
theorem dL_isEngine_782 : decode cL_isEngine 782 = .ok (.iconst 1, 1) := by decide +kernel
theorem dL_isEngine_783 : decode cL_isEngine 783 = .ok (.goto 4, 3) := by decide +kernel
theorem dL_isEngine_786 : decode cL_isEngine 786 = .ok (.iconst 0, 1) := by decide +kernel
theorem dL_isEngine_787 : decode cL_isEngine 787 = .ok (.ireturn, 1) := by decide +kernel
theorem dL_law_0 : decode cL_law 0 = .ok (.new 26, 3) := by decide +kernel
theorem dL_law_3 : decode cL_law 3 = .ok (.dup, 1) := by decide +kernel
theorem dL_law_4 : decode cL_law 4 = .ok (.invokespecial 103, 3) := by decide +kernel
theorem dL_law_7 : decode cL_law 7 = .ok (.astore_n 1, 1) := by decide +kernel
theorem dL_law_8 : decode cL_law 8 = .ok (.bipush 9, 2) := by decide +kernel
theorem dL_law_10 : decode cL_law 10 = .ok (.newarray .int, 2) := by decide +kernel
theorem dL_law_12 : decode cL_law 12 = .ok (.astore_n 2, 1) := by decide +kernel
theorem dL_law_13 : decode cL_law 13 = .ok (.bipush 64, 2) := by decide +kernel
theorem dL_law_15 : decode cL_law 15 = .ok (.newarray .int, 2) := by decide +kernel
theorem dL_law_17 : decode cL_law 17 = .ok (.astore_n 3, 1) := by decide +kernel
theorem dL_law_18 : decode cL_law 18 = .ok (.bipush 30, 2) := by decide +kernel
theorem dL_law_20 : decode cL_law 20 = .ok (.newarray .int, 2) := by decide +kernel
theorem dL_law_22 : decode cL_law 22 = .ok (.astore 4, 2) := by decide +kernel
theorem dL_law_24 : decode cL_law 24 = .ok (.iconst 5, 1) := by decide +kernel
theorem dL_law_25 : decode cL_law 25 = .ok (.newarray .int, 2) := by decide +kernel
theorem dL_law_27 : decode cL_law 27 = .ok (.astore 5, 2) := by decide +kernel
theorem dL_law_29 : decode cL_law 29 = .ok (.bipush 36, 2) := by decide +kernel
theorem dL_law_31 : decode cL_law 31 = .ok (.newarray .int, 2) := by decide +kernel
theorem dL_law_33 : decode cL_law 33 = .ok (.astore 6, 2) := by decide +kernel
theorem dL_law_35 : decode cL_law 35 = .ok (.bipush 48, 2) := by decide +kernel
theorem dL_law_37 : decode cL_law 37 = .ok (.newarray .int, 2) := by decide +kernel
theorem dL_law_39 : decode cL_law 39 = .ok (.astore 7, 2) := by decide +kernel
theorem dL_law_41 : decode cL_law 41 = .ok (.bipush 60, 2) := by decide +kernel
theorem dL_law_43 : decode cL_law 43 = .ok (.newarray .int, 2) := by decide +kernel
theorem dL_law_45 : decode cL_law 45 = .ok (.astore 8, 2) := by decide +kernel
theorem dL_law_47 : decode cL_law 47 = .ok (.bipush 36, 2) := by decide +kernel
theorem dL_law_49 : decode cL_law 49 = .ok (.newarray .int, 2) := by decide +kernel
theorem dL_law_51 : decode cL_law 51 = .ok (.astore 9, 2) := by decide +kernel
theorem dL_law_53 : decode cL_law 53 = .ok (.bipush 60, 2) := by decide +kernel
theorem dL_law_55 : decode cL_law 55 = .ok (.newarray .int, 2) := by decide +kernel
theorem dL_law_57 : decode cL_law 57 = .ok (.astore 10, 2) := by decide +kernel
theorem dL_law_59 : decode cL_law 59 = .ok (.aload_n 2, 1) := by decide +kernel
theorem dL_law_60 : decode cL_law 60 = .ok (.iconst 1, 1) := by decide +kernel
theorem dL_law_61 : decode cL_law 61 = .ok (.bipush 31, 2) := by decide +kernel
theorem dL_law_63 : decode cL_law 63 = .ok (.iastore, 1) := by decide +kernel
theorem dL_law_64 : decode cL_law 64 = .ok (.aload_n 2, 1) := by decide +kernel
theorem dL_law_65 : decode cL_law 65 = .ok (.iconst 3, 1) := by decide +kernel
theorem dL_law_66 : decode cL_law 66 = .ok (.bipush 10, 2) := by decide +kernel
theorem dL_law_68 : decode cL_law 68 = .ok (.iastore, 1) := by decide +kernel
theorem dL_law_69 : decode cL_law 69 = .ok (.aload_n 2, 1) := by decide +kernel
theorem dL_law_70 : decode cL_law 70 = .ok (.iconst 4, 1) := by decide +kernel
theorem dL_law_71 : decode cL_law 71 = .ok (.bipush 30, 2) := by decide +kernel
theorem dL_law_73 : decode cL_law 73 = .ok (.iastore, 1) := by decide +kernel
theorem dL_law_74 : decode cL_law 74 = .ok (.iconst 0, 1) := by decide +kernel
theorem dL_law_75 : decode cL_law 75 = .ok (.istore 11, 2) := by decide +kernel
theorem dL_law_77 : decode cL_law 77 = .ok (.iload 11, 2) := by decide +kernel
theorem dL_law_79 : decode cL_law 79 = .ok (.iconst 4, 1) := by decide +kernel
theorem dL_law_80 : decode cL_law 80 = .ok (.if_icmp .ge 42, 3) := by decide +kernel
theorem dL_law_83 : decode cL_law 83 = .ok (.aload 4, 2) := by decide +kernel
theorem dL_law_85 : decode cL_law 85 = .ok (.bipush 6, 2) := by decide +kernel
theorem dL_law_87 : decode cL_law 87 = .ok (.iload 11, 2) := by decide +kernel
theorem dL_law_89 : decode cL_law 89 = .ok (.iadd, 1) := by decide +kernel
theorem dL_law_90 : decode cL_law 90 = .ok (.iconst 3, 1) := by decide +kernel
theorem dL_law_91 : decode cL_law 91 = .ok (.iconst 2, 1) := by decide +kernel
theorem dL_law_92 : decode cL_law 92 = .ok (.iload 11, 2) := by decide +kernel
theorem dL_law_94 : decode cL_law 94 = .ok (.imul, 1) := by decide +kernel
theorem dL_law_95 : decode cL_law 95 = .ok (.iadd, 1) := by decide +kernel
theorem dL_law_96 : decode cL_law 96 = .ok (.iastore, 1) := by decide +kernel
theorem dL_law_97 : decode cL_law 97 = .ok (.aload 4, 2) := by decide +kernel
theorem dL_law_99 : decode cL_law 99 = .ok (.bipush 12, 2) := by decide +kernel
theorem dL_law_101 : decode cL_law 101 = .ok (.iload 11, 2) := by decide +kernel
theorem dL_law_103 : decode cL_law 103 = .ok (.iadd, 1) := by decide +kernel
theorem dL_law_104 : decode cL_law 104 = .ok (.bipush 7, 2) := by decide +kernel
theorem dL_law_106 : decode cL_law 106 = .ok (.iastore, 1) := by decide +kernel
theorem dL_law_107 : decode cL_law 107 = .ok (.aload 4, 2) := by decide +kernel
theorem dL_law_109 : decode cL_law 109 = .ok (.bipush 24, 2) := by decide +kernel
theorem dL_law_111 : decode cL_law 111 = .ok (.iload 11, 2) := by decide +kernel
theorem dL_law_113 : decode cL_law 113 = .ok (.iadd, 1) := by decide +kernel
theorem dL_law_114 : decode cL_law 114 = .ok (.iconst 1, 1) := by decide +kernel
theorem dL_law_115 : decode cL_law 115 = .ok (.iastore, 1) := by decide +kernel
theorem dL_law_116 : decode cL_law 116 = .ok (.iinc 11 1, 3) := by decide +kernel
theorem dL_law_119 : decode cL_law 119 = .ok (.goto (-42), 3) := by decide +kernel
theorem dL_law_122 : decode cL_law 122 = .ok (.aload 5, 2) := by decide +kernel
theorem dL_law_124 : decode cL_law 124 = .ok (.iconst 1, 1) := by decide +kernel
theorem dL_law_125 : decode cL_law 125 = .ok (.iconst 3, 1) := by decide +kernel
theorem dL_law_126 : decode cL_law 126 = .ok (.iastore, 1) := by decide +kernel
theorem dL_law_127 : decode cL_law 127 = .ok (.aload 5, 2) := by decide +kernel
theorem dL_law_129 : decode cL_law 129 = .ok (.iconst 2, 1) := by decide +kernel
theorem dL_law_130 : decode cL_law 130 = .ok (.iconst 2, 1) := by decide +kernel
theorem dL_law_131 : decode cL_law 131 = .ok (.iastore, 1) := by decide +kernel
theorem dL_law_132 : decode cL_law 132 = .ok (.aload 5, 2) := by decide +kernel
theorem dL_law_134 : decode cL_law 134 = .ok (.iconst 4, 1) := by decide +kernel
theorem dL_law_135 : decode cL_law 135 = .ok (.iconst 4, 1) := by decide +kernel
theorem dL_law_136 : decode cL_law 136 = .ok (.iastore, 1) := by decide +kernel
theorem dL_law_137 : decode cL_law 137 = .ok (.aload_n 1, 1) := by decide +kernel
theorem dL_law_138 : decode cL_law 138 = .ok (.aload_n 2, 1) := by decide +kernel
theorem dL_law_139 : decode cL_law 139 = .ok (.aload_n 3, 1) := by decide +kernel
theorem dL_law_140 : decode cL_law 140 = .ok (.aload 6, 2) := by decide +kernel
theorem dL_law_142 : decode cL_law 142 = .ok (.aload 7, 2) := by decide +kernel
theorem dL_law_144 : decode cL_law 144 = .ok (.aload 8, 2) := by decide +kernel
theorem dL_law_146 : decode cL_law 146 = .ok (.aload 9, 2) := by decide +kernel
theorem dL_law_148 : decode cL_law 148 = .ok (.aload 10, 2) := by decide +kernel
theorem dL_law_150 : decode cL_law 150 = .ok (.iconst 0, 1) := by decide +kernel
theorem dL_law_151 : decode cL_law 151 = .ok (.invokestatic 104, 3) := by decide +kernel
theorem dL_law_154 : decode cL_law 154 = .ok (.istore 11, 2) := by decide +kernel
theorem dL_law_156 : decode cL_law 156 = .ok (.iconst 0, 1) := by decide +kernel
theorem dL_law_157 : decode cL_law 157 = .ok (.istore 12, 2) := by decide +kernel
theorem dL_law_159 : decode cL_law 159 = .ok (.iload 12, 2) := by decide +kernel
theorem dL_law_161 : decode cL_law 161 = .ok (.bipush 110, 2) := by decide +kernel
theorem dL_law_163 : decode cL_law 163 = .ok (.if_icmp .ge 1301, 3) := by decide +kernel
theorem dL_law_166 : decode cL_law 166 = .ok (.iload 11, 2) := by decide +kernel
theorem dL_law_168 : decode cL_law 168 = .ok (.ifCond .eq 1296, 3) := by decide +kernel
theorem dL_law_171 : decode cL_law 171 = .ok (.iload 12, 2) := by decide +kernel
theorem dL_law_173 : decode cL_law 173 = .ok (.aload_n 0, 1) := by decide +kernel
theorem dL_law_174 : decode cL_law 174 = .ok (.arraylength, 1) := by decide +kernel
theorem dL_law_175 : decode cL_law 175 = .ok (.if_icmp .ge 13, 3) := by decide +kernel
theorem dL_law_178 : decode cL_law 178 = .ok (.aload_n 0, 1) := by decide +kernel
theorem dL_law_179 : decode cL_law 179 = .ok (.iload 12, 2) := by decide +kernel
theorem dL_law_181 : decode cL_law 181 = .ok (.iaload, 1) := by decide +kernel
theorem dL_law_182 : decode cL_law 182 = .ok (.ldc 108, 2) := by decide +kernel
theorem dL_law_184 : decode cL_law 184 = .ok (.iand, 1) := by decide +kernel
theorem dL_law_185 : decode cL_law 185 = .ok (.goto 25, 3) := by decide +kernel
theorem dL_law_188 : decode cL_law 188 = .ok (.sipush 31013, 3) := by decide +kernel
theorem dL_law_191 : decode cL_law 191 = .ok (.iload 12, 2) := by decide +kernel
theorem dL_law_193 : decode cL_law 193 = .ok (.imul, 1) := by decide +kernel
theorem dL_law_194 : decode cL_law 194 = .ok (.iload 12, 2) := by decide +kernel
theorem dL_law_196 : decode cL_law 196 = .ok (.imul, 1) := by decide +kernel
theorem dL_law_197 : decode cL_law 197 = .ok (.sipush 7013, 3) := by decide +kernel
theorem dL_law_200 : decode cL_law 200 = .ok (.iload 12, 2) := by decide +kernel
theorem dL_law_202 : decode cL_law 202 = .ok (.imul, 1) := by decide +kernel
theorem dL_law_203 : decode cL_law 203 = .ok (.iadd, 1) := by decide +kernel
theorem dL_law_204 : decode cL_law 204 = .ok (.bipush 37, 2) := by decide +kernel
theorem dL_law_206 : decode cL_law 206 = .ok (.iadd, 1) := by decide +kernel
theorem dL_law_207 : decode cL_law 207 = .ok (.ldc 108, 2) := by decide +kernel
theorem dL_law_209 : decode cL_law 209 = .ok (.iand, 1) := by decide +kernel
theorem dL_law_210 : decode cL_law 210 = .ok (.istore 13, 2) := by decide +kernel
theorem dL_law_212 : decode cL_law 212 = .ok (.iload 12, 2) := by decide +kernel
theorem dL_law_214 : decode cL_law 214 = .ok (.iconst 2, 1) := by decide +kernel
theorem dL_law_215 : decode cL_law 215 = .ok (.if_icmp .ge 7, 3) := by decide +kernel
theorem dL_law_218 : decode cL_law 218 = .ok (.iconst 0, 1) := by decide +kernel
theorem dL_law_219 : decode cL_law 219 = .ok (.goto 8, 3) := by decide +kernel
theorem dL_law_222 : decode cL_law 222 = .ok (.iload 13, 2) := by decide +kernel
theorem dL_law_224 : decode cL_law 224 = .ok (.bipush 17, 2) := by decide +kernel
theorem dL_law_226 : decode cL_law 226 = .ok (.irem, 1) := by decide +kernel
theorem dL_law_227 : decode cL_law 227 = .ok (.istore 14, 2) := by decide +kernel
theorem dL_law_229 : decode cL_law 229 = .ok (.iload 13, 2) := by decide +kernel
theorem dL_law_231 : decode cL_law 231 = .ok (.bipush 17, 2) := by decide +kernel
theorem dL_law_233 : decode cL_law 233 = .ok (.idiv, 1) := by decide +kernel
theorem dL_law_234 : decode cL_law 234 = .ok (.istore 15, 2) := by decide +kernel
theorem dL_law_236 : decode cL_law 236 = .ok (.aload_n 2, 1) := by decide +kernel
theorem dL_law_237 : decode cL_law 237 = .ok (.iconst 2, 1) := by decide +kernel
theorem dL_law_238 : decode cL_law 238 = .ok (.iaload, 1) := by decide +kernel
theorem dL_law_239 : decode cL_law 239 = .ok (.ifCond .ne 7, 3) := by decide +kernel
theorem dL_law_242 : decode cL_law 242 = .ok (.iconst 0, 1) := by decide +kernel
theorem dL_law_243 : decode cL_law 243 = .ok (.goto 9, 3) := by decide +kernel
theorem dL_law_246 : decode cL_law 246 = .ok (.iload 15, 2) := by decide +kernel
theorem dL_law_248 : decode cL_law 248 = .ok (.aload_n 2, 1) := by decide +kernel
theorem dL_law_249 : decode cL_law 249 = .ok (.iconst 2, 1) := by decide +kernel
theorem dL_law_250 : decode cL_law 250 = .ok (.iaload, 1) := by decide +kernel
theorem dL_law_251 : decode cL_law 251 = .ok (.irem, 1) := by decide +kernel
theorem dL_law_252 : decode cL_law 252 = .ok (.istore 16, 2) := by decide +kernel
theorem dL_law_254 : decode cL_law 254 = .ok (.iload 14, 2) := by decide +kernel
theorem dL_law_256 : decode cL_law 256 = .ok (.iconst 2, 1) := by decide +kernel
theorem dL_law_257 : decode cL_law 257 = .ok (.if_icmp .ge 132, 3) := by decide +kernel
theorem dL_law_260 : decode cL_law 260 = .ok (.aload_n 2, 1) := by decide +kernel
theorem dL_law_261 : decode cL_law 261 = .ok (.iconst 2, 1) := by decide +kernel
theorem dL_law_262 : decode cL_law 262 = .ok (.iaload, 1) := by decide +kernel
theorem dL_law_263 : decode cL_law 263 = .ok (.bipush 12, 2) := by decide +kernel
theorem dL_law_265 : decode cL_law 265 = .ok (.if_icmp .ge 124, 3) := by decide +kernel
theorem dL_law_268 : decode cL_law 268 = .ok (.aload_n 2, 1) := by decide +kernel
theorem dL_law_269 : decode cL_law 269 = .ok (.iconst 2, 1) := by decide +kernel
theorem dL_law_270 : decode cL_law 270 = .ok (.iaload, 1) := by decide +kernel
theorem dL_law_271 : decode cL_law 271 = .ok (.istore 17, 2) := by decide +kernel
theorem dL_law_273 : decode cL_law 273 = .ok (.aload 6, 2) := by decide +kernel
theorem dL_law_275 : decode cL_law 275 = .ok (.iload 17, 2) := by decide +kernel
theorem dL_law_277 : decode cL_law 277 = .ok (.iload 15, 2) := by decide +kernel
theorem dL_law_279 : decode cL_law 279 = .ok (.bipush 8, 2) := by decide +kernel
theorem dL_law_281 : decode cL_law 281 = .ok (.irem, 1) := by decide +kernel
theorem dL_law_282 : decode cL_law 282 = .ok (.iastore, 1) := by decide +kernel
theorem dL_law_283 : decode cL_law 283 = .ok (.aload 6, 2) := by decide +kernel
theorem dL_law_285 : decode cL_law 285 = .ok (.bipush 12, 2) := by decide +kernel
theorem dL_law_287 : decode cL_law 287 = .ok (.iload 17, 2) := by decide +kernel
theorem dL_law_289 : decode cL_law 289 = .ok (.iadd, 1) := by decide +kernel
theorem dL_law_290 : decode cL_law 290 = .ok (.iconst 1, 1) := by decide +kernel
theorem dL_law_291 : decode cL_law 291 = .ok (.iload 15, 2) := by decide +kernel
theorem dL_law_293 : decode cL_law 293 = .ok (.bipush 8, 2) := by decide +kernel
theorem dL_law_295 : decode cL_law 295 = .ok (.idiv, 1) := by decide +kernel
theorem dL_law_296 : decode cL_law 296 = .ok (.sipush 9999, 3) := by decide +kernel
theorem dL_law_299 : decode cL_law 299 = .ok (.irem, 1) := by decide +kernel
theorem dL_law_300 : decode cL_law 300 = .ok (.iadd, 1) := by decide +kernel
theorem dL_law_301 : decode cL_law 301 = .ok (.iastore, 1) := by decide +kernel
theorem dL_law_302 : decode cL_law 302 = .ok (.aload 6, 2) := by decide +kernel
theorem dL_law_304 : decode cL_law 304 = .ok (.bipush 24, 2) := by decide +kernel
theorem dL_law_306 : decode cL_law 306 = .ok (.iload 17, 2) := by decide +kernel
theorem dL_law_308 : decode cL_law 308 = .ok (.iadd, 1) := by decide +kernel
theorem dL_law_309 : decode cL_law 309 = .ok (.aload 6, 2) := by decide +kernel
theorem dL_law_311 : decode cL_law 311 = .ok (.bipush 12, 2) := by decide +kernel
theorem dL_law_313 : decode cL_law 313 = .ok (.iload 17, 2) := by decide +kernel
theorem dL_law_315 : decode cL_law 315 = .ok (.iadd, 1) := by decide +kernel
theorem dL_law_316 : decode cL_law 316 = .ok (.iaload, 1) := by decide +kernel
theorem dL_law_317 : decode cL_law 317 = .ok (.iastore, 1) := by decide +kernel
theorem dL_law_318 : decode cL_law 318 = .ok (.aload 7, 2) := by decide +kernel
theorem dL_law_320 : decode cL_law 320 = .ok (.bipush 12, 2) := by decide +kernel
theorem dL_law_322 : decode cL_law 322 = .ok (.iload 17, 2) := by decide +kernel
theorem dL_law_324 : decode cL_law 324 = .ok (.iadd, 1) := by decide +kernel
theorem dL_law_325 : decode cL_law 325 = .ok (.aload_n 2, 1) := by decide +kernel
theorem dL_law_326 : decode cL_law 326 = .ok (.aload_n 3, 1) := by decide +kernel
theorem dL_law_327 : decode cL_law 327 = .ok (.aload_n 2, 1) := by decide +kernel
theorem dL_law_328 : decode cL_law 328 = .ok (.iconst 0, 1) := by decide +kernel
theorem dL_law_329 : decode cL_law 329 = .ok (.iaload, 1) := by decide +kernel
theorem dL_law_330 : decode cL_law 330 = .ok (.iconst 1, 1) := by decide +kernel
theorem dL_law_331 : decode cL_law 331 = .ok (.iadd, 1) := by decide +kernel
theorem dL_law_332 : decode cL_law 332 = .ok (.invokestatic 13, 3) := by decide +kernel
theorem dL_law_335 : decode cL_law 335 = .ok (.iastore, 1) := by decide +kernel
theorem dL_law_336 : decode cL_law 336 = .ok (.aload_n 2, 1) := by decide +kernel
theorem dL_law_337 : decode cL_law 337 = .ok (.iconst 2, 1) := by decide +kernel
theorem dL_law_338 : decode cL_law 338 = .ok (.dup2, 1) := by decide +kernel
theorem dL_law_339 : decode cL_law 339 = .ok (.iaload, 1) := by decide +kernel
theorem dL_law_340 : decode cL_law 340 = .ok (.iconst 1, 1) := by decide +kernel
theorem dL_law_341 : decode cL_law 341 = .ok (.iadd, 1) := by decide +kernel
theorem dL_law_342 : decode cL_law 342 = .ok (.iastore, 1) := by decide +kernel
theorem dL_law_343 : decode cL_law 343 = .ok (.aload_n 2, 1) := by decide +kernel
theorem dL_law_344 : decode cL_law 344 = .ok (.aload 7, 2) := by decide +kernel
theorem dL_law_346 : decode cL_law 346 = .ok (.aload 10, 2) := by decide +kernel
theorem dL_law_348 : decode cL_law 348 = .ok (.iload 17, 2) := by decide +kernel
theorem dL_law_350 : decode cL_law 350 = .ok (.iconst 0, 1) := by decide +kernel
theorem dL_law_351 : decode cL_law 351 = .ok (.invokestatic 17, 3) := by decide +kernel
theorem dL_law_354 : decode cL_law 354 = .ok (.aload_n 1, 1) := by decide +kernel
theorem dL_law_355 : decode cL_law 355 = .ok (.iload 15, 2) := by decide +kernel
theorem dL_law_357 : decode cL_law 357 = .ok (.bipush 8, 2) := by decide +kernel
theorem dL_law_359 : decode cL_law 359 = .ok (.irem, 1) := by decide +kernel
theorem dL_law_360 : decode cL_law 360 = .ok (.iconst 1, 1) := by decide +kernel
theorem dL_law_361 : decode cL_law 361 = .ok (.iload 15, 2) := by decide +kernel
theorem dL_law_363 : decode cL_law 363 = .ok (.bipush 8, 2) := by decide +kernel
theorem dL_law_365 : decode cL_law 365 = .ok (.idiv, 1) := by decide +kernel
theorem dL_law_366 : decode cL_law 366 = .ok (.sipush 9999, 3) := by decide +kernel
theorem dL_law_369 : decode cL_law 369 = .ok (.irem, 1) := by decide +kernel
theorem dL_law_370 : decode cL_law 370 = .ok (.iadd, 1) := by decide +kernel
theorem dL_law_371 : decode cL_law 371 = .ok (.invokevirtual 109, 3) := by decide +kernel
theorem dL_law_374 : decode cL_law 374 = .ok (.iload 17, 2) := by decide +kernel
theorem dL_law_376 : decode cL_law 376 = .ok (.if_icmp .ne 7, 3) := by decide +kernel
theorem dL_law_379 : decode cL_law 379 = .ok (.iconst 1, 1) := by decide +kernel
theorem dL_law_380 : decode cL_law 380 = .ok (.goto 4, 3) := by decide +kernel
theorem dL_law_383 : decode cL_law 383 = .ok (.iconst 0, 1) := by decide +kernel
theorem dL_law_384 : decode cL_law 384 = .ok (.istore 11, 2) := by decide +kernel
theorem dL_law_386 : decode cL_law 386 = .ok (.goto 1039, 3) := by decide +kernel
theorem dL_law_389 : decode cL_law 389 = .ok (.iload 14, 2) := by decide +kernel
theorem dL_law_391 : decode cL_law 391 = .ok (.bipush 6, 2) := by decide +kernel
theorem dL_law_393 : decode cL_law 393 = .ok (.if_icmp .ge 180, 3) := by decide +kernel
theorem dL_law_396 : decode cL_law 396 = .ok (.aload_n 2, 1) := by decide +kernel
theorem dL_law_397 : decode cL_law 397 = .ok (.iconst 2, 1) := by decide +kernel
theorem dL_law_398 : decode cL_law 398 = .ok (.iaload, 1) := by decide +kernel
theorem dL_law_399 : decode cL_law 399 = .ok (.ifCond .le 174, 3) := by decide +kernel
theorem dL_law_402 : decode cL_law 402 = .ok (.iconst 0, 1) := by decide +kernel
theorem dL_law_403 : decode cL_law 403 = .ok (.istore 17, 2) := by decide +kernel
theorem dL_law_405 : decode cL_law 405 = .ok (.iload 17, 2) := by decide +kernel
theorem dL_law_407 : decode cL_law 407 = .ok (.aload_n 2, 1) := by decide +kernel
theorem dL_law_408 : decode cL_law 408 = .ok (.iconst 2, 1) := by decide +kernel
theorem dL_law_409 : decode cL_law 409 = .ok (.iaload, 1) := by decide +kernel
theorem dL_law_410 : decode cL_law 410 = .ok (.if_icmp .ge 35, 3) := by decide +kernel
theorem dL_law_413 : decode cL_law 413 = .ok (.iload 15, 2) := by decide +kernel
theorem dL_law_415 : decode cL_law 415 = .ok (.iconst 5, 1) := by decide +kernel
theorem dL_law_416 : decode cL_law 416 = .ok (.irem, 1) := by decide +kernel
theorem dL_law_417 : decode cL_law 417 = .ok (.ifCond .le 28, 3) := by decide +kernel
theorem dL_law_420 : decode cL_law 420 = .ok (.aload 7, 2) := by decide +kernel
theorem dL_law_422 : decode cL_law 422 = .ok (.iload 16, 2) := by decide +kernel
theorem dL_law_424 : decode cL_law 424 = .ok (.iaload, 1) := by decide +kernel
theorem dL_law_425 : decode cL_law 425 = .ok (.iconst 1, 1) := by decide +kernel
theorem dL_law_426 : decode cL_law 426 = .ok (.if_icmp .eq 19, 3) := by decide +kernel
theorem dL_law_429 : decode cL_law 429 = .ok (.iload 16, 2) := by decide +kernel
theorem dL_law_431 : decode cL_law 431 = .ok (.iconst 1, 1) := by decide +kernel
theorem dL_law_432 : decode cL_law 432 = .ok (.iadd, 1) := by decide +kernel
theorem dL_law_433 : decode cL_law 433 = .ok (.aload_n 2, 1) := by decide +kernel
theorem dL_law_434 : decode cL_law 434 = .ok (.iconst 2, 1) := by decide +kernel
theorem dL_law_435 : decode cL_law 435 = .ok (.iaload, 1) := by decide +kernel
theorem dL_law_436 : decode cL_law 436 = .ok (.irem, 1) := by decide +kernel
theorem dL_law_437 : decode cL_law 437 = .ok (.istore 16, 2) := by decide +kernel
theorem dL_law_439 : decode cL_law 439 = .ok (.iinc 17 1, 3) := by decide +kernel
theorem dL_law_442 : decode cL_law 442 = .ok (.goto (-37), 3) := by decide +kernel
theorem dL_law_445 : decode cL_law 445 = .ok (.iload 15, 2) := by decide +kernel
theorem dL_law_447 : decode cL_law 447 = .ok (.bipush 60, 2) := by decide +kernel
theorem dL_law_449 : decode cL_law 449 = .ok (.idiv, 1) := by decide +kernel
theorem dL_law_450 : decode cL_law 450 = .ok (.iconst 5, 1) := by decide +kernel
theorem dL_law_451 : decode cL_law 451 = .ok (.irem, 1) := by decide +kernel
theorem dL_law_452 : decode cL_law 452 = .ok (.istore 17, 2) := by decide +kernel
theorem dL_law_454 : decode cL_law 454 = .ok (.bipush (-13), 2) := by decide +kernel
theorem dL_law_456 : decode cL_law 456 = .ok (.istore 18, 2) := by decide +kernel
theorem dL_law_458 : decode cL_law 458 = .ok (.aload 7, 2) := by decide +kernel
theorem dL_law_460 : decode cL_law 460 = .ok (.iload 16, 2) := by decide +kernel
theorem dL_law_462 : decode cL_law 462 = .ok (.iaload, 1) := by decide +kernel
theorem dL_law_463 : decode cL_law 463 = .ok (.iconst 1, 1) := by decide +kernel
theorem dL_law_464 : decode cL_law 464 = .ok (.if_icmp .ne 50, 3) := by decide +kernel
theorem dL_law_467 : decode cL_law 467 = .ok (.iload 17, 2) := by decide +kernel
theorem dL_law_469 : decode cL_law 469 = .ok (.ifCond .ne 45, 3) := by decide +kernel
theorem dL_law_472 : decode cL_law 472 = .ok (.aload_n 2, 1) := by decide +kernel
theorem dL_law_473 : decode cL_law 473 = .ok (.iconst 5, 1) := by decide +kernel
theorem dL_law_474 : decode cL_law 474 = .ok (.dup2, 1) := by decide +kernel
theorem dL_law_475 : decode cL_law 475 = .ok (.iaload, 1) := by decide +kernel
theorem dL_law_476 : decode cL_law 476 = .ok (.aload 6, 2) := by decide +kernel
theorem dL_law_478 : decode cL_law 478 = .ok (.bipush 24, 2) := by decide +kernel
theorem dL_law_480 : decode cL_law 480 = .ok (.iload 16, 2) := by decide +kernel
theorem dL_law_482 : decode cL_law 482 = .ok (.iadd, 1) := by decide +kernel
theorem dL_law_483 : decode cL_law 483 = .ok (.iaload, 1) := by decide +kernel
theorem dL_law_484 : decode cL_law 484 = .ok (.iadd, 1) := by decide +kernel
theorem dL_law_485 : decode cL_law 485 = .ok (.iastore, 1) := by decide +kernel
theorem dL_law_486 : decode cL_law 486 = .ok (.aload 6, 2) := by decide +kernel
theorem dL_law_488 : decode cL_law 488 = .ok (.bipush 24, 2) := by decide +kernel
theorem dL_law_490 : decode cL_law 490 = .ok (.iload 16, 2) := by decide +kernel
theorem dL_law_492 : decode cL_law 492 = .ok (.iadd, 1) := by decide +kernel
theorem dL_law_493 : decode cL_law 493 = .ok (.iconst 0, 1) := by decide +kernel
theorem dL_law_494 : decode cL_law 494 = .ok (.iastore, 1) := by decide +kernel
theorem dL_law_495 : decode cL_law 495 = .ok (.aload_n 2, 1) := by decide +kernel
theorem dL_law_496 : decode cL_law 496 = .ok (.aload 7, 2) := by decide +kernel
theorem dL_law_498 : decode cL_law 498 = .ok (.aload 10, 2) := by decide +kernel
theorem dL_law_500 : decode cL_law 500 = .ok (.iload 16, 2) := by decide +kernel
theorem dL_law_502 : decode cL_law 502 = .ok (.bipush 6, 2) := by decide +kernel
theorem dL_law_504 : decode cL_law 504 = .ok (.invokestatic 17, 3) := by decide +kernel
theorem dL_law_507 : decode cL_law 507 = .ok (.bipush 6, 2) := by decide +kernel
theorem dL_law_509 : decode cL_law 509 = .ok (.istore 18, 2) := by decide +kernel
theorem dL_law_511 : decode cL_law 511 = .ok (.goto 38, 3) := by decide +kernel
theorem dL_law_514 : decode cL_law 514 = .ok (.aload 7, 2) := by decide +kernel
theorem dL_law_516 : decode cL_law 516 = .ok (.iload 16, 2) := by decide +kernel
theorem dL_law_518 : decode cL_law 518 = .ok (.iaload, 1) := by decide +kernel
theorem dL_law_519 : decode cL_law 519 = .ok (.iconst 1, 1) := by decide +kernel
theorem dL_law_520 : decode cL_law 520 = .ok (.if_icmp .ne 29, 3) := by decide +kernel
theorem dL_law_523 : decode cL_law 523 = .ok (.aload_n 2, 1) := by decide +kernel
theorem dL_law_524 : decode cL_law 524 = .ok (.aload_n 3, 1) := by decide +kernel
theorem dL_law_525 : decode cL_law 525 = .ok (.aload 4, 2) := by decide +kernel
theorem dL_law_527 : decode cL_law 527 = .ok (.aload 5, 2) := by decide +kernel
theorem dL_law_529 : decode cL_law 529 = .ok (.aload 7, 2) := by decide +kernel
theorem dL_law_531 : decode cL_law 531 = .ok (.aload 8, 2) := by decide +kernel
theorem dL_law_533 : decode cL_law 533 = .ok (.aload 10, 2) := by decide +kernel
theorem dL_law_535 : decode cL_law 535 = .ok (.iload 16, 2) := by decide +kernel
theorem dL_law_537 : decode cL_law 537 = .ok (.iload 17, 2) := by decide +kernel
theorem dL_law_539 : decode cL_law 539 = .ok (.invokestatic 21, 3) := by decide +kernel
theorem dL_law_542 : decode cL_law 542 = .ok (.aload 7, 2) := by decide +kernel
theorem dL_law_544 : decode cL_law 544 = .ok (.iload 16, 2) := by decide +kernel
theorem dL_law_546 : decode cL_law 546 = .ok (.iaload, 1) := by decide +kernel
theorem dL_law_547 : decode cL_law 547 = .ok (.istore 18, 2) := by decide +kernel
theorem dL_law_549 : decode cL_law 549 = .ok (.aload_n 1, 1) := by decide +kernel
theorem dL_law_550 : decode cL_law 550 = .ok (.iconst 0, 1) := by decide +kernel
theorem dL_law_551 : decode cL_law 551 = .ok (.iload 16, 2) := by decide +kernel
theorem dL_law_553 : decode cL_law 553 = .ok (.iload 17, 2) := by decide +kernel
theorem dL_law_555 : decode cL_law 555 = .ok (.invokestatic 112, 3) := by decide +kernel
theorem dL_law_558 : decode cL_law 558 = .ok (.iload 18, 2) := by decide +kernel
theorem dL_law_560 : decode cL_law 560 = .ok (.if_icmp .ne 7, 3) := by decide +kernel
theorem dL_law_563 : decode cL_law 563 = .ok (.iconst 1, 1) := by decide +kernel
theorem dL_law_564 : decode cL_law 564 = .ok (.goto 4, 3) := by decide +kernel
theorem dL_law_567 : decode cL_law 567 = .ok (.iconst 0, 1) := by decide +kernel
theorem dL_law_568 : decode cL_law 568 = .ok (.istore 11, 2) := by decide +kernel
theorem dL_law_570 : decode cL_law 570 = .ok (.goto 855, 3) := by decide +kernel
theorem dL_law_573 : decode cL_law 573 = .ok (.iload 14, 2) := by decide +kernel
theorem dL_law_575 : decode cL_law 575 = .ok (.bipush 6, 2) := by decide +kernel
theorem dL_law_577 : decode cL_law 577 = .ok (.if_icmp .ne 106, 3) := by decide +kernel
theorem dL_law_580 : decode cL_law 580 = .ok (.aload_n 2, 1) := by decide +kernel
theorem dL_law_581 : decode cL_law 581 = .ok (.iconst 2, 1) := by decide +kernel
theorem dL_law_582 : decode cL_law 582 = .ok (.iaload, 1) := by decide +kernel
theorem dL_law_583 : decode cL_law 583 = .ok (.ifCond .le 100, 3) := by decide +kernel
theorem dL_law_586 : decode cL_law 586 = .ok (.iload 15, 2) := by decide +kernel
theorem dL_law_588 : decode cL_law 588 = .ok (.bipush 12, 2) := by decide +kernel
theorem dL_law_590 : decode cL_law 590 = .ok (.idiv, 1) := by decide +kernel
theorem dL_law_591 : decode cL_law 591 = .ok (.iconst 4, 1) := by decide +kernel
theorem dL_law_592 : decode cL_law 592 = .ok (.irem, 1) := by decide +kernel
theorem dL_law_593 : decode cL_law 593 = .ok (.ifCond .ne 25, 3) := by decide +kernel
theorem dL_law_596 : decode cL_law 596 = .ok (.aload 6, 2) := by decide +kernel
theorem dL_law_598 : decode cL_law 598 = .ok (.bipush 24, 2) := by decide +kernel
theorem dL_law_600 : decode cL_law 600 = .ok (.iload 16, 2) := by decide +kernel
theorem dL_law_602 : decode cL_law 602 = .ok (.iadd, 1) := by decide +kernel
theorem dL_law_603 : decode cL_law 603 = .ok (.iaload, 1) := by decide +kernel
theorem dL_law_604 : decode cL_law 604 = .ok (.ifCond .le 14, 3) := by decide +kernel
theorem dL_law_607 : decode cL_law 607 = .ok (.aload 6, 2) := by decide +kernel
theorem dL_law_609 : decode cL_law 609 = .ok (.bipush 24, 2) := by decide +kernel
theorem dL_law_611 : decode cL_law 611 = .ok (.iload 16, 2) := by decide +kernel
theorem dL_law_613 : decode cL_law 613 = .ok (.iadd, 1) := by decide +kernel
theorem dL_law_614 : decode cL_law 614 = .ok (.iaload, 1) := by decide +kernel
theorem dL_law_615 : decode cL_law 615 = .ok (.goto 30, 3) := by decide +kernel
theorem dL_law_618 : decode cL_law 618 = .ok (.iconst 1, 1) := by decide +kernel
theorem dL_law_619 : decode cL_law 619 = .ok (.iload 15, 2) := by decide +kernel
theorem dL_law_621 : decode cL_law 621 = .ok (.bipush 48, 2) := by decide +kernel
theorem dL_law_623 : decode cL_law 623 = .ok (.idiv, 1) := by decide +kernel
theorem dL_law_624 : decode cL_law 624 = .ok (.sipush 9999, 3) := by decide +kernel
theorem dL_law_627 : decode cL_law 627 = .ok (.irem, 1) := by decide +kernel
theorem dL_law_628 : decode cL_law 628 = .ok (.iload 15, 2) := by decide +kernel
theorem dL_law_630 : decode cL_law 630 = .ok (.iconst 3, 1) := by decide +kernel
theorem dL_law_631 : decode cL_law 631 = .ok (.irem, 1) := by decide +kernel
theorem dL_law_632 : decode cL_law 632 = .ok (.ifCond .ne 9, 3) := by decide +kernel
theorem dL_law_635 : decode cL_law 635 = .ok (.sipush 9999, 3) := by decide +kernel
theorem dL_law_638 : decode cL_law 638 = .ok (.goto 5, 3) := by decide +kernel
theorem dL_law_641 : decode cL_law 641 = .ok (.bipush 60, 2) := by decide +kernel
theorem dL_law_643 : decode cL_law 643 = .ok (.irem, 1) := by decide +kernel
theorem dL_law_644 : decode cL_law 644 = .ok (.iadd, 1) := by decide +kernel
theorem dL_law_645 : decode cL_law 645 = .ok (.istore 17, 2) := by decide +kernel
theorem dL_law_647 : decode cL_law 647 = .ok (.aload_n 1, 1) := by decide +kernel
theorem dL_law_648 : decode cL_law 648 = .ok (.iconst 1, 1) := by decide +kernel
theorem dL_law_649 : decode cL_law 649 = .ok (.iload 16, 2) := by decide +kernel
theorem dL_law_651 : decode cL_law 651 = .ok (.iload 17, 2) := by decide +kernel
theorem dL_law_653 : decode cL_law 653 = .ok (.invokestatic 112, 3) := by decide +kernel
theorem dL_law_656 : decode cL_law 656 = .ok (.aload_n 2, 1) := by decide +kernel
theorem dL_law_657 : decode cL_law 657 = .ok (.aload 6, 2) := by decide +kernel
theorem dL_law_659 : decode cL_law 659 = .ok (.aload 7, 2) := by decide +kernel
theorem dL_law_661 : decode cL_law 661 = .ok (.aload 10, 2) := by decide +kernel
theorem dL_law_663 : decode cL_law 663 = .ok (.iload 16, 2) := by decide +kernel
theorem dL_law_665 : decode cL_law 665 = .ok (.iload 17, 2) := by decide +kernel
theorem dL_law_667 : decode cL_law 667 = .ok (.invokestatic 116, 3) := by decide +kernel
theorem dL_law_670 : decode cL_law 670 = .ok (.if_icmp .ne 7, 3) := by decide +kernel
theorem dL_law_673 : decode cL_law 673 = .ok (.iconst 1, 1) := by decide +kernel
theorem dL_law_674 : decode cL_law 674 = .ok (.goto 4, 3) := by decide +kernel
theorem dL_law_677 : decode cL_law 677 = .ok (.iconst 0, 1) := by decide +kernel
theorem dL_law_678 : decode cL_law 678 = .ok (.istore 11, 2) := by decide +kernel
theorem dL_law_680 : decode cL_law 680 = .ok (.goto 745, 3) := by decide +kernel
theorem dL_law_683 : decode cL_law 683 = .ok (.iload 14, 2) := by decide +kernel
theorem dL_law_685 : decode cL_law 685 = .ok (.bipush 9, 2) := by decide +kernel
theorem dL_law_687 : decode cL_law 687 = .ok (.if_icmp .ge 170, 3) := by decide +kernel
theorem dL_law_690 : decode cL_law 690 = .ok (.aload_n 2, 1) := by decide +kernel
theorem dL_law_691 : decode cL_law 691 = .ok (.iconst 2, 1) := by decide +kernel
theorem dL_law_692 : decode cL_law 692 = .ok (.iaload, 1) := by decide +kernel
theorem dL_law_693 : decode cL_law 693 = .ok (.ifCond .le 164, 3) := by decide +kernel
theorem dL_law_696 : decode cL_law 696 = .ok (.iconst 1, 1) := by decide +kernel
theorem dL_law_697 : decode cL_law 697 = .ok (.iload 15, 2) := by decide +kernel
theorem dL_law_699 : decode cL_law 699 = .ok (.bipush 12, 2) := by decide +kernel
theorem dL_law_701 : decode cL_law 701 = .ok (.idiv, 1) := by decide +kernel
theorem dL_law_702 : decode cL_law 702 = .ok (.iload 15, 2) := by decide +kernel
theorem dL_law_704 : decode cL_law 704 = .ok (.iconst 3, 1) := by decide +kernel
theorem dL_law_705 : decode cL_law 705 = .ok (.irem, 1) := by decide +kernel
theorem dL_law_706 : decode cL_law 706 = .ok (.ifCond .ne 8, 3) := by decide +kernel
theorem dL_law_709 : decode cL_law 709 = .ok (.bipush 30, 2) := by decide +kernel
theorem dL_law_711 : decode cL_law 711 = .ok (.goto 5, 3) := by decide +kernel
theorem dL_law_714 : decode cL_law 714 = .ok (.bipush 8, 2) := by decide +kernel
theorem dL_law_716 : decode cL_law 716 = .ok (.irem, 1) := by decide +kernel
theorem dL_law_717 : decode cL_law 717 = .ok (.iadd, 1) := by decide +kernel
theorem dL_law_718 : decode cL_law 718 = .ok (.istore 17, 2) := by decide +kernel
theorem dL_law_720 : decode cL_law 720 = .ok (.bipush (-13), 2) := by decide +kernel
theorem dL_law_722 : decode cL_law 722 = .ok (.istore 18, 2) := by decide +kernel
theorem dL_law_724 : decode cL_law 724 = .ok (.aload 7, 2) := by decide +kernel
theorem dL_law_726 : decode cL_law 726 = .ok (.iload 16, 2) := by decide +kernel
theorem dL_law_728 : decode cL_law 728 = .ok (.iaload, 1) := by decide +kernel
theorem dL_law_729 : decode cL_law 729 = .ok (.ifCond .eq 21, 3) := by decide +kernel
theorem dL_law_732 : decode cL_law 732 = .ok (.aload 7, 2) := by decide +kernel
theorem dL_law_734 : decode cL_law 734 = .ok (.iload 16, 2) := by decide +kernel
theorem dL_law_736 : decode cL_law 736 = .ok (.iaload, 1) := by decide +kernel
theorem dL_law_737 : decode cL_law 737 = .ok (.iconst 2, 1) := by decide +kernel
theorem dL_law_738 : decode cL_law 738 = .ok (.if_icmp .eq 12, 3) := by decide +kernel
theorem dL_law_741 : decode cL_law 741 = .ok (.aload 7, 2) := by decide +kernel
theorem dL_law_743 : decode cL_law 743 = .ok (.iload 16, 2) := by decide +kernel
theorem dL_law_745 : decode cL_law 745 = .ok (.iaload, 1) := by decide +kernel
theorem dL_law_746 : decode cL_law 746 = .ok (.iconst 3, 1) := by decide +kernel
theorem dL_law_747 : decode cL_law 747 = .ok (.if_icmp .ne 86, 3) := by decide +kernel
theorem dL_law_750 : decode cL_law 750 = .ok (.aload 7, 2) := by decide +kernel
theorem dL_law_752 : decode cL_law 752 = .ok (.bipush 36, 2) := by decide +kernel
theorem dL_law_754 : decode cL_law 754 = .ok (.iload 16, 2) := by decide +kernel
theorem dL_law_756 : decode cL_law 756 = .ok (.iadd, 1) := by decide +kernel
theorem dL_law_757 : decode cL_law 757 = .ok (.iaload, 1) := by decide +kernel
theorem dL_law_758 : decode cL_law 758 = .ok (.iconst 2, 1) := by decide +kernel
theorem dL_law_759 : decode cL_law 759 = .ok (.if_icmp .ge 74, 3) := by decide +kernel
theorem dL_law_762 : decode cL_law 762 = .ok (.aload 7, 2) := by decide +kernel
theorem dL_law_764 : decode cL_law 764 = .ok (.bipush 36, 2) := by decide +kernel
theorem dL_law_766 : decode cL_law 766 = .ok (.iload 16, 2) := by decide +kernel
theorem dL_law_768 : decode cL_law 768 = .ok (.iadd, 1) := by decide +kernel
theorem dL_law_769 : decode cL_law 769 = .ok (.dup2, 1) := by decide +kernel
theorem dL_law_770 : decode cL_law 770 = .ok (.iaload, 1) := by decide +kernel
theorem dL_law_771 : decode cL_law 771 = .ok (.iconst 1, 1) := by decide +kernel
theorem dL_law_772 : decode cL_law 772 = .ok (.iadd, 1) := by decide +kernel
theorem dL_law_773 : decode cL_law 773 = .ok (.iastore, 1) := by decide +kernel
theorem dL_law_774 : decode cL_law 774 = .ok (.aload 9, 2) := by decide +kernel
theorem dL_law_776 : decode cL_law 776 = .ok (.iload 16, 2) := by decide +kernel
theorem dL_law_778 : decode cL_law 778 = .ok (.aload 7, 2) := by decide +kernel
theorem dL_law_780 : decode cL_law 780 = .ok (.iload 16, 2) := by decide +kernel
theorem dL_law_782 : decode cL_law 782 = .ok (.iaload, 1) := by decide +kernel
theorem dL_law_783 : decode cL_law 783 = .ok (.iastore, 1) := by decide +kernel
theorem dL_law_784 : decode cL_law 784 = .ok (.aload 9, 2) := by decide +kernel
theorem dL_law_786 : decode cL_law 786 = .ok (.bipush 12, 2) := by decide +kernel
theorem dL_law_788 : decode cL_law 788 = .ok (.iload 16, 2) := by decide +kernel
theorem dL_law_790 : decode cL_law 790 = .ok (.iadd, 1) := by decide +kernel
theorem dL_law_791 : decode cL_law 791 = .ok (.aload 7, 2) := by decide +kernel
theorem dL_law_793 : decode cL_law 793 = .ok (.bipush 12, 2) := by decide +kernel
theorem dL_law_795 : decode cL_law 795 = .ok (.iload 16, 2) := by decide +kernel
theorem dL_law_797 : decode cL_law 797 = .ok (.iadd, 1) := by decide +kernel
theorem dL_law_798 : decode cL_law 798 = .ok (.iaload, 1) := by decide +kernel
theorem dL_law_799 : decode cL_law 799 = .ok (.aload_n 2, 1) := by decide +kernel
theorem dL_law_800 : decode cL_law 800 = .ok (.iconst 0, 1) := by decide +kernel
theorem dL_law_801 : decode cL_law 801 = .ok (.iaload, 1) := by decide +kernel
theorem dL_law_802 : decode cL_law 802 = .ok (.isub, 1) := by decide +kernel
theorem dL_law_803 : decode cL_law 803 = .ok (.iastore, 1) := by decide +kernel
theorem dL_law_804 : decode cL_law 804 = .ok (.aload_n 2, 1) := by decide +kernel
theorem dL_law_805 : decode cL_law 805 = .ok (.iconst 0, 1) := by decide +kernel
theorem dL_law_806 : decode cL_law 806 = .ok (.iaload, 1) := by decide +kernel
theorem dL_law_807 : decode cL_law 807 = .ok (.iload 17, 2) := by decide +kernel
theorem dL_law_809 : decode cL_law 809 = .ok (.iadd, 1) := by decide +kernel
theorem dL_law_810 : decode cL_law 810 = .ok (.istore 18, 2) := by decide +kernel
theorem dL_law_812 : decode cL_law 812 = .ok (.aload 7, 2) := by decide +kernel
theorem dL_law_814 : decode cL_law 814 = .ok (.bipush 12, 2) := by decide +kernel
theorem dL_law_816 : decode cL_law 816 = .ok (.iload 16, 2) := by decide +kernel
theorem dL_law_818 : decode cL_law 818 = .ok (.iadd, 1) := by decide +kernel
theorem dL_law_819 : decode cL_law 819 = .ok (.iload 18, 2) := by decide +kernel
theorem dL_law_821 : decode cL_law 821 = .ok (.iastore, 1) := by decide +kernel
theorem dL_law_822 : decode cL_law 822 = .ok (.aload_n 2, 1) := by decide +kernel
theorem dL_law_823 : decode cL_law 823 = .ok (.aload 7, 2) := by decide +kernel
theorem dL_law_825 : decode cL_law 825 = .ok (.aload 10, 2) := by decide +kernel
theorem dL_law_827 : decode cL_law 827 = .ok (.iload 16, 2) := by decide +kernel
theorem dL_law_829 : decode cL_law 829 = .ok (.iconst 4, 1) := by decide +kernel
theorem dL_law_830 : decode cL_law 830 = .ok (.invokestatic 17, 3) := by decide +kernel
theorem dL_law_833 : decode cL_law 833 = .ok (.aload_n 1, 1) := by decide +kernel
theorem dL_law_834 : decode cL_law 834 = .ok (.iconst 2, 1) := by decide +kernel
theorem dL_law_835 : decode cL_law 835 = .ok (.iload 16, 2) := by decide +kernel
theorem dL_law_837 : decode cL_law 837 = .ok (.iload 17, 2) := by decide +kernel
theorem dL_law_839 : decode cL_law 839 = .ok (.invokestatic 112, 3) := by decide +kernel
theorem dL_law_842 : decode cL_law 842 = .ok (.iload 18, 2) := by decide +kernel
theorem dL_law_844 : decode cL_law 844 = .ok (.if_icmp .ne 7, 3) := by decide +kernel
theorem dL_law_847 : decode cL_law 847 = .ok (.iconst 1, 1) := by decide +kernel
theorem dL_law_848 : decode cL_law 848 = .ok (.goto 4, 3) := by decide +kernel
theorem dL_law_851 : decode cL_law 851 = .ok (.iconst 0, 1) := by decide +kernel
theorem dL_law_852 : decode cL_law 852 = .ok (.istore 11, 2) := by decide +kernel
theorem dL_law_854 : decode cL_law 854 = .ok (.goto 571, 3) := by decide +kernel
theorem dL_law_857 : decode cL_law 857 = .ok (.iload 14, 2) := by decide +kernel
theorem dL_law_859 : decode cL_law 859 = .ok (.bipush 9, 2) := by decide +kernel
theorem dL_law_861 : decode cL_law 861 = .ok (.if_icmp .ne 124, 3) := by decide +kernel
theorem dL_law_864 : decode cL_law 864 = .ok (.aload_n 3, 1) := by decide +kernel
theorem dL_law_865 : decode cL_law 865 = .ok (.bipush 63, 2) := by decide +kernel
theorem dL_law_867 : decode cL_law 867 = .ok (.iaload, 1) := by decide +kernel
theorem dL_law_868 : decode cL_law 868 = .ok (.bipush 60, 2) := by decide +kernel
theorem dL_law_870 : decode cL_law 870 = .ok (.if_icmp .ge 115, 3) := by decide +kernel
theorem dL_law_873 : decode cL_law 873 = .ok (.aload_n 2, 1) := by decide +kernel
theorem dL_law_874 : decode cL_law 874 = .ok (.iconst 0, 1) := by decide +kernel
theorem dL_law_875 : decode cL_law 875 = .ok (.iaload, 1) := by decide +kernel
theorem dL_law_876 : decode cL_law 876 = .ok (.iconst 1, 1) := by decide +kernel
theorem dL_law_877 : decode cL_law 877 = .ok (.iadd, 1) := by decide +kernel
theorem dL_law_878 : decode cL_law 878 = .ok (.iload 15, 2) := by decide +kernel
theorem dL_law_880 : decode cL_law 880 = .ok (.bipush 60, 2) := by decide +kernel
theorem dL_law_882 : decode cL_law 882 = .ok (.irem, 1) := by decide +kernel
theorem dL_law_883 : decode cL_law 883 = .ok (.iload 15, 2) := by decide +kernel
theorem dL_law_885 : decode cL_law 885 = .ok (.iconst 2, 1) := by decide +kernel
theorem dL_law_886 : decode cL_law 886 = .ok (.irem, 1) := by decide +kernel
theorem dL_law_887 : decode cL_law 887 = .ok (.ifCond .ne 8, 3) := by decide +kernel
theorem dL_law_890 : decode cL_law 890 = .ok (.bipush 60, 2) := by decide +kernel
theorem dL_law_892 : decode cL_law 892 = .ok (.goto 5, 3) := by decide +kernel
theorem dL_law_895 : decode cL_law 895 = .ok (.bipush 6, 2) := by decide +kernel
theorem dL_law_897 : decode cL_law 897 = .ok (.irem, 1) := by decide +kernel
theorem dL_law_898 : decode cL_law 898 = .ok (.iadd, 1) := by decide +kernel
theorem dL_law_899 : decode cL_law 899 = .ok (.istore 17, 2) := by decide +kernel
theorem dL_law_901 : decode cL_law 901 = .ok (.iconst 1, 1) := by decide +kernel
theorem dL_law_902 : decode cL_law 902 = .ok (.istore 18, 2) := by decide +kernel
theorem dL_law_904 : decode cL_law 904 = .ok (.iconst 0, 1) := by decide +kernel
theorem dL_law_905 : decode cL_law 905 = .ok (.istore 19, 2) := by decide +kernel
theorem dL_law_907 : decode cL_law 907 = .ok (.iload 19, 2) := by decide +kernel
theorem dL_law_909 : decode cL_law 909 = .ok (.aload_n 3, 1) := by decide +kernel
theorem dL_law_910 : decode cL_law 910 = .ok (.bipush 63, 2) := by decide +kernel
theorem dL_law_912 : decode cL_law 912 = .ok (.iaload, 1) := by decide +kernel
theorem dL_law_913 : decode cL_law 913 = .ok (.if_icmp .ge 30, 3) := by decide +kernel
theorem dL_law_916 : decode cL_law 916 = .ok (.iload 18, 2) := by decide +kernel
theorem dL_law_918 : decode cL_law 918 = .ok (.ifCond .eq 16, 3) := by decide +kernel
theorem dL_law_921 : decode cL_law 921 = .ok (.aload_n 3, 1) := by decide +kernel
theorem dL_law_922 : decode cL_law 922 = .ok (.iload 19, 2) := by decide +kernel
theorem dL_law_924 : decode cL_law 924 = .ok (.iaload, 1) := by decide +kernel
theorem dL_law_925 : decode cL_law 925 = .ok (.iload 17, 2) := by decide +kernel
theorem dL_law_927 : decode cL_law 927 = .ok (.if_icmp .eq 7, 3) := by decide +kernel
theorem dL_law_930 : decode cL_law 930 = .ok (.iconst 1, 1) := by decide +kernel
theorem dL_law_931 : decode cL_law 931 = .ok (.goto 4, 3) := by decide +kernel
theorem dL_law_934 : decode cL_law 934 = .ok (.iconst 0, 1) := by decide +kernel
theorem dL_law_935 : decode cL_law 935 = .ok (.istore 18, 2) := by decide +kernel
theorem dL_law_937 : decode cL_law 937 = .ok (.iinc 19 1, 3) := by decide +kernel
theorem dL_law_940 : decode cL_law 940 = .ok (.goto (-33), 3) := by decide +kernel
theorem dL_law_943 : decode cL_law 943 = .ok (.aload_n 1, 1) := by decide +kernel
theorem dL_law_944 : decode cL_law 944 = .ok (.iload 17, 2) := by decide +kernel
theorem dL_law_946 : decode cL_law 946 = .ok (.invokevirtual 120, 3) := by decide +kernel
theorem dL_law_949 : decode cL_law 949 = .ok (.iload 18, 2) := by decide +kernel
theorem dL_law_951 : decode cL_law 951 = .ok (.if_icmp .ne 7, 3) := by decide +kernel
theorem dL_law_954 : decode cL_law 954 = .ok (.iconst 1, 1) := by decide +kernel
theorem dL_law_955 : decode cL_law 955 = .ok (.goto 4, 3) := by decide +kernel
theorem dL_law_958 : decode cL_law 958 = .ok (.iconst 0, 1) := by decide +kernel
theorem dL_law_959 : decode cL_law 959 = .ok (.istore 11, 2) := by decide +kernel
theorem dL_law_961 : decode cL_law 961 = .ok (.iload 18, 2) := by decide +kernel
theorem dL_law_963 : decode cL_law 963 = .ok (.ifCond .eq 19, 3) := by decide +kernel
theorem dL_law_966 : decode cL_law 966 = .ok (.aload_n 3, 1) := by decide +kernel
theorem dL_law_967 : decode cL_law 967 = .ok (.aload_n 3, 1) := by decide +kernel
theorem dL_law_968 : decode cL_law 968 = .ok (.bipush 63, 2) := by decide +kernel
theorem dL_law_970 : decode cL_law 970 = .ok (.iaload, 1) := by decide +kernel
theorem dL_law_971 : decode cL_law 971 = .ok (.iload 17, 2) := by decide +kernel
theorem dL_law_973 : decode cL_law 973 = .ok (.iastore, 1) := by decide +kernel
theorem dL_law_974 : decode cL_law 974 = .ok (.aload_n 3, 1) := by decide +kernel
theorem dL_law_975 : decode cL_law 975 = .ok (.bipush 63, 2) := by decide +kernel
theorem dL_law_977 : decode cL_law 977 = .ok (.dup2, 1) := by decide +kernel
theorem dL_law_978 : decode cL_law 978 = .ok (.iaload, 1) := by decide +kernel
theorem dL_law_979 : decode cL_law 979 = .ok (.iconst 1, 1) := by decide +kernel
theorem dL_law_980 : decode cL_law 980 = .ok (.iadd, 1) := by decide +kernel
theorem dL_law_981 : decode cL_law 981 = .ok (.iastore, 1) := by decide +kernel
theorem dL_law_982 : decode cL_law 982 = .ok (.goto 443, 3) := by decide +kernel
theorem dL_law_985 : decode cL_law 985 = .ok (.iload 14, 2) := by decide +kernel
theorem dL_law_987 : decode cL_law 987 = .ok (.bipush 10, 2) := by decide +kernel
theorem dL_law_989 : decode cL_law 989 = .ok (.if_icmp .ne 136, 3) := by decide +kernel
theorem dL_law_992 : decode cL_law 992 = .ok (.iload 15, 2) := by decide +kernel
theorem dL_law_994 : decode cL_law 994 = .ok (.bipush 7, 2) := by decide +kernel
theorem dL_law_996 : decode cL_law 996 = .ok (.irem, 1) := by decide +kernel
theorem dL_law_997 : decode cL_law 997 = .ok (.istore 17, 2) := by decide +kernel
theorem dL_law_999 : decode cL_law 999 = .ok (.iload 15, 2) := by decide +kernel
theorem dL_law_1001 : decode cL_law 1001 = .ok (.bipush 7, 2) := by decide +kernel
theorem dL_law_1003 : decode cL_law 1003 = .ok (.idiv, 1) := by decide +kernel
theorem dL_law_1004 : decode cL_law 1004 = .ok (.iconst 3, 1) := by decide +kernel
theorem dL_law_1005 : decode cL_law 1005 = .ok (.irem, 1) := by decide +kernel
theorem dL_law_1006 : decode cL_law 1006 = .ok (.ifCond .ne 16, 3) := by decide +kernel
theorem dL_law_1009 : decode cL_law 1009 = .ok (.aload_n 2, 1) := by decide +kernel
theorem dL_law_1010 : decode cL_law 1010 = .ok (.iconst 1, 1) := by decide +kernel
theorem dL_law_1011 : decode cL_law 1011 = .ok (.iaload, 1) := by decide +kernel
theorem dL_law_1012 : decode cL_law 1012 = .ok (.iconst 1, 1) := by decide +kernel
theorem dL_law_1013 : decode cL_law 1013 = .ok (.iload 17, 2) := by decide +kernel
theorem dL_law_1015 : decode cL_law 1015 = .ok (.ishl, 1) := by decide +kernel
theorem dL_law_1016 : decode cL_law 1016 = .ok (.iconst (-1), 1) := by decide +kernel
theorem dL_law_1017 : decode cL_law 1017 = .ok (.ixor, 1) := by decide +kernel
theorem dL_law_1018 : decode cL_law 1018 = .ok (.iand, 1) := by decide +kernel
theorem dL_law_1019 : decode cL_law 1019 = .ok (.goto 11, 3) := by decide +kernel
theorem dL_law_1022 : decode cL_law 1022 = .ok (.aload_n 2, 1) := by decide +kernel
theorem dL_law_1023 : decode cL_law 1023 = .ok (.iconst 1, 1) := by decide +kernel
theorem dL_law_1024 : decode cL_law 1024 = .ok (.iaload, 1) := by decide +kernel
theorem dL_law_1025 : decode cL_law 1025 = .ok (.iconst 1, 1) := by decide +kernel
theorem dL_law_1026 : decode cL_law 1026 = .ok (.iload 17, 2) := by decide +kernel
theorem dL_law_1028 : decode cL_law 1028 = .ok (.ishl, 1) := by decide +kernel
theorem dL_law_1029 : decode cL_law 1029 = .ok (.ior, 1) := by decide +kernel
theorem dL_law_1030 : decode cL_law 1030 = .ok (.istore 18, 2) := by decide +kernel
theorem dL_law_1032 : decode cL_law 1032 = .ok (.iconst 0, 1) := by decide +kernel
theorem dL_law_1033 : decode cL_law 1033 = .ok (.istore 19, 2) := by decide +kernel
theorem dL_law_1035 : decode cL_law 1035 = .ok (.iload 18, 2) := by decide +kernel
theorem dL_law_1037 : decode cL_law 1037 = .ok (.istore 20, 2) := by decide +kernel
theorem dL_law_1039 : decode cL_law 1039 = .ok (.iload 20, 2) := by decide +kernel
theorem dL_law_1041 : decode cL_law 1041 = .ok (.ifCond .le 21, 3) := by decide +kernel
theorem dL_law_1044 : decode cL_law 1044 = .ok (.iload 19, 2) := by decide +kernel
theorem dL_law_1046 : decode cL_law 1046 = .ok (.iload 20, 2) := by decide +kernel
theorem dL_law_1048 : decode cL_law 1048 = .ok (.iconst 1, 1) := by decide +kernel
theorem dL_law_1049 : decode cL_law 1049 = .ok (.iand, 1) := by decide +kernel
theorem dL_law_1050 : decode cL_law 1050 = .ok (.iadd, 1) := by decide +kernel
theorem dL_law_1051 : decode cL_law 1051 = .ok (.istore 19, 2) := by decide +kernel
theorem dL_law_1053 : decode cL_law 1053 = .ok (.iload 20, 2) := by decide +kernel
theorem dL_law_1055 : decode cL_law 1055 = .ok (.iconst 1, 1) := by decide +kernel
theorem dL_law_1056 : decode cL_law 1056 = .ok (.ishr, 1) := by decide +kernel
theorem dL_law_1057 : decode cL_law 1057 = .ok (.istore 20, 2) := by decide +kernel
theorem dL_law_1059 : decode cL_law 1059 = .ok (.goto (-20), 3) := by decide +kernel
theorem dL_law_1062 : decode cL_law 1062 = .ok (.aload_n 2, 1) := by decide +kernel
theorem dL_law_1063 : decode cL_law 1063 = .ok (.iconst 1, 1) := by decide +kernel
theorem dL_law_1064 : decode cL_law 1064 = .ok (.iload 18, 2) := by decide +kernel
theorem dL_law_1066 : decode cL_law 1066 = .ok (.ifCond .ne 9, 3) := by decide +kernel
theorem dL_law_1069 : decode cL_law 1069 = .ok (.aload_n 2, 1) := by decide +kernel
theorem dL_law_1070 : decode cL_law 1070 = .ok (.iconst 1, 1) := by decide +kernel
theorem dL_law_1071 : decode cL_law 1071 = .ok (.iaload, 1) := by decide +kernel
theorem dL_law_1072 : decode cL_law 1072 = .ok (.goto 5, 3) := by decide +kernel
theorem dL_law_1075 : decode cL_law 1075 = .ok (.iload 18, 2) := by decide +kernel
theorem dL_law_1077 : decode cL_law 1077 = .ok (.iastore, 1) := by decide +kernel
theorem dL_law_1078 : decode cL_law 1078 = .ok (.aload_n 1, 1) := by decide +kernel
theorem dL_law_1079 : decode cL_law 1079 = .ok (.iconst 4, 1) := by decide +kernel
theorem dL_law_1080 : decode cL_law 1080 = .ok (.iload 17, 2) := by decide +kernel
theorem dL_law_1082 : decode cL_law 1082 = .ok (.iload 15, 2) := by decide +kernel
theorem dL_law_1084 : decode cL_law 1084 = .ok (.bipush 7, 2) := by decide +kernel
theorem dL_law_1086 : decode cL_law 1086 = .ok (.idiv, 1) := by decide +kernel
theorem dL_law_1087 : decode cL_law 1087 = .ok (.iconst 3, 1) := by decide +kernel
theorem dL_law_1088 : decode cL_law 1088 = .ok (.irem, 1) := by decide +kernel
theorem dL_law_1089 : decode cL_law 1089 = .ok (.ifCond .ne 7, 3) := by decide +kernel
theorem dL_law_1092 : decode cL_law 1092 = .ok (.iconst 0, 1) := by decide +kernel
theorem dL_law_1093 : decode cL_law 1093 = .ok (.goto 4, 3) := by decide +kernel
theorem dL_law_1096 : decode cL_law 1096 = .ok (.iconst 1, 1) := by decide +kernel
theorem dL_law_1097 : decode cL_law 1097 = .ok (.invokestatic 112, 3) := by decide +kernel
theorem dL_law_1100 : decode cL_law 1100 = .ok (.iload 18, 2) := by decide +kernel
theorem dL_law_1102 : decode cL_law 1102 = .ok (.ifCond .ne 8, 3) := by decide +kernel
theorem dL_law_1105 : decode cL_law 1105 = .ok (.bipush (-13), 2) := by decide +kernel
theorem dL_law_1107 : decode cL_law 1107 = .ok (.goto 5, 3) := by decide +kernel
theorem dL_law_1110 : decode cL_law 1110 = .ok (.iload 19, 2) := by decide +kernel
theorem dL_law_1112 : decode cL_law 1112 = .ok (.if_icmp .ne 7, 3) := by decide +kernel
theorem dL_law_1115 : decode cL_law 1115 = .ok (.iconst 1, 1) := by decide +kernel
theorem dL_law_1116 : decode cL_law 1116 = .ok (.goto 4, 3) := by decide +kernel
theorem dL_law_1119 : decode cL_law 1119 = .ok (.iconst 0, 1) := by decide +kernel
theorem dL_law_1120 : decode cL_law 1120 = .ok (.istore 11, 2) := by decide +kernel
theorem dL_law_1122 : decode cL_law 1122 = .ok (.goto 303, 3) := by decide +kernel
theorem dL_law_1125 : decode cL_law 1125 = .ok (.iload 14, 2) := by decide +kernel
theorem dL_law_1127 : decode cL_law 1127 = .ok (.bipush 11, 2) := by decide +kernel
theorem dL_law_1129 : decode cL_law 1129 = .ok (.if_icmp .ne 144, 3) := by decide +kernel
theorem dL_law_1132 : decode cL_law 1132 = .ok (.iconst 1, 1) := by decide +kernel
theorem dL_law_1133 : decode cL_law 1133 = .ok (.iload 15, 2) := by decide +kernel
theorem dL_law_1135 : decode cL_law 1135 = .ok (.iconst 4, 1) := by decide +kernel
theorem dL_law_1136 : decode cL_law 1136 = .ok (.irem, 1) := by decide +kernel
theorem dL_law_1137 : decode cL_law 1137 = .ok (.iadd, 1) := by decide +kernel
theorem dL_law_1138 : decode cL_law 1138 = .ok (.istore 17, 2) := by decide +kernel
theorem dL_law_1140 : decode cL_law 1140 = .ok (.iload 15, 2) := by decide +kernel
theorem dL_law_1142 : decode cL_law 1142 = .ok (.iconst 4, 1) := by decide +kernel
theorem dL_law_1143 : decode cL_law 1143 = .ok (.idiv, 1) := by decide +kernel
theorem dL_law_1144 : decode cL_law 1144 = .ok (.iconst 4, 1) := by decide +kernel
theorem dL_law_1145 : decode cL_law 1145 = .ok (.irem, 1) := by decide +kernel
theorem dL_law_1146 : decode cL_law 1146 = .ok (.ifCond .ne 33, 3) := by decide +kernel
theorem dL_law_1149 : decode cL_law 1149 = .ok (.aload_n 1, 1) := by decide +kernel
theorem dL_law_1150 : decode cL_law 1150 = .ok (.iload 17, 2) := by decide +kernel
theorem dL_law_1152 : decode cL_law 1152 = .ok (.invokevirtual 123, 3) := by decide +kernel
theorem dL_law_1155 : decode cL_law 1155 = .ok (.aload 5, 2) := by decide +kernel
theorem dL_law_1157 : decode cL_law 1157 = .ok (.iload 17, 2) := by decide +kernel
theorem dL_law_1159 : decode cL_law 1159 = .ok (.iaload, 1) := by decide +kernel
theorem dL_law_1160 : decode cL_law 1160 = .ok (.if_icmp .ne 7, 3) := by decide +kernel
theorem dL_law_1163 : decode cL_law 1163 = .ok (.iconst 1, 1) := by decide +kernel
theorem dL_law_1164 : decode cL_law 1164 = .ok (.goto 4, 3) := by decide +kernel
theorem dL_law_1167 : decode cL_law 1167 = .ok (.iconst 0, 1) := by decide +kernel
theorem dL_law_1168 : decode cL_law 1168 = .ok (.istore 11, 2) := by decide +kernel
theorem dL_law_1170 : decode cL_law 1170 = .ok (.aload 5, 2) := by decide +kernel
theorem dL_law_1172 : decode cL_law 1172 = .ok (.iload 17, 2) := by decide +kernel
theorem dL_law_1174 : decode cL_law 1174 = .ok (.iconst 0, 1) := by decide +kernel
theorem dL_law_1175 : decode cL_law 1175 = .ok (.iastore, 1) := by decide +kernel
theorem dL_law_1176 : decode cL_law 1176 = .ok (.goto 94, 3) := by decide +kernel
theorem dL_law_1179 : decode cL_law 1179 = .ok (.aload 5, 2) := by decide +kernel
theorem dL_law_1181 : decode cL_law 1181 = .ok (.iload 17, 2) := by decide +kernel
theorem dL_law_1183 : decode cL_law 1183 = .ok (.iaload, 1) := by decide +kernel
theorem dL_law_1184 : decode cL_law 1184 = .ok (.bipush 6, 2) := by decide +kernel
theorem dL_law_1186 : decode cL_law 1186 = .ok (.if_icmp .ne 8, 3) := by decide +kernel
theorem dL_law_1189 : decode cL_law 1189 = .ok (.bipush (-13), 2) := by decide +kernel
theorem dL_law_1191 : decode cL_law 1191 = .ok (.goto 10, 3) := by decide +kernel
theorem dL_law_1194 : decode cL_law 1194 = .ok (.aload 5, 2) := by decide +kernel
theorem dL_law_1196 : decode cL_law 1196 = .ok (.iload 17, 2) := by decide +kernel
theorem dL_law_1198 : decode cL_law 1198 = .ok (.iaload, 1) := by decide +kernel
theorem dL_law_1199 : decode cL_law 1199 = .ok (.iconst 1, 1) := by decide +kernel
theorem dL_law_1200 : decode cL_law 1200 = .ok (.iadd, 1) := by decide +kernel
theorem dL_law_1201 : decode cL_law 1201 = .ok (.istore 18, 2) := by decide +kernel
theorem dL_law_1203 : decode cL_law 1203 = .ok (.iload 18, 2) := by decide +kernel
theorem dL_law_1205 : decode cL_law 1205 = .ok (.ifCond .le 36, 3) := by decide +kernel
theorem dL_law_1208 : decode cL_law 1208 = .ok (.aload 4, 2) := by decide +kernel
theorem dL_law_1210 : decode cL_law 1210 = .ok (.bipush 6, 2) := by decide +kernel
theorem dL_law_1212 : decode cL_law 1212 = .ok (.iload 17, 2) := by decide +kernel
theorem dL_law_1214 : decode cL_law 1214 = .ok (.imul, 1) := by decide +kernel
theorem dL_law_1215 : decode cL_law 1215 = .ok (.aload 5, 2) := by decide +kernel
theorem dL_law_1217 : decode cL_law 1217 = .ok (.iload 17, 2) := by decide +kernel
theorem dL_law_1219 : decode cL_law 1219 = .ok (.iaload, 1) := by decide +kernel
theorem dL_law_1220 : decode cL_law 1220 = .ok (.iadd, 1) := by decide +kernel
theorem dL_law_1221 : decode cL_law 1221 = .ok (.iconst 1, 1) := by decide +kernel
theorem dL_law_1222 : decode cL_law 1222 = .ok (.iload 15, 2) := by decide +kernel
theorem dL_law_1224 : decode cL_law 1224 = .ok (.bipush 16, 2) := by decide +kernel
theorem dL_law_1226 : decode cL_law 1226 = .ok (.idiv, 1) := by decide +kernel
theorem dL_law_1227 : decode cL_law 1227 = .ok (.bipush 30, 2) := by decide +kernel
theorem dL_law_1229 : decode cL_law 1229 = .ok (.irem, 1) := by decide +kernel
theorem dL_law_1230 : decode cL_law 1230 = .ok (.iadd, 1) := by decide +kernel
theorem dL_law_1231 : decode cL_law 1231 = .ok (.iastore, 1) := by decide +kernel
theorem dL_law_1232 : decode cL_law 1232 = .ok (.aload 5, 2) := by decide +kernel
theorem dL_law_1234 : decode cL_law 1234 = .ok (.iload 17, 2) := by decide +kernel
theorem dL_law_1236 : decode cL_law 1236 = .ok (.dup2, 1) := by decide +kernel
theorem dL_law_1237 : decode cL_law 1237 = .ok (.iaload, 1) := by decide +kernel
theorem dL_law_1238 : decode cL_law 1238 = .ok (.iconst 1, 1) := by decide +kernel
theorem dL_law_1239 : decode cL_law 1239 = .ok (.iadd, 1) := by decide +kernel
theorem dL_law_1240 : decode cL_law 1240 = .ok (.iastore, 1) := by decide +kernel
theorem dL_law_1241 : decode cL_law 1241 = .ok (.aload_n 1, 1) := by decide +kernel
theorem dL_law_1242 : decode cL_law 1242 = .ok (.iconst 3, 1) := by decide +kernel
theorem dL_law_1243 : decode cL_law 1243 = .ok (.iload 17, 2) := by decide +kernel
theorem dL_law_1245 : decode cL_law 1245 = .ok (.iconst 1, 1) := by decide +kernel
theorem dL_law_1246 : decode cL_law 1246 = .ok (.iload 15, 2) := by decide +kernel
theorem dL_law_1248 : decode cL_law 1248 = .ok (.bipush 16, 2) := by decide +kernel
theorem dL_law_1250 : decode cL_law 1250 = .ok (.idiv, 1) := by decide +kernel
theorem dL_law_1251 : decode cL_law 1251 = .ok (.bipush 30, 2) := by decide +kernel
theorem dL_law_1253 : decode cL_law 1253 = .ok (.irem, 1) := by decide +kernel
theorem dL_law_1254 : decode cL_law 1254 = .ok (.iadd, 1) := by decide +kernel
theorem dL_law_1255 : decode cL_law 1255 = .ok (.invokestatic 112, 3) := by decide +kernel
theorem dL_law_1258 : decode cL_law 1258 = .ok (.iload 18, 2) := by decide +kernel
theorem dL_law_1260 : decode cL_law 1260 = .ok (.if_icmp .ne 7, 3) := by decide +kernel
theorem dL_law_1263 : decode cL_law 1263 = .ok (.iconst 1, 1) := by decide +kernel
theorem dL_law_1264 : decode cL_law 1264 = .ok (.goto 4, 3) := by decide +kernel
theorem dL_law_1267 : decode cL_law 1267 = .ok (.iconst 0, 1) := by decide +kernel
theorem dL_law_1268 : decode cL_law 1268 = .ok (.istore 11, 2) := by decide +kernel
theorem dL_law_1270 : decode cL_law 1270 = .ok (.goto 155, 3) := by decide +kernel
theorem dL_law_1273 : decode cL_law 1273 = .ok (.iload 14, 2) := by decide +kernel
theorem dL_law_1275 : decode cL_law 1275 = .ok (.bipush 12, 2) := by decide +kernel
theorem dL_law_1277 : decode cL_law 1277 = .ok (.if_icmp .ne 66, 3) := by decide +kernel
theorem dL_law_1280 : decode cL_law 1280 = .ok (.iload 15, 2) := by decide +kernel
theorem dL_law_1282 : decode cL_law 1282 = .ok (.iconst 3, 1) := by decide +kernel
theorem dL_law_1283 : decode cL_law 1283 = .ok (.irem, 1) := by decide +kernel
theorem dL_law_1284 : decode cL_law 1284 = .ok (.ifCond .ne 59, 3) := by decide +kernel
theorem dL_law_1287 : decode cL_law 1287 = .ok (.aload_n 2, 1) := by decide +kernel
theorem dL_law_1288 : decode cL_law 1288 = .ok (.iconst 3, 1) := by decide +kernel
theorem dL_law_1289 : decode cL_law 1289 = .ok (.iaload, 1) := by decide +kernel
theorem dL_law_1290 : decode cL_law 1290 = .ok (.istore 17, 2) := by decide +kernel
theorem dL_law_1292 : decode cL_law 1292 = .ok (.aload_n 2, 1) := by decide +kernel
theorem dL_law_1293 : decode cL_law 1293 = .ok (.iconst 3, 1) := by decide +kernel
theorem dL_law_1294 : decode cL_law 1294 = .ok (.iconst 1, 1) := by decide +kernel
theorem dL_law_1295 : decode cL_law 1295 = .ok (.iload 15, 2) := by decide +kernel
theorem dL_law_1297 : decode cL_law 1297 = .ok (.iconst 3, 1) := by decide +kernel
theorem dL_law_1298 : decode cL_law 1298 = .ok (.idiv, 1) := by decide +kernel
theorem dL_law_1299 : decode cL_law 1299 = .ok (.bipush 60, 2) := by decide +kernel
theorem dL_law_1301 : decode cL_law 1301 = .ok (.irem, 1) := by decide +kernel
theorem dL_law_1302 : decode cL_law 1302 = .ok (.iadd, 1) := by decide +kernel
theorem dL_law_1303 : decode cL_law 1303 = .ok (.iastore, 1) := by decide +kernel
theorem dL_law_1304 : decode cL_law 1304 = .ok (.aload_n 2, 1) := by decide +kernel
theorem dL_law_1305 : decode cL_law 1305 = .ok (.iconst 4, 1) := by decide +kernel
theorem dL_law_1306 : decode cL_law 1306 = .ok (.iconst 1, 1) := by decide +kernel
theorem dL_law_1307 : decode cL_law 1307 = .ok (.iload 15, 2) := by decide +kernel
theorem dL_law_1309 : decode cL_law 1309 = .ok (.sipush 180, 3) := by decide +kernel
theorem dL_law_1312 : decode cL_law 1312 = .ok (.idiv, 1) := by decide +kernel
theorem dL_law_1313 : decode cL_law 1313 = .ok (.bipush 90, 2) := by decide +kernel
theorem dL_law_1315 : decode cL_law 1315 = .ok (.irem, 1) := by decide +kernel
theorem dL_law_1316 : decode cL_law 1316 = .ok (.iadd, 1) := by decide +kernel
theorem dL_law_1317 : decode cL_law 1317 = .ok (.iastore, 1) := by decide +kernel
theorem dL_law_1318 : decode cL_law 1318 = .ok (.aload_n 1, 1) := by decide +kernel
theorem dL_law_1319 : decode cL_law 1319 = .ok (.aload_n 2, 1) := by decide +kernel
theorem dL_law_1320 : decode cL_law 1320 = .ok (.iconst 3, 1) := by decide +kernel
theorem dL_law_1321 : decode cL_law 1321 = .ok (.iaload, 1) := by decide +kernel
theorem dL_law_1322 : decode cL_law 1322 = .ok (.aload_n 2, 1) := by decide +kernel
theorem dL_law_1323 : decode cL_law 1323 = .ok (.iconst 4, 1) := by decide +kernel
theorem dL_law_1324 : decode cL_law 1324 = .ok (.iaload, 1) := by decide +kernel
theorem dL_law_1325 : decode cL_law 1325 = .ok (.invokevirtual 126, 3) := by decide +kernel
theorem dL_law_1328 : decode cL_law 1328 = .ok (.iload 17, 2) := by decide +kernel
theorem dL_law_1330 : decode cL_law 1330 = .ok (.if_icmp .ne 7, 3) := by decide +kernel
theorem dL_law_1333 : decode cL_law 1333 = .ok (.iconst 1, 1) := by decide +kernel
theorem dL_law_1334 : decode cL_law 1334 = .ok (.goto 4, 3) := by decide +kernel
theorem dL_law_1337 : decode cL_law 1337 = .ok (.iconst 0, 1) := by decide +kernel
theorem dL_law_1338 : decode cL_law 1338 = .ok (.istore 11, 2) := by decide +kernel
theorem dL_law_1340 : decode cL_law 1340 = .ok (.goto 85, 3) := by decide +kernel
theorem dL_law_1343 : decode cL_law 1343 = .ok (.iconst 1, 1) := by decide +kernel
theorem dL_law_1344 : decode cL_law 1344 = .ok (.iload 15, 2) := by decide +kernel
theorem dL_law_1346 : decode cL_law 1346 = .ok (.iload 15, 2) := by decide +kernel
theorem dL_law_1348 : decode cL_law 1348 = .ok (.bipush 6, 2) := by decide +kernel
theorem dL_law_1350 : decode cL_law 1350 = .ok (.irem, 1) := by decide +kernel
theorem dL_law_1351 : decode cL_law 1351 = .ok (.ifCond .ne 8, 3) := by decide +kernel
theorem dL_law_1354 : decode cL_law 1354 = .ok (.bipush 60, 2) := by decide +kernel
theorem dL_law_1356 : decode cL_law 1356 = .ok (.goto 4, 3) := by decide +kernel
theorem dL_law_1359 : decode cL_law 1359 = .ok (.iconst 5, 1) := by decide +kernel
theorem dL_law_1360 : decode cL_law 1360 = .ok (.irem, 1) := by decide +kernel
theorem dL_law_1361 : decode cL_law 1361 = .ok (.iadd, 1) := by decide +kernel
theorem dL_law_1362 : decode cL_law 1362 = .ok (.istore 17, 2) := by decide +kernel
theorem dL_law_1364 : decode cL_law 1364 = .ok (.iconst 0, 1) := by decide +kernel
theorem dL_law_1365 : decode cL_law 1365 = .ok (.istore 18, 2) := by decide +kernel
theorem dL_law_1367 : decode cL_law 1367 = .ok (.iconst 0, 1) := by decide +kernel
theorem dL_law_1368 : decode cL_law 1368 = .ok (.istore 19, 2) := by decide +kernel
theorem dL_law_1370 : decode cL_law 1370 = .ok (.iload 19, 2) := by decide +kernel
theorem dL_law_1372 : decode cL_law 1372 = .ok (.iload 17, 2) := by decide +kernel
theorem dL_law_1374 : decode cL_law 1374 = .ok (.if_icmp .ge 33, 3) := by decide +kernel
theorem dL_law_1377 : decode cL_law 1377 = .ok (.iload 18, 2) := by decide +kernel
theorem dL_law_1379 : decode cL_law 1379 = .ok (.aload_n 2, 1) := by decide +kernel
theorem dL_law_1380 : decode cL_law 1380 = .ok (.aload_n 3, 1) := by decide +kernel
theorem dL_law_1381 : decode cL_law 1381 = .ok (.aload 4, 2) := by decide +kernel
theorem dL_law_1383 : decode cL_law 1383 = .ok (.aload 5, 2) := by decide +kernel
theorem dL_law_1385 : decode cL_law 1385 = .ok (.aload 6, 2) := by decide +kernel
theorem dL_law_1387 : decode cL_law 1387 = .ok (.aload 7, 2) := by decide +kernel
theorem dL_law_1389 : decode cL_law 1389 = .ok (.aload 8, 2) := by decide +kernel
theorem dL_law_1391 : decode cL_law 1391 = .ok (.aload 9, 2) := by decide +kernel
theorem dL_law_1393 : decode cL_law 1393 = .ok (.aload 10, 2) := by decide +kernel
theorem dL_law_1395 : decode cL_law 1395 = .ok (.invokestatic 129, 3) := by decide +kernel
theorem dL_law_1398 : decode cL_law 1398 = .ok (.iadd, 1) := by decide +kernel
theorem dL_law_1399 : decode cL_law 1399 = .ok (.istore 18, 2) := by decide +kernel
theorem dL_law_1401 : decode cL_law 1401 = .ok (.iinc 19 1, 3) := by decide +kernel
theorem dL_law_1404 : decode cL_law 1404 = .ok (.goto (-34), 3) := by decide +kernel
theorem dL_law_1407 : decode cL_law 1407 = .ok (.aload_n 1, 1) := by decide +kernel
theorem dL_law_1408 : decode cL_law 1408 = .ok (.iload 17, 2) := by decide +kernel
theorem dL_law_1410 : decode cL_law 1410 = .ok (.invokevirtual 133, 3) := by decide +kernel
theorem dL_law_1413 : decode cL_law 1413 = .ok (.iload 18, 2) := by decide +kernel
theorem dL_law_1415 : decode cL_law 1415 = .ok (.if_icmp .ne 7, 3) := by decide +kernel
theorem dL_law_1418 : decode cL_law 1418 = .ok (.iconst 1, 1) := by decide +kernel
theorem dL_law_1419 : decode cL_law 1419 = .ok (.goto 4, 3) := by decide +kernel
theorem dL_law_1422 : decode cL_law 1422 = .ok (.iconst 0, 1) := by decide +kernel
theorem dL_law_1423 : decode cL_law 1423 = .ok (.istore 11, 2) := by decide +kernel
theorem dL_law_1425 : decode cL_law 1425 = .ok (.iload 11, 2) := by decide +kernel
theorem dL_law_1427 : decode cL_law 1427 = .ok (.ifCond .eq 28, 3) := by decide +kernel
theorem dL_law_1430 : decode cL_law 1430 = .ok (.aload_n 1, 1) := by decide +kernel
theorem dL_law_1431 : decode cL_law 1431 = .ok (.aload_n 2, 1) := by decide +kernel
theorem dL_law_1432 : decode cL_law 1432 = .ok (.aload_n 3, 1) := by decide +kernel
theorem dL_law_1433 : decode cL_law 1433 = .ok (.aload 6, 2) := by decide +kernel
theorem dL_law_1435 : decode cL_law 1435 = .ok (.aload 7, 2) := by decide +kernel
theorem dL_law_1437 : decode cL_law 1437 = .ok (.aload 8, 2) := by decide +kernel
theorem dL_law_1439 : decode cL_law 1439 = .ok (.aload 9, 2) := by decide +kernel
theorem dL_law_1441 : decode cL_law 1441 = .ok (.aload 10, 2) := by decide +kernel
theorem dL_law_1443 : decode cL_law 1443 = .ok (.iload 15, 2) := by decide +kernel
theorem dL_law_1445 : decode cL_law 1445 = .ok (.invokestatic 104, 3) := by decide +kernel
theorem dL_law_1448 : decode cL_law 1448 = .ok (.ifCond .eq 7, 3) := by decide +kernel
theorem dL_law_1451 : decode cL_law 1451 = .ok (.iconst 1, 1) := by decide +kernel
theorem dL_law_1452 : decode cL_law 1452 = .ok (.goto 4, 3) := by decide +kernel
theorem dL_law_1455 : decode cL_law 1455 = .ok (.iconst 0, 1) := by decide +kernel
theorem dL_law_1456 : decode cL_law 1456 = .ok (.istore 11, 2) := by decide +kernel
theorem dL_law_1458 : decode cL_law 1458 = .ok (.iinc 12 1, 3) := by decide +kernel
theorem dL_law_1461 : decode cL_law 1461 = .ok (.goto (-1302), 3) := by decide +kernel
theorem dL_law_1464 : decode cL_law 1464 = .ok (.iload 11, 2) := by decide +kernel
theorem dL_law_1466 : decode cL_law 1466 = .ok (.ireturn, 1) := by decide +kernel
abbrev vwCl : List vw_C := [(RX0, TX0, 11), (RX1, TX1, 2), (RX2, TX2, 2), (RX3, TX3, 2), (RX4, TX4, 12)]
end
section
/-- the good words of the tables -/
def WT : List Cond := lw_tbl.filter goodWord
theorem wt_tab {w : Cond} (i : Nat) (h : tables_1[i]? = some w) (g : goodWord w = true) : w ∈ WT := List.mem_filter.mpr ⟨List.mem_append_right _ (List.mem_of_getElem? h), g⟩
theorem wt_sel {w : Cond} (i : Nat) (h : (k2_sels lw_privs)[i]? = some w) (g : goodWord w = true) : w ∈ WT := List.mem_filter.mpr ⟨List.mem_append_left _ (List.mem_of_getElem? h), g⟩
theorem wt_sub : ∀ w ∈ WT, w ∈ lw_tbl := fun w h => (List.mem_filter.mp h).1
theorem wt_good : ∀ w ∈ WT, goodWord w = true := fun w h => (List.mem_filter.mp h).2
theorem wt_gi {ws : List Cond} (h : ∀ w ∈ ws, w ∈ WT) : GoodIn WT ws := fun w hw => ⟨h w hw, good_of_word (wt_good w (h w hw))⟩
theorem wt_0 : (Jvm.Cond.initialized "CollectionsEngineLaw") ∈ WT := wt_tab 0 (by decide +kernel) (by decide +kernel)
theorem wt_1 : (Jvm.Cond.initialized "CollectionsEngine") ∈ WT := wt_tab 1 (by decide +kernel) (by decide +kernel)
theorem wt_2 : (Jvm.Cond.initialized "CollectionsEngine$Calendar") ∈ WT := wt_tab 2 (by decide +kernel) (by decide +kernel)
theorem wt_3 : (Jvm.Cond.initialized "CollectionsEngine$Gaps") ∈ WT := wt_tab 3 (by decide +kernel) (by decide +kernel)
theorem wt_4 : (Jvm.Cond.initialized "CollectionsEngine$EventLog") ∈ WT := wt_tab 4 (by decide +kernel) (by decide +kernel)
theorem wt_5 : (Jvm.Cond.initialized "java/lang/Throwable") ∈ WT := wt_tab 5 (by decide +kernel) (by decide +kernel)
theorem wt_6 : (Jvm.Cond.initialized "java/lang/Exception") ∈ WT := wt_tab 6 (by decide +kernel) (by decide +kernel)
theorem wt_7 : (Jvm.Cond.initialized "java/lang/RuntimeException") ∈ WT := wt_tab 7 (by decide +kernel) (by decide +kernel)
theorem wt_8 : (Jvm.Cond.initialized "java/lang/IllegalArgumentException") ∈ WT := wt_tab 8 (by decide +kernel) (by decide +kernel)
theorem wt_9 : (Jvm.Cond.initialized "java/lang/Math") ∈ WT := wt_tab 9 (by decide +kernel) (by decide +kernel)
theorem wt_10 : (Jvm.Cond.initialized "java/lang/IndexOutOfBoundsException") ∈ WT := wt_tab 10 (by decide +kernel) (by decide +kernel)
theorem wt_11 : (Jvm.Cond.initialized "java/lang/IllegalStateException") ∈ WT := wt_tab 11 (by decide +kernel) (by decide +kernel)
theorem wt_12 : (Jvm.Cond.initialized "CollectionsEngine$Bill") ∈ WT := wt_tab 12 (by decide +kernel) (by decide +kernel)
theorem wt_13 : (Jvm.Cond.initialized "java/lang/Integer") ∈ WT := wt_tab 13 (by decide +kernel) (by decide +kernel)
theorem wt_14 : (Jvm.Cond.classLink "CollectionsEngineLaw" (26 : Nat) "CollectionsEngine") ∈ WT := wt_tab 14 (by decide +kernel) (by decide +kernel)
theorem wt_15 : (Jvm.Cond.instantiable "CollectionsEngine" (12 : Nat)) ∈ WT := wt_tab 15 (by decide +kernel) (by decide +kernel)
theorem wt_16 : (Jvm.Cond.methodLink "CollectionsEngineLaw" (103 : Nat) ({ cls := "CollectionsEngine", name := "<init>", desc := "()V" } : Jvm.MethodName)) ∈ WT := wt_tab 16 (by decide +kernel) (by decide +kernel)
theorem wt_17 : (Jvm.Cond.instanceMethod ({ cls := "CollectionsEngine", name := "<init>", desc := "()V" } : Jvm.MethodName)) ∈ WT := wt_tab 17 (by decide +kernel) (by decide +kernel)
theorem wt_18 : (Jvm.Cond.code ({ cls := "CollectionsEngine", name := "<init>", desc := "()V" } : Jvm.MethodName) prog_1_method_1_code (1 : Nat) (Option.none : Option Jvm.ClassFile.FieldType)) ∈ WT := wt_tab 18 (by decide +kernel) (by decide +kernel)
theorem wt_19 : (Jvm.Cond.methodLink "CollectionsEngine" (1 : Nat) ({ cls := "java/lang/Object", name := "<init>", desc := "()V" } : Jvm.MethodName)) ∈ WT := wt_tab 19 (by decide +kernel) (by decide +kernel)
theorem wt_20 : (Jvm.Cond.instanceMethod ({ cls := "java/lang/Object", name := "<init>", desc := "()V" } : Jvm.MethodName)) ∈ WT := wt_tab 20 (by decide +kernel) (by decide +kernel)
theorem wt_21 : (Jvm.Cond.code ({ cls := "java/lang/Object", name := "<init>", desc := "()V" } : Jvm.MethodName) object_method_1_code (1 : Nat) (Option.none : Option Jvm.ClassFile.FieldType)) ∈ WT := wt_tab 21 (by decide +kernel) (by decide +kernel)
theorem wt_22 : (Jvm.Cond.classLink "CollectionsEngine" (7 : Nat) "CollectionsEngine$Calendar") ∈ WT := wt_tab 22 (by decide +kernel) (by decide +kernel)
theorem wt_23 : (Jvm.Cond.instantiable "CollectionsEngine$Calendar" (2 : Nat)) ∈ WT := wt_tab 23 (by decide +kernel) (by decide +kernel)
theorem wt_24 : (Jvm.Cond.methodLink "CollectionsEngine" (9 : Nat) ({ cls := "CollectionsEngine$Calendar", name := "<init>", desc := "()V" } : Jvm.MethodName)) ∈ WT := wt_tab 24 (by decide +kernel) (by decide +kernel)
theorem wt_25 : (Jvm.Cond.instanceMethod ({ cls := "CollectionsEngine$Calendar", name := "<init>", desc := "()V" } : Jvm.MethodName)) ∈ WT := wt_tab 25 (by decide +kernel) (by decide +kernel)
theorem wt_26 : (Jvm.Cond.code ({ cls := "CollectionsEngine$Calendar", name := "<init>", desc := "()V" } : Jvm.MethodName) prog_3_method_1_code (1 : Nat) (Option.none : Option Jvm.ClassFile.FieldType)) ∈ WT := wt_tab 26 (by decide +kernel) (by decide +kernel)
theorem wt_27 : (Jvm.Cond.methodLink "CollectionsEngine$Calendar" (1 : Nat) ({ cls := "java/lang/Object", name := "<init>", desc := "()V" } : Jvm.MethodName)) ∈ WT := wt_tab 27 (by decide +kernel) (by decide +kernel)
theorem wt_28 : (Jvm.Cond.fieldLink "CollectionsEngine$Calendar" (9 : Nat) "CollectionsEngine$Calendar" "weekdays" "I") ∈ WT := wt_tab 28 (by decide +kernel) (by decide +kernel)
theorem wt_29 : (Jvm.Cond.fieldLink "CollectionsEngine" (74 : Nat) "CollectionsEngine$Calendar" "weekdays" "I") ∈ WT := wt_tab 29 (by decide +kernel) (by decide +kernel)
theorem wt_30 : (Jvm.Cond.fieldLink "CollectionsEngine$Calendar" (13 : Nat) "CollectionsEngine$Calendar" "holidays" "[J") ∈ WT := wt_tab 30 (by decide +kernel) (by decide +kernel)
theorem wt_36 : (Jvm.Cond.arrayClass Jvm.ClassFile.FieldType.long) ∈ WT := wt_tab 36 (by decide +kernel) (by decide +kernel)
theorem wt_37 : (Jvm.Cond.classLink "CollectionsEngine" (16 : Nat) "CollectionsEngine$Gaps") ∈ WT := wt_tab 37 (by decide +kernel) (by decide +kernel)
theorem wt_39 : (Jvm.Cond.instantiable "CollectionsEngine$Gaps" (2 : Nat)) ∈ WT := wt_tab 39 (by decide +kernel) (by decide +kernel)
theorem wt_40 : (Jvm.Cond.fieldLink "CollectionsEngine" (18 : Nat) "CollectionsEngine" "FIRST_GAPS_NO_MONEY" "[I") ∈ WT := wt_tab 40 (by decide +kernel) (by decide +kernel)
theorem wt_42 : (Jvm.Cond.methodLink "CollectionsEngine" (22 : Nat) ({ cls := "CollectionsEngine$Gaps", name := "<init>", desc := "([I)V" } : Jvm.MethodName)) ∈ WT := wt_tab 42 (by decide +kernel) (by decide +kernel)
theorem wt_43 : (Jvm.Cond.instanceMethod ({ cls := "CollectionsEngine$Gaps", name := "<init>", desc := "([I)V" } : Jvm.MethodName)) ∈ WT := wt_tab 43 (by decide +kernel) (by decide +kernel)
theorem wt_44 : (Jvm.Cond.code ({ cls := "CollectionsEngine$Gaps", name := "<init>", desc := "([I)V" } : Jvm.MethodName) prog_5_method_1_code (3 : Nat) (Option.none : Option Jvm.ClassFile.FieldType)) ∈ WT := wt_tab 44 (by decide +kernel) (by decide +kernel)
theorem wt_45 : (Jvm.Cond.methodLink "CollectionsEngine$Gaps" (3 : Nat) ({ cls := "java/lang/Object", name := "<init>", desc := "()V" } : Jvm.MethodName)) ∈ WT := wt_tab 45 (by decide +kernel) (by decide +kernel)
theorem wt_46 : (Jvm.Cond.fieldLink "CollectionsEngine$Gaps" (9 : Nat) "CollectionsEngine$Gaps" "days" "[I") ∈ WT := wt_tab 46 (by decide +kernel) (by decide +kernel)
theorem wt_47 : (Jvm.Cond.fieldLink "CollectionsEngine$Gaps" (15 : Nat) "CollectionsEngine$Gaps" "count" "I") ∈ WT := wt_tab 47 (by decide +kernel) (by decide +kernel)
theorem wt_48 : (Jvm.Cond.fieldLink "CollectionsEngine" (101 : Nat) "CollectionsEngine$Gaps" "count" "I") ∈ WT := wt_tab 48 (by decide +kernel) (by decide +kernel)
theorem wt_54 : (Jvm.Cond.arrayClass Jvm.ClassFile.FieldType.int) ∈ WT := wt_tab 54 (by decide +kernel) (by decide +kernel)
theorem wt_55 : (Jvm.Cond.fieldLink "CollectionsEngine" (25 : Nat) "CollectionsEngine" "FIRST_GAPS_EXPIRED" "[I") ∈ WT := wt_tab 55 (by decide +kernel) (by decide +kernel)
theorem wt_57 : (Jvm.Cond.fieldLink "CollectionsEngine" (28 : Nat) "CollectionsEngine" "FIRST_GAPS_BLOCKED" "[I") ∈ WT := wt_tab 57 (by decide +kernel) (by decide +kernel)
theorem wt_59 : (Jvm.Cond.fieldLink "CollectionsEngine" (31 : Nat) "CollectionsEngine" "FIRST_GAPS_ERROR" "[I") ∈ WT := wt_tab 59 (by decide +kernel) (by decide +kernel)
theorem wt_61 : (Jvm.Cond.classLink "CollectionsEngine" (38 : Nat) "CollectionsEngine$Bill") ∈ WT := wt_tab 61 (by decide +kernel) (by decide +kernel)
theorem wt_63 : (Jvm.Cond.classLink "CollectionsEngine" (44 : Nat) "CollectionsEngine$EventLog") ∈ WT := wt_tab 63 (by decide +kernel) (by decide +kernel)
theorem wt_64 : (Jvm.Cond.instantiable "CollectionsEngine$EventLog" (2 : Nat)) ∈ WT := wt_tab 64 (by decide +kernel) (by decide +kernel)
theorem wt_65 : (Jvm.Cond.methodLink "CollectionsEngine" (46 : Nat) ({ cls := "CollectionsEngine$EventLog", name := "<init>", desc := "()V" } : Jvm.MethodName)) ∈ WT := wt_tab 65 (by decide +kernel) (by decide +kernel)
theorem wt_66 : (Jvm.Cond.instanceMethod ({ cls := "CollectionsEngine$EventLog", name := "<init>", desc := "()V" } : Jvm.MethodName)) ∈ WT := wt_tab 66 (by decide +kernel) (by decide +kernel)
theorem wt_67 : (Jvm.Cond.code ({ cls := "CollectionsEngine$EventLog", name := "<init>", desc := "()V" } : Jvm.MethodName) prog_4_method_1_code (1 : Nat) (Option.none : Option Jvm.ClassFile.FieldType)) ∈ WT := wt_tab 67 (by decide +kernel) (by decide +kernel)
theorem wt_68 : (Jvm.Cond.methodLink "CollectionsEngine$EventLog" (3 : Nat) ({ cls := "java/lang/Object", name := "<init>", desc := "()V" } : Jvm.MethodName)) ∈ WT := wt_tab 68 (by decide +kernel) (by decide +kernel)
theorem wt_69 : (Jvm.Cond.fieldLink "CollectionsEngine$EventLog" (9 : Nat) "CollectionsEngine$EventLog" "codes" "[I") ∈ WT := wt_tab 69 (by decide +kernel) (by decide +kernel)
theorem wt_70 : (Jvm.Cond.fieldLink "CollectionsEngine$EventLog" (15 : Nat) "CollectionsEngine$EventLog" "total" "I") ∈ WT := wt_tab 70 (by decide +kernel) (by decide +kernel)
theorem wt_71 : (Jvm.Cond.fieldLink "CollectionsEngine" (206 : Nat) "CollectionsEngine$EventLog" "total" "I") ∈ WT := wt_tab 71 (by decide +kernel) (by decide +kernel)
theorem wt_77 : (Jvm.Cond.fieldLink "CollectionsEngine" (10 : Nat) "CollectionsEngine" "calendar" "LCollectionsEngine$Calendar;") ∈ WT := wt_tab 77 (by decide +kernel) (by decide +kernel)
theorem wt_78 : (Jvm.Cond.fieldLink "CollectionsEngine" (34 : Nat) "CollectionsEngine" "gaps" "[LCollectionsEngine$Gaps;") ∈ WT := wt_tab 78 (by decide +kernel) (by decide +kernel)
theorem wt_79 : (Jvm.Cond.fieldLink "CollectionsEngine" (40 : Nat) "CollectionsEngine" "billRow" "[LCollectionsEngine$Bill;") ∈ WT := wt_tab 79 (by decide +kernel) (by decide +kernel)
theorem wt_80 : (Jvm.Cond.fieldLink "CollectionsEngine" (47 : Nat) "CollectionsEngine" "log" "LCollectionsEngine$EventLog;") ∈ WT := wt_tab 80 (by decide +kernel) (by decide +kernel)
theorem wt_81 : (Jvm.Cond.fieldLink "CollectionsEngine" (112 : Nat) "CollectionsEngine" "billCount" "I") ∈ WT := wt_tab 81 (by decide +kernel) (by decide +kernel)
theorem wt_82 : (Jvm.Cond.fieldLink "CollectionsEngine" (83 : Nat) "CollectionsEngine" "currentDay" "I") ∈ WT := wt_tab 82 (by decide +kernel) (by decide +kernel)
theorem wt_83 : (Jvm.Cond.fieldLink "CollectionsEngine" (51 : Nat) "CollectionsEngine" "graceTime" "I") ∈ WT := wt_tab 83 (by decide +kernel) (by decide +kernel)
theorem wt_84 : (Jvm.Cond.fieldLink "CollectionsEngine" (55 : Nat) "CollectionsEngine" "overdueTime" "I") ∈ WT := wt_tab 84 (by decide +kernel) (by decide +kernel)
theorem wt_85 : (Jvm.Cond.fieldLink "CollectionsEngine" (119 : Nat) "CollectionsEngine" "billedSum" "I") ∈ WT := wt_tab 85 (by decide +kernel) (by decide +kernel)
theorem wt_86 : (Jvm.Cond.fieldLink "CollectionsEngine" (197 : Nat) "CollectionsEngine" "paidSum" "I") ∈ WT := wt_tab 86 (by decide +kernel) (by decide +kernel)
theorem wt_87 : (Jvm.Cond.fieldLink "CollectionsEngine" (200 : Nat) "CollectionsEngine" "writtenOffSum" "I") ∈ WT := wt_tab 87 (by decide +kernel) (by decide +kernel)
theorem wt_88 : (Jvm.Cond.fieldLink "CollectionsEngine" (203 : Nat) "CollectionsEngine" "broughtBackSum" "I") ∈ WT := wt_tab 88 (by decide +kernel) (by decide +kernel)
theorem wt_114 : (Jvm.Cond.methodLink "CollectionsEngineLaw" (120 : Nat) ({ cls := "CollectionsEngine", name := "addHoliday", desc := "(I)Z" } : Jvm.MethodName)) ∈ WT := wt_tab 114 (by decide +kernel) (by decide +kernel)
theorem wt_115 : (Jvm.Cond.instanceMethod ({ cls := "CollectionsEngine", name := "addHoliday", desc := "(I)Z" } : Jvm.MethodName)) ∈ WT := wt_tab 115 (by decide +kernel) (by decide +kernel)
theorem wt_116 : (Jvm.Cond.selects "CollectionsEngine" ({ cls := "CollectionsEngine", name := "addHoliday", desc := "(I)Z" } : Jvm.MethodName) ({ cls := "CollectionsEngine", name := "addHoliday", desc := "(I)Z" } : Jvm.MethodName)) ∈ WT := wt_tab 116 (by decide +kernel) (by decide +kernel)
theorem wt_117 : (Jvm.Cond.code ({ cls := "CollectionsEngine", name := "addHoliday", desc := "(I)Z" } : Jvm.MethodName) prog_1_method_3_code (3 : Nat) (Option.some Jvm.ClassFile.FieldType.boolean)) ∈ WT := wt_tab 117 (by decide +kernel) (by decide +kernel)
theorem wt_118 : (Jvm.Cond.methodLink "CollectionsEngine" (86 : Nat) ({ cls := "CollectionsEngine", name := "checkRange", desc := "(III)V" } : Jvm.MethodName)) ∈ WT := wt_tab 118 (by decide +kernel) (by decide +kernel)
theorem wt_119 : (Jvm.Cond.static ({ cls := "CollectionsEngine", name := "checkRange", desc := "(III)V" } : Jvm.MethodName)) ∈ WT := wt_tab 119 (by decide +kernel) (by decide +kernel)
theorem wt_120 : (Jvm.Cond.code ({ cls := "CollectionsEngine", name := "checkRange", desc := "(III)V" } : Jvm.MethodName) prog_1_method_30_code (3 : Nat) (Option.none : Option Jvm.ClassFile.FieldType)) ∈ WT := wt_tab 120 (by decide +kernel) (by decide +kernel)
theorem wt_121 : (Jvm.Cond.classLink "CollectionsEngine" (220 : Nat) "java/lang/IllegalArgumentException") ∈ WT := wt_tab 121 (by decide +kernel) (by decide +kernel)
theorem wt_122 : (Jvm.Cond.instantiable "java/lang/IllegalArgumentException" (6 : Nat)) ∈ WT := wt_tab 122 (by decide +kernel) (by decide +kernel)
theorem wt_130 : (Jvm.Cond.selects "java/lang/IllegalArgumentException" ({ cls := "java/lang/Throwable", name := "fillInStackTrace", desc := "(I)Ljava/lang/Throwable;" } : Jvm.MethodName) ({ cls := "java/lang/Throwable", name := "fillInStackTrace", desc := "(I)Ljava/lang/Throwable;" } : Jvm.MethodName)) ∈ WT := wt_tab 130 (by decide +kernel) (by decide +kernel)
theorem wt_131 : (Jvm.Cond.selects "java/lang/IllegalArgumentException" ({ cls := "java/lang/Throwable", name := "fillInStackTrace", desc := "()Ljava/lang/Throwable;" } : Jvm.MethodName) ({ cls := "java/lang/Throwable", name := "fillInStackTrace", desc := "()Ljava/lang/Throwable;" } : Jvm.MethodName)) ∈ WT := wt_tab 131 (by decide +kernel) (by decide +kernel)
theorem wt_142 : (Jvm.Cond.fieldLink "java/lang/Throwable" (198 : Nat) "java/lang/Throwable" "backtrace" "Ljava/lang/Object;") ∈ WT := wt_tab 142 (by decide +kernel) (by decide +kernel)
theorem wt_144 : (Jvm.Cond.instanceMethod ({ cls := "java/lang/Throwable", name := "<init>", desc := "()V" } : Jvm.MethodName)) ∈ WT := wt_tab 144 (by decide +kernel) (by decide +kernel)
theorem wt_145 : (Jvm.Cond.code ({ cls := "java/lang/Throwable", name := "<init>", desc := "()V" } : Jvm.MethodName) prog_16_method_1_code (1 : Nat) (Option.none : Option Jvm.ClassFile.FieldType)) ∈ WT := wt_tab 145 (by decide +kernel) (by decide +kernel)
theorem wt_146 : (Jvm.Cond.methodLink "java/lang/Throwable" (1 : Nat) ({ cls := "java/lang/Object", name := "<init>", desc := "()V" } : Jvm.MethodName)) ∈ WT := wt_tab 146 (by decide +kernel) (by decide +kernel)
theorem wt_147 : (Jvm.Cond.fieldLink "java/lang/Throwable" (13 : Nat) "java/lang/Throwable" "UNASSIGNED_STACK" "[Ljava/lang/StackTraceElement;") ∈ WT := wt_tab 147 (by decide +kernel) (by decide +kernel)
theorem wt_149 : (Jvm.Cond.fieldLink "java/lang/Throwable" (20 : Nat) "java/lang/Throwable" "SUPPRESSED_SENTINEL" "Ljava/util/List;") ∈ WT := wt_tab 149 (by decide +kernel) (by decide +kernel)
theorem wt_151 : (Jvm.Cond.methodLink "java/lang/Throwable" (27 : Nat) ({ cls := "java/lang/Throwable", name := "fillInStackTrace", desc := "()Ljava/lang/Throwable;" } : Jvm.MethodName)) ∈ WT := wt_tab 151 (by decide +kernel) (by decide +kernel)
theorem wt_152 : (Jvm.Cond.instanceMethod ({ cls := "java/lang/Throwable", name := "fillInStackTrace", desc := "()Ljava/lang/Throwable;" } : Jvm.MethodName)) ∈ WT := wt_tab 152 (by decide +kernel) (by decide +kernel)
theorem wt_154 : (Jvm.Cond.selects "java/lang/IllegalStateException" ({ cls := "java/lang/Throwable", name := "fillInStackTrace", desc := "()Ljava/lang/Throwable;" } : Jvm.MethodName) ({ cls := "java/lang/Throwable", name := "fillInStackTrace", desc := "()Ljava/lang/Throwable;" } : Jvm.MethodName)) ∈ WT := wt_tab 154 (by decide +kernel) (by decide +kernel)
theorem wt_155 : (Jvm.Cond.selects "java/lang/IndexOutOfBoundsException" ({ cls := "java/lang/Throwable", name := "fillInStackTrace", desc := "()Ljava/lang/Throwable;" } : Jvm.MethodName) ({ cls := "java/lang/Throwable", name := "fillInStackTrace", desc := "()Ljava/lang/Throwable;" } : Jvm.MethodName)) ∈ WT := wt_tab 155 (by decide +kernel) (by decide +kernel)
theorem wt_157 : (Jvm.Cond.methodLink "java/lang/Throwable" (202 : Nat) ({ cls := "java/lang/Throwable", name := "fillInStackTrace", desc := "(I)Ljava/lang/Throwable;" } : Jvm.MethodName)) ∈ WT := wt_tab 157 (by decide +kernel) (by decide +kernel)
end
section
theorem wt_159 : (Jvm.Cond.instanceMethod ({ cls := "java/lang/Throwable", name := "fillInStackTrace", desc := "(I)Ljava/lang/Throwable;" } : Jvm.MethodName)) ∈ WT := wt_tab 159 (by decide +kernel) (by decide +kernel)
theorem wt_160 : (Jvm.Cond.instantiable "java/lang/Throwable" (6 : Nat)) ∈ WT := wt_tab 160 (by decide +kernel) (by decide +kernel)
theorem wt_163 : (Jvm.Cond.methodLink "CollectionsEngine" (224 : Nat) ({ cls := "java/lang/IllegalArgumentException", name := "<init>", desc := "(Ljava/lang/String;)V" } : Jvm.MethodName)) ∈ WT := wt_tab 163 (by decide +kernel) (by decide +kernel)
theorem wt_164 : (Jvm.Cond.instanceMethod ({ cls := "java/lang/IllegalArgumentException", name := "<init>", desc := "(Ljava/lang/String;)V" } : Jvm.MethodName)) ∈ WT := wt_tab 164 (by decide +kernel) (by decide +kernel)
theorem wt_165 : (Jvm.Cond.code ({ cls := "java/lang/IllegalArgumentException", name := "<init>", desc := "(Ljava/lang/String;)V" } : Jvm.MethodName) prog_9_method_2_code (2 : Nat) (Option.none : Option Jvm.ClassFile.FieldType)) ∈ WT := wt_tab 165 (by decide +kernel) (by decide +kernel)
theorem wt_166 : (Jvm.Cond.methodLink "java/lang/IllegalArgumentException" (7 : Nat) ({ cls := "java/lang/RuntimeException", name := "<init>", desc := "(Ljava/lang/String;)V" } : Jvm.MethodName)) ∈ WT := wt_tab 166 (by decide +kernel) (by decide +kernel)
theorem wt_167 : (Jvm.Cond.instanceMethod ({ cls := "java/lang/RuntimeException", name := "<init>", desc := "(Ljava/lang/String;)V" } : Jvm.MethodName)) ∈ WT := wt_tab 167 (by decide +kernel) (by decide +kernel)
theorem wt_168 : (Jvm.Cond.code ({ cls := "java/lang/RuntimeException", name := "<init>", desc := "(Ljava/lang/String;)V" } : Jvm.MethodName) prog_14_method_2_code (2 : Nat) (Option.none : Option Jvm.ClassFile.FieldType)) ∈ WT := wt_tab 168 (by decide +kernel) (by decide +kernel)
theorem wt_169 : (Jvm.Cond.methodLink "java/lang/RuntimeException" (7 : Nat) ({ cls := "java/lang/Exception", name := "<init>", desc := "(Ljava/lang/String;)V" } : Jvm.MethodName)) ∈ WT := wt_tab 169 (by decide +kernel) (by decide +kernel)
theorem wt_170 : (Jvm.Cond.instanceMethod ({ cls := "java/lang/Exception", name := "<init>", desc := "(Ljava/lang/String;)V" } : Jvm.MethodName)) ∈ WT := wt_tab 170 (by decide +kernel) (by decide +kernel)
theorem wt_171 : (Jvm.Cond.code ({ cls := "java/lang/Exception", name := "<init>", desc := "(Ljava/lang/String;)V" } : Jvm.MethodName) prog_8_method_2_code (2 : Nat) (Option.none : Option Jvm.ClassFile.FieldType)) ∈ WT := wt_tab 171 (by decide +kernel) (by decide +kernel)
theorem wt_172 : (Jvm.Cond.methodLink "java/lang/Exception" (7 : Nat) ({ cls := "java/lang/Throwable", name := "<init>", desc := "(Ljava/lang/String;)V" } : Jvm.MethodName)) ∈ WT := wt_tab 172 (by decide +kernel) (by decide +kernel)
theorem wt_173 : (Jvm.Cond.instanceMethod ({ cls := "java/lang/Throwable", name := "<init>", desc := "(Ljava/lang/String;)V" } : Jvm.MethodName)) ∈ WT := wt_tab 173 (by decide +kernel) (by decide +kernel)
theorem wt_174 : (Jvm.Cond.code ({ cls := "java/lang/Throwable", name := "<init>", desc := "(Ljava/lang/String;)V" } : Jvm.MethodName) prog_16_method_2_code (2 : Nat) (Option.none : Option Jvm.ClassFile.FieldType)) ∈ WT := wt_tab 174 (by decide +kernel) (by decide +kernel)
theorem wt_175 : (Jvm.Cond.fieldLink "java/lang/Throwable" (198 : Nat) "java/lang/Throwable" "backtrace" "Ljava/lang/Object;") ∈ WT := wt_tab 175 (by decide +kernel) (by decide +kernel)
theorem wt_176 : (Jvm.Cond.fieldLink "java/lang/Throwable" (31 : Nat) "java/lang/Throwable" "detailMessage" "Ljava/lang/String;") ∈ WT := wt_tab 176 (by decide +kernel) (by decide +kernel)
theorem wt_177 : (Jvm.Cond.fieldLink "java/lang/Throwable" (7 : Nat) "java/lang/Throwable" "cause" "Ljava/lang/Throwable;") ∈ WT := wt_tab 177 (by decide +kernel) (by decide +kernel)
theorem wt_178 : (Jvm.Cond.fieldLink "java/lang/Throwable" (17 : Nat) "java/lang/Throwable" "stackTrace" "[Ljava/lang/StackTraceElement;") ∈ WT := wt_tab 178 (by decide +kernel) (by decide +kernel)
theorem wt_179 : (Jvm.Cond.fieldLink "java/lang/Throwable" (24 : Nat) "java/lang/Throwable" "suppressedExceptions" "Ljava/util/List;") ∈ WT := wt_tab 179 (by decide +kernel) (by decide +kernel)
theorem wt_188 : (Jvm.Cond.arrayClass Jvm.ClassFile.FieldType.byte) ∈ WT := wt_tab 188 (by decide +kernel) (by decide +kernel)
theorem wt_189 : (Jvm.Cond.methodLink "CollectionsEngine" (90 : Nat) ({ cls := "CollectionsEngine$Calendar", name := "isHoliday", desc := "(I)Z" } : Jvm.MethodName)) ∈ WT := wt_tab 189 (by decide +kernel) (by decide +kernel)
theorem wt_190 : (Jvm.Cond.instanceMethod ({ cls := "CollectionsEngine$Calendar", name := "isHoliday", desc := "(I)Z" } : Jvm.MethodName)) ∈ WT := wt_tab 190 (by decide +kernel) (by decide +kernel)
theorem wt_191 : (Jvm.Cond.selects "CollectionsEngine$Calendar" ({ cls := "CollectionsEngine$Calendar", name := "isHoliday", desc := "(I)Z" } : Jvm.MethodName) ({ cls := "CollectionsEngine$Calendar", name := "isHoliday", desc := "(I)Z" } : Jvm.MethodName)) ∈ WT := wt_tab 191 (by decide +kernel) (by decide +kernel)
theorem wt_192 : (Jvm.Cond.code ({ cls := "CollectionsEngine$Calendar", name := "isHoliday", desc := "(I)Z" } : Jvm.MethodName) prog_3_method_4_code (3 : Nat) (Option.some Jvm.ClassFile.FieldType.boolean)) ∈ WT := wt_tab 192 (by decide +kernel) (by decide +kernel)
theorem wt_193 : (Jvm.Cond.methodLink "CollectionsEngine" (94 : Nat) ({ cls := "CollectionsEngine$Calendar", name := "keepHoliday", desc := "(I)V" } : Jvm.MethodName)) ∈ WT := wt_tab 193 (by decide +kernel) (by decide +kernel)
theorem wt_194 : (Jvm.Cond.instanceMethod ({ cls := "CollectionsEngine$Calendar", name := "keepHoliday", desc := "(I)V" } : Jvm.MethodName)) ∈ WT := wt_tab 194 (by decide +kernel) (by decide +kernel)
theorem wt_195 : (Jvm.Cond.selects "CollectionsEngine$Calendar" ({ cls := "CollectionsEngine$Calendar", name := "keepHoliday", desc := "(I)V" } : Jvm.MethodName) ({ cls := "CollectionsEngine$Calendar", name := "keepHoliday", desc := "(I)V" } : Jvm.MethodName)) ∈ WT := wt_tab 195 (by decide +kernel) (by decide +kernel)
theorem wt_196 : (Jvm.Cond.code ({ cls := "CollectionsEngine$Calendar", name := "keepHoliday", desc := "(I)V" } : Jvm.MethodName) prog_3_method_3_code (3 : Nat) (Option.none : Option Jvm.ClassFile.FieldType)) ∈ WT := wt_tab 196 (by decide +kernel) (by decide +kernel)
theorem wt_197 : (Jvm.Cond.methodLink "CollectionsEngineLaw" (123 : Nat) ({ cls := "CollectionsEngine", name := "clearGaps", desc := "(I)I" } : Jvm.MethodName)) ∈ WT := wt_tab 197 (by decide +kernel) (by decide +kernel)
theorem wt_198 : (Jvm.Cond.instanceMethod ({ cls := "CollectionsEngine", name := "clearGaps", desc := "(I)I" } : Jvm.MethodName)) ∈ WT := wt_tab 198 (by decide +kernel) (by decide +kernel)
theorem wt_199 : (Jvm.Cond.selects "CollectionsEngine" ({ cls := "CollectionsEngine", name := "clearGaps", desc := "(I)I" } : Jvm.MethodName) ({ cls := "CollectionsEngine", name := "clearGaps", desc := "(I)I" } : Jvm.MethodName)) ∈ WT := wt_tab 199 (by decide +kernel) (by decide +kernel)
theorem wt_200 : (Jvm.Cond.code ({ cls := "CollectionsEngine", name := "clearGaps", desc := "(I)I" } : Jvm.MethodName) prog_1_method_5_code (4 : Nat) (Option.some Jvm.ClassFile.FieldType.int)) ∈ WT := wt_tab 200 (by decide +kernel) (by decide +kernel)
theorem wt_201 : (Jvm.Cond.methodLink "CollectionsEngine" (98 : Nat) ({ cls := "CollectionsEngine", name := "indexOfReason", desc := "(I)I" } : Jvm.MethodName)) ∈ WT := wt_tab 201 (by decide +kernel) (by decide +kernel)
theorem wt_202 : (Jvm.Cond.static ({ cls := "CollectionsEngine", name := "indexOfReason", desc := "(I)I" } : Jvm.MethodName)) ∈ WT := wt_tab 202 (by decide +kernel) (by decide +kernel)
theorem wt_203 : (Jvm.Cond.code ({ cls := "CollectionsEngine", name := "indexOfReason", desc := "(I)I" } : Jvm.MethodName) prog_1_method_32_code (1 : Nat) (Option.some Jvm.ClassFile.FieldType.int)) ∈ WT := wt_tab 203 (by decide +kernel) (by decide +kernel)
theorem wt_204 : (Jvm.Cond.classLink "CollectionsEngine" (58 : Nat) "java/lang/IndexOutOfBoundsException") ∈ WT := wt_tab 204 (by decide +kernel) (by decide +kernel)
theorem wt_205 : (Jvm.Cond.instantiable "java/lang/IndexOutOfBoundsException" (6 : Nat)) ∈ WT := wt_tab 205 (by decide +kernel) (by decide +kernel)
theorem wt_207 : (Jvm.Cond.selects "java/lang/IndexOutOfBoundsException" ({ cls := "java/lang/Throwable", name := "fillInStackTrace", desc := "(I)Ljava/lang/Throwable;" } : Jvm.MethodName) ({ cls := "java/lang/Throwable", name := "fillInStackTrace", desc := "(I)Ljava/lang/Throwable;" } : Jvm.MethodName)) ∈ WT := wt_tab 207 (by decide +kernel) (by decide +kernel)
theorem wt_214 : (Jvm.Cond.methodLink "CollectionsEngine" (62 : Nat) ({ cls := "java/lang/IndexOutOfBoundsException", name := "<init>", desc := "(Ljava/lang/String;)V" } : Jvm.MethodName)) ∈ WT := wt_tab 214 (by decide +kernel) (by decide +kernel)
theorem wt_215 : (Jvm.Cond.instanceMethod ({ cls := "java/lang/IndexOutOfBoundsException", name := "<init>", desc := "(Ljava/lang/String;)V" } : Jvm.MethodName)) ∈ WT := wt_tab 215 (by decide +kernel) (by decide +kernel)
theorem wt_216 : (Jvm.Cond.code ({ cls := "java/lang/IndexOutOfBoundsException", name := "<init>", desc := "(Ljava/lang/String;)V" } : Jvm.MethodName) prog_11_method_2_code (2 : Nat) (Option.none : Option Jvm.ClassFile.FieldType)) ∈ WT := wt_tab 216 (by decide +kernel) (by decide +kernel)
theorem wt_217 : (Jvm.Cond.methodLink "java/lang/IndexOutOfBoundsException" (7 : Nat) ({ cls := "java/lang/RuntimeException", name := "<init>", desc := "(Ljava/lang/String;)V" } : Jvm.MethodName)) ∈ WT := wt_tab 217 (by decide +kernel) (by decide +kernel)
theorem wt_220 : (Jvm.Cond.methodLink "CollectionsEngineLaw" (126 : Nat) ({ cls := "CollectionsEngine", name := "setTimes", desc := "(II)I" } : Jvm.MethodName)) ∈ WT := wt_tab 220 (by decide +kernel) (by decide +kernel)
theorem wt_221 : (Jvm.Cond.instanceMethod ({ cls := "CollectionsEngine", name := "setTimes", desc := "(II)I" } : Jvm.MethodName)) ∈ WT := wt_tab 221 (by decide +kernel) (by decide +kernel)
theorem wt_222 : (Jvm.Cond.selects "CollectionsEngine" ({ cls := "CollectionsEngine", name := "setTimes", desc := "(II)I" } : Jvm.MethodName) ({ cls := "CollectionsEngine", name := "setTimes", desc := "(II)I" } : Jvm.MethodName)) ∈ WT := wt_tab 222 (by decide +kernel) (by decide +kernel)
theorem wt_223 : (Jvm.Cond.code ({ cls := "CollectionsEngine", name := "setTimes", desc := "(II)I" } : Jvm.MethodName) prog_1_method_6_code (4 : Nat) (Option.some Jvm.ClassFile.FieldType.int)) ∈ WT := wt_tab 223 (by decide +kernel) (by decide +kernel)
theorem wt_224 : (Jvm.Cond.methodLink "CollectionsEngineLaw" (109 : Nat) ({ cls := "CollectionsEngine", name := "bill", desc := "(II)I" } : Jvm.MethodName)) ∈ WT := wt_tab 224 (by decide +kernel) (by decide +kernel)
theorem wt_225 : (Jvm.Cond.instanceMethod ({ cls := "CollectionsEngine", name := "bill", desc := "(II)I" } : Jvm.MethodName)) ∈ WT := wt_tab 225 (by decide +kernel) (by decide +kernel)
theorem wt_226 : (Jvm.Cond.selects "CollectionsEngine" ({ cls := "CollectionsEngine", name := "bill", desc := "(II)I" } : Jvm.MethodName) ({ cls := "CollectionsEngine", name := "bill", desc := "(II)I" } : Jvm.MethodName)) ∈ WT := wt_tab 226 (by decide +kernel) (by decide +kernel)
theorem wt_227 : (Jvm.Cond.code ({ cls := "CollectionsEngine", name := "bill", desc := "(II)I" } : Jvm.MethodName) prog_1_method_7_code (5 : Nat) (Option.some Jvm.ClassFile.FieldType.int)) ∈ WT := wt_tab 227 (by decide +kernel) (by decide +kernel)
theorem wt_228 : (Jvm.Cond.methodLink "CollectionsEngine" (109 : Nat) ({ cls := "CollectionsEngine", name := "checkAccount", desc := "(I)V" } : Jvm.MethodName)) ∈ WT := wt_tab 228 (by decide +kernel) (by decide +kernel)
theorem wt_229 : (Jvm.Cond.static ({ cls := "CollectionsEngine", name := "checkAccount", desc := "(I)V" } : Jvm.MethodName)) ∈ WT := wt_tab 229 (by decide +kernel) (by decide +kernel)
theorem wt_230 : (Jvm.Cond.code ({ cls := "CollectionsEngine", name := "checkAccount", desc := "(I)V" } : Jvm.MethodName) prog_1_method_31_code (1 : Nat) (Option.none : Option Jvm.ClassFile.FieldType)) ∈ WT := wt_tab 230 (by decide +kernel) (by decide +kernel)
theorem wt_232 : (Jvm.Cond.classLink "CollectionsEngine" (69 : Nat) "java/lang/IllegalStateException") ∈ WT := wt_tab 232 (by decide +kernel) (by decide +kernel)
theorem wt_233 : (Jvm.Cond.instantiable "java/lang/IllegalStateException" (6 : Nat)) ∈ WT := wt_tab 233 (by decide +kernel) (by decide +kernel)
theorem wt_235 : (Jvm.Cond.selects "java/lang/IllegalStateException" ({ cls := "java/lang/Throwable", name := "fillInStackTrace", desc := "(I)Ljava/lang/Throwable;" } : Jvm.MethodName) ({ cls := "java/lang/Throwable", name := "fillInStackTrace", desc := "(I)Ljava/lang/Throwable;" } : Jvm.MethodName)) ∈ WT := wt_tab 235 (by decide +kernel) (by decide +kernel)
theorem wt_242 : (Jvm.Cond.methodLink "CollectionsEngine" (73 : Nat) ({ cls := "java/lang/IllegalStateException", name := "<init>", desc := "(Ljava/lang/String;)V" } : Jvm.MethodName)) ∈ WT := wt_tab 242 (by decide +kernel) (by decide +kernel)
theorem wt_243 : (Jvm.Cond.instanceMethod ({ cls := "java/lang/IllegalStateException", name := "<init>", desc := "(Ljava/lang/String;)V" } : Jvm.MethodName)) ∈ WT := wt_tab 243 (by decide +kernel) (by decide +kernel)
theorem wt_244 : (Jvm.Cond.code ({ cls := "java/lang/IllegalStateException", name := "<init>", desc := "(Ljava/lang/String;)V" } : Jvm.MethodName) prog_10_method_2_code (2 : Nat) (Option.none : Option Jvm.ClassFile.FieldType)) ∈ WT := wt_tab 244 (by decide +kernel) (by decide +kernel)
theorem wt_245 : (Jvm.Cond.methodLink "java/lang/IllegalStateException" (7 : Nat) ({ cls := "java/lang/RuntimeException", name := "<init>", desc := "(Ljava/lang/String;)V" } : Jvm.MethodName)) ∈ WT := wt_tab 245 (by decide +kernel) (by decide +kernel)
theorem wt_248 : (Jvm.Cond.instantiable "CollectionsEngine$Bill" (11 : Nat)) ∈ WT := wt_tab 248 (by decide +kernel) (by decide +kernel)
theorem wt_249 : (Jvm.Cond.methodLink "CollectionsEngine" (117 : Nat) ({ cls := "CollectionsEngine$Bill", name := "<init>", desc := "(III)V" } : Jvm.MethodName)) ∈ WT := wt_tab 249 (by decide +kernel) (by decide +kernel)
theorem wt_250 : (Jvm.Cond.instanceMethod ({ cls := "CollectionsEngine$Bill", name := "<init>", desc := "(III)V" } : Jvm.MethodName)) ∈ WT := wt_tab 250 (by decide +kernel) (by decide +kernel)
theorem wt_251 : (Jvm.Cond.code ({ cls := "CollectionsEngine$Bill", name := "<init>", desc := "(III)V" } : Jvm.MethodName) prog_2_method_1_code (4 : Nat) (Option.none : Option Jvm.ClassFile.FieldType)) ∈ WT := wt_tab 251 (by decide +kernel) (by decide +kernel)
theorem wt_252 : (Jvm.Cond.methodLink "CollectionsEngine$Bill" (3 : Nat) ({ cls := "java/lang/Object", name := "<init>", desc := "()V" } : Jvm.MethodName)) ∈ WT := wt_tab 252 (by decide +kernel) (by decide +kernel)
theorem wt_253 : (Jvm.Cond.fieldLink "CollectionsEngine$Bill" (9 : Nat) "CollectionsEngine$Bill" "number" "I") ∈ WT := wt_tab 253 (by decide +kernel) (by decide +kernel)
theorem wt_254 : (Jvm.Cond.fieldLink "CollectionsEngine" (231 : Nat) "CollectionsEngine$Bill" "number" "I") ∈ WT := wt_tab 254 (by decide +kernel) (by decide +kernel)
theorem wt_255 : (Jvm.Cond.fieldLink "CollectionsEngine$Bill" (15 : Nat) "CollectionsEngine$Bill" "account" "I") ∈ WT := wt_tab 255 (by decide +kernel) (by decide +kernel)
theorem wt_256 : (Jvm.Cond.fieldLink "CollectionsEngine" (184 : Nat) "CollectionsEngine$Bill" "account" "I") ∈ WT := wt_tab 256 (by decide +kernel) (by decide +kernel)
theorem wt_257 : (Jvm.Cond.fieldLink "CollectionsEngine$Bill" (21 : Nat) "CollectionsEngine$Bill" "failures" "[I") ∈ WT := wt_tab 257 (by decide +kernel) (by decide +kernel)
theorem wt_258 : (Jvm.Cond.fieldLink "CollectionsEngine" (178 : Nat) "CollectionsEngine$Bill" "failures" "[I") ∈ WT := wt_tab 258 (by decide +kernel) (by decide +kernel)
theorem wt_259 : (Jvm.Cond.fieldLink "CollectionsEngine$Bill" (18 : Nat) "CollectionsEngine$Bill" "left" "I") ∈ WT := wt_tab 259 (by decide +kernel) (by decide +kernel)
theorem wt_260 : (Jvm.Cond.fieldLink "CollectionsEngine" (138 : Nat) "CollectionsEngine$Bill" "left" "I") ∈ WT := wt_tab 260 (by decide +kernel) (by decide +kernel)
theorem wt_261 : (Jvm.Cond.fieldLink "CollectionsEngine" (133 : Nat) "CollectionsEngine$Bill" "state" "I") ∈ WT := wt_tab 261 (by decide +kernel) (by decide +kernel)
theorem wt_262 : (Jvm.Cond.fieldLink "CollectionsEngine" (158 : Nat) "CollectionsEngine$Bill" "waitDay" "I") ∈ WT := wt_tab 262 (by decide +kernel) (by decide +kernel)
theorem wt_263 : (Jvm.Cond.fieldLink "CollectionsEngine" (175 : Nat) "CollectionsEngine$Bill" "tries" "I") ∈ WT := wt_tab 263 (by decide +kernel) (by decide +kernel)
theorem wt_264 : (Jvm.Cond.fieldLink "CollectionsEngine" (150 : Nat) "CollectionsEngine$Bill" "promises" "I") ∈ WT := wt_tab 264 (by decide +kernel) (by decide +kernel)
theorem wt_265 : (Jvm.Cond.fieldLink "CollectionsEngine" (181 : Nat) "CollectionsEngine$Bill" "brokenPromises" "I") ∈ WT := wt_tab 265 (by decide +kernel) (by decide +kernel)
theorem wt_266 : (Jvm.Cond.fieldLink "CollectionsEngine" (155 : Nat) "CollectionsEngine$Bill" "stateAhead" "I") ∈ WT := wt_tab 266 (by decide +kernel) (by decide +kernel)
theorem wt_267 : (Jvm.Cond.fieldLink "CollectionsEngine" (161 : Nat) "CollectionsEngine$Bill" "daysAhead" "I") ∈ WT := wt_tab 267 (by decide +kernel) (by decide +kernel)
theorem wt_291 : (Jvm.Cond.methodLink "CollectionsEngine" (122 : Nat) ({ cls := "CollectionsEngine$Calendar", name := "firstChargingFrom", desc := "(I)I" } : Jvm.MethodName)) ∈ WT := wt_tab 291 (by decide +kernel) (by decide +kernel)
theorem wt_292 : (Jvm.Cond.instanceMethod ({ cls := "CollectionsEngine$Calendar", name := "firstChargingFrom", desc := "(I)I" } : Jvm.MethodName)) ∈ WT := wt_tab 292 (by decide +kernel) (by decide +kernel)
theorem wt_293 : (Jvm.Cond.selects "CollectionsEngine$Calendar" ({ cls := "CollectionsEngine$Calendar", name := "firstChargingFrom", desc := "(I)I" } : Jvm.MethodName) ({ cls := "CollectionsEngine$Calendar", name := "firstChargingFrom", desc := "(I)I" } : Jvm.MethodName)) ∈ WT := wt_tab 293 (by decide +kernel) (by decide +kernel)
theorem wt_294 : (Jvm.Cond.code ({ cls := "CollectionsEngine$Calendar", name := "firstChargingFrom", desc := "(I)I" } : Jvm.MethodName) prog_3_method_6_code (4 : Nat) (Option.some Jvm.ClassFile.FieldType.int)) ∈ WT := wt_tab 294 (by decide +kernel) (by decide +kernel)
theorem wt_295 : (Jvm.Cond.methodLink "CollectionsEngine$Calendar" (27 : Nat) ({ cls := "CollectionsEngine$Calendar", name := "allowsCharging", desc := "(I)Z" } : Jvm.MethodName)) ∈ WT := wt_tab 295 (by decide +kernel) (by decide +kernel)
theorem wt_296 : (Jvm.Cond.instanceMethod ({ cls := "CollectionsEngine$Calendar", name := "allowsCharging", desc := "(I)Z" } : Jvm.MethodName)) ∈ WT := wt_tab 296 (by decide +kernel) (by decide +kernel)
theorem wt_297 : (Jvm.Cond.selects "CollectionsEngine$Calendar" ({ cls := "CollectionsEngine$Calendar", name := "allowsCharging", desc := "(I)Z" } : Jvm.MethodName) ({ cls := "CollectionsEngine$Calendar", name := "allowsCharging", desc := "(I)Z" } : Jvm.MethodName)) ∈ WT := wt_tab 297 (by decide +kernel) (by decide +kernel)
theorem wt_298 : (Jvm.Cond.code ({ cls := "CollectionsEngine$Calendar", name := "allowsCharging", desc := "(I)Z" } : Jvm.MethodName) prog_3_method_5_code (3 : Nat) (Option.some Jvm.ClassFile.FieldType.boolean)) ∈ WT := wt_tab 298 (by decide +kernel) (by decide +kernel)
theorem wt_299 : (Jvm.Cond.methodLink "CollectionsEngine$Calendar" (17 : Nat) ({ cls := "java/lang/Math", name := "floorMod", desc := "(II)I" } : Jvm.MethodName)) ∈ WT := wt_tab 299 (by decide +kernel) (by decide +kernel)
theorem wt_300 : (Jvm.Cond.static ({ cls := "java/lang/Math", name := "floorMod", desc := "(II)I" } : Jvm.MethodName)) ∈ WT := wt_tab 300 (by decide +kernel) (by decide +kernel)
end
section
theorem wt_301 : (Jvm.Cond.code ({ cls := "java/lang/Math", name := "floorMod", desc := "(II)I" } : Jvm.MethodName) prog_13_method_50_code (3 : Nat) (Option.some Jvm.ClassFile.FieldType.int)) ∈ WT := wt_tab 301 (by decide +kernel) (by decide +kernel)
theorem wt_302 : (Jvm.Cond.methodLink "CollectionsEngine$Calendar" (23 : Nat) ({ cls := "CollectionsEngine$Calendar", name := "isHoliday", desc := "(I)Z" } : Jvm.MethodName)) ∈ WT := wt_tab 302 (by decide +kernel) (by decide +kernel)
theorem wt_303 : (Jvm.Cond.methodLink "CollectionsEngine" (125 : Nat) ({ cls := "CollectionsEngine", name := "enter", desc := "(LCollectionsEngine$Bill;II)V" } : Jvm.MethodName)) ∈ WT := wt_tab 303 (by decide +kernel) (by decide +kernel)
theorem wt_305 : (Jvm.Cond.instanceMethod ({ cls := "CollectionsEngine", name := "enter", desc := "(LCollectionsEngine$Bill;II)V" } : Jvm.MethodName)) ∈ WT := wt_tab 305 (by decide +kernel) (by decide +kernel)
theorem wt_306 : (Jvm.Cond.code ({ cls := "CollectionsEngine", name := "enter", desc := "(LCollectionsEngine$Bill;II)V" } : Jvm.MethodName) prog_1_method_34_code (4 : Nat) (Option.none : Option Jvm.ClassFile.FieldType)) ∈ WT := wt_tab 306 (by decide +kernel) (by decide +kernel)
theorem wt_307 : (Jvm.Cond.methodLink "CollectionsEngine" (234 : Nat) ({ cls := "CollectionsEngine$EventLog", name := "add", desc := "(III)V" } : Jvm.MethodName)) ∈ WT := wt_tab 307 (by decide +kernel) (by decide +kernel)
theorem wt_308 : (Jvm.Cond.instanceMethod ({ cls := "CollectionsEngine$EventLog", name := "add", desc := "(III)V" } : Jvm.MethodName)) ∈ WT := wt_tab 308 (by decide +kernel) (by decide +kernel)
theorem wt_309 : (Jvm.Cond.selects "CollectionsEngine$EventLog" ({ cls := "CollectionsEngine$EventLog", name := "add", desc := "(III)V" } : Jvm.MethodName) ({ cls := "CollectionsEngine$EventLog", name := "add", desc := "(III)V" } : Jvm.MethodName)) ∈ WT := wt_tab 309 (by decide +kernel) (by decide +kernel)
theorem wt_310 : (Jvm.Cond.code ({ cls := "CollectionsEngine$EventLog", name := "add", desc := "(III)V" } : Jvm.MethodName) prog_4_method_2_code (4 : Nat) (Option.none : Option Jvm.ClassFile.FieldType)) ∈ WT := wt_tab 310 (by decide +kernel) (by decide +kernel)
theorem wt_311 : (Jvm.Cond.methodLink "CollectionsEngine$EventLog" (19 : Nat) ({ cls := "java/lang/Math", name := "floorMod", desc := "(II)I" } : Jvm.MethodName)) ∈ WT := wt_tab 311 (by decide +kernel) (by decide +kernel)
theorem wt_312 : (Jvm.Cond.methodLink "CollectionsEngineLaw" (133 : Nat) ({ cls := "CollectionsEngine", name := "pass", desc := "(I)I" } : Jvm.MethodName)) ∈ WT := wt_tab 312 (by decide +kernel) (by decide +kernel)
theorem wt_313 : (Jvm.Cond.instanceMethod ({ cls := "CollectionsEngine", name := "pass", desc := "(I)I" } : Jvm.MethodName)) ∈ WT := wt_tab 313 (by decide +kernel) (by decide +kernel)
theorem wt_314 : (Jvm.Cond.selects "CollectionsEngine" ({ cls := "CollectionsEngine", name := "pass", desc := "(I)I" } : Jvm.MethodName) ({ cls := "CollectionsEngine", name := "pass", desc := "(I)I" } : Jvm.MethodName)) ∈ WT := wt_tab 314 (by decide +kernel) (by decide +kernel)
theorem wt_315 : (Jvm.Cond.code ({ cls := "CollectionsEngine", name := "pass", desc := "(I)I" } : Jvm.MethodName) prog_1_method_11_code (4 : Nat) (Option.some Jvm.ClassFile.FieldType.int)) ∈ WT := wt_tab 315 (by decide +kernel) (by decide +kernel)
theorem wt_316 : (Jvm.Cond.methodLink "CollectionsEngine" (164 : Nat) ({ cls := "CollectionsEngine", name := "failUnansweredTries", desc := "()V" } : Jvm.MethodName)) ∈ WT := wt_tab 316 (by decide +kernel) (by decide +kernel)
theorem wt_318 : (Jvm.Cond.instanceMethod ({ cls := "CollectionsEngine", name := "failUnansweredTries", desc := "()V" } : Jvm.MethodName)) ∈ WT := wt_tab 318 (by decide +kernel) (by decide +kernel)
theorem wt_319 : (Jvm.Cond.code ({ cls := "CollectionsEngine", name := "failUnansweredTries", desc := "()V" } : Jvm.MethodName) prog_1_method_37_code (3 : Nat) (Option.none : Option Jvm.ClassFile.FieldType)) ∈ WT := wt_tab 319 (by decide +kernel) (by decide +kernel)
theorem wt_320 : (Jvm.Cond.methodLink "CollectionsEngine" (145 : Nat) ({ cls := "CollectionsEngine", name := "fail", desc := "(LCollectionsEngine$Bill;I)V" } : Jvm.MethodName)) ∈ WT := wt_tab 320 (by decide +kernel) (by decide +kernel)
theorem wt_322 : (Jvm.Cond.instanceMethod ({ cls := "CollectionsEngine", name := "fail", desc := "(LCollectionsEngine$Bill;I)V" } : Jvm.MethodName)) ∈ WT := wt_tab 322 (by decide +kernel) (by decide +kernel)
theorem wt_323 : (Jvm.Cond.code ({ cls := "CollectionsEngine", name := "fail", desc := "(LCollectionsEngine$Bill;I)V" } : Jvm.MethodName) prog_1_method_36_code (5 : Nat) (Option.none : Option Jvm.ClassFile.FieldType)) ∈ WT := wt_tab 323 (by decide +kernel) (by decide +kernel)
theorem wt_324 : (Jvm.Cond.methodLink "CollectionsEngine" (237 : Nat) ({ cls := "CollectionsEngine$Gaps", name := "daysBehind", desc := "(I)I" } : Jvm.MethodName)) ∈ WT := wt_tab 324 (by decide +kernel) (by decide +kernel)
theorem wt_325 : (Jvm.Cond.instanceMethod ({ cls := "CollectionsEngine$Gaps", name := "daysBehind", desc := "(I)I" } : Jvm.MethodName)) ∈ WT := wt_tab 325 (by decide +kernel) (by decide +kernel)
theorem wt_326 : (Jvm.Cond.selects "CollectionsEngine$Gaps" ({ cls := "CollectionsEngine$Gaps", name := "daysBehind", desc := "(I)I" } : Jvm.MethodName) ({ cls := "CollectionsEngine$Gaps", name := "daysBehind", desc := "(I)I" } : Jvm.MethodName)) ∈ WT := wt_tab 326 (by decide +kernel) (by decide +kernel)
theorem wt_327 : (Jvm.Cond.code ({ cls := "CollectionsEngine$Gaps", name := "daysBehind", desc := "(I)I" } : Jvm.MethodName) prog_5_method_3_code (3 : Nat) (Option.some Jvm.ClassFile.FieldType.int)) ∈ WT := wt_tab 327 (by decide +kernel) (by decide +kernel)
theorem wt_328 : (Jvm.Cond.methodLink "CollectionsEngine" (167 : Nat) ({ cls := "CollectionsEngine", name := "lookAtBills", desc := "()I" } : Jvm.MethodName)) ∈ WT := wt_tab 328 (by decide +kernel) (by decide +kernel)
theorem wt_330 : (Jvm.Cond.instanceMethod ({ cls := "CollectionsEngine", name := "lookAtBills", desc := "()I" } : Jvm.MethodName)) ∈ WT := wt_tab 330 (by decide +kernel) (by decide +kernel)
theorem wt_331 : (Jvm.Cond.code ({ cls := "CollectionsEngine", name := "lookAtBills", desc := "()I" } : Jvm.MethodName) prog_1_method_38_code (4 : Nat) (Option.some Jvm.ClassFile.FieldType.int)) ∈ WT := wt_tab 331 (by decide +kernel) (by decide +kernel)
theorem wt_332 : (Jvm.Cond.methodLink "CollectionsEngine" (240 : Nat) ({ cls := "CollectionsEngine", name := "lookAt", desc := "(LCollectionsEngine$Bill;)Z" } : Jvm.MethodName)) ∈ WT := wt_tab 332 (by decide +kernel) (by decide +kernel)
theorem wt_334 : (Jvm.Cond.instanceMethod ({ cls := "CollectionsEngine", name := "lookAt", desc := "(LCollectionsEngine$Bill;)Z" } : Jvm.MethodName)) ∈ WT := wt_tab 334 (by decide +kernel) (by decide +kernel)
theorem wt_335 : (Jvm.Cond.code ({ cls := "CollectionsEngine", name := "lookAt", desc := "(LCollectionsEngine$Bill;)Z" } : Jvm.MethodName) prog_1_method_39_code (2 : Nat) (Option.some Jvm.ClassFile.FieldType.boolean)) ∈ WT := wt_tab 335 (by decide +kernel) (by decide +kernel)
theorem wt_336 : (Jvm.Cond.methodLink "CollectionsEngine" (244 : Nat) ({ cls := "CollectionsEngine", name := "beginTry", desc := "(LCollectionsEngine$Bill;)Z" } : Jvm.MethodName)) ∈ WT := wt_tab 336 (by decide +kernel) (by decide +kernel)
theorem wt_338 : (Jvm.Cond.instanceMethod ({ cls := "CollectionsEngine", name := "beginTry", desc := "(LCollectionsEngine$Bill;)Z" } : Jvm.MethodName)) ∈ WT := wt_tab 338 (by decide +kernel) (by decide +kernel)
theorem wt_339 : (Jvm.Cond.code ({ cls := "CollectionsEngine", name := "beginTry", desc := "(LCollectionsEngine$Bill;)Z" } : Jvm.MethodName) prog_1_method_40_code (2 : Nat) (Option.some Jvm.ClassFile.FieldType.boolean)) ∈ WT := wt_tab 339 (by decide +kernel) (by decide +kernel)
theorem wt_340 : (Jvm.Cond.methodLink "CollectionsEngine" (172 : Nat) ({ cls := "CollectionsEngine$Calendar", name := "allowsCharging", desc := "(I)Z" } : Jvm.MethodName)) ∈ WT := wt_tab 340 (by decide +kernel) (by decide +kernel)
theorem wt_341 : (Jvm.Cond.methodLink "CollectionsEngine" (247 : Nat) ({ cls := "CollectionsEngine", name := "breakPromise", desc := "(LCollectionsEngine$Bill;)V" } : Jvm.MethodName)) ∈ WT := wt_tab 341 (by decide +kernel) (by decide +kernel)
theorem wt_343 : (Jvm.Cond.instanceMethod ({ cls := "CollectionsEngine", name := "breakPromise", desc := "(LCollectionsEngine$Bill;)V" } : Jvm.MethodName)) ∈ WT := wt_tab 343 (by decide +kernel) (by decide +kernel)
theorem wt_344 : (Jvm.Cond.code ({ cls := "CollectionsEngine", name := "breakPromise", desc := "(LCollectionsEngine$Bill;)V" } : Jvm.MethodName) prog_1_method_41_code (2 : Nat) (Option.none : Option Jvm.ClassFile.FieldType)) ∈ WT := wt_tab 344 (by decide +kernel) (by decide +kernel)
theorem wt_345 : (Jvm.Cond.methodLink "CollectionsEngineLaw" (13 : Nat) ({ cls := "CollectionsEngineLaw", name := "from", desc := "([I[II)I" } : Jvm.MethodName)) ∈ WT := wt_tab 345 (by decide +kernel) (by decide +kernel)
theorem wt_346 : (Jvm.Cond.static ({ cls := "CollectionsEngineLaw", name := "from", desc := "([I[II)I" } : Jvm.MethodName)) ∈ WT := wt_tab 346 (by decide +kernel) (by decide +kernel)
theorem wt_347 : (Jvm.Cond.code ({ cls := "CollectionsEngineLaw", name := "from", desc := "([I[II)I" } : Jvm.MethodName) method_3_code (4 : Nat) (Option.some Jvm.ClassFile.FieldType.int)) ∈ WT := wt_tab 347 (by decide +kernel) (by decide +kernel)
theorem wt_348 : (Jvm.Cond.methodLink "CollectionsEngineLaw" (7 : Nat) ({ cls := "CollectionsEngineLaw", name := "charges", desc := "([I[II)Z" } : Jvm.MethodName)) ∈ WT := wt_tab 348 (by decide +kernel) (by decide +kernel)
theorem wt_349 : (Jvm.Cond.static ({ cls := "CollectionsEngineLaw", name := "charges", desc := "([I[II)Z" } : Jvm.MethodName)) ∈ WT := wt_tab 349 (by decide +kernel) (by decide +kernel)
theorem wt_350 : (Jvm.Cond.code ({ cls := "CollectionsEngineLaw", name := "charges", desc := "([I[II)Z" } : Jvm.MethodName) method_2_code (5 : Nat) (Option.some Jvm.ClassFile.FieldType.boolean)) ∈ WT := wt_tab 350 (by decide +kernel) (by decide +kernel)
theorem wt_351 : (Jvm.Cond.methodLink "CollectionsEngineLaw" (17 : Nat) ({ cls := "CollectionsEngineLaw", name := "enters", desc := "([I[I[III)V" } : Jvm.MethodName)) ∈ WT := wt_tab 351 (by decide +kernel) (by decide +kernel)
theorem wt_352 : (Jvm.Cond.static ({ cls := "CollectionsEngineLaw", name := "enters", desc := "([I[I[III)V" } : Jvm.MethodName)) ∈ WT := wt_tab 352 (by decide +kernel) (by decide +kernel)
theorem wt_353 : (Jvm.Cond.code ({ cls := "CollectionsEngineLaw", name := "enters", desc := "([I[I[III)V" } : Jvm.MethodName) method_4_code (5 : Nat) (Option.none : Option Jvm.ClassFile.FieldType)) ∈ WT := wt_tab 353 (by decide +kernel) (by decide +kernel)
theorem wt_354 : (Jvm.Cond.methodLink "CollectionsEngineLaw" (21 : Nat) ({ cls := "CollectionsEngineLaw", name := "fails", desc := "([I[I[I[I[I[I[III)V" } : Jvm.MethodName)) ∈ WT := wt_tab 354 (by decide +kernel) (by decide +kernel)
theorem wt_355 : (Jvm.Cond.static ({ cls := "CollectionsEngineLaw", name := "fails", desc := "([I[I[I[I[I[I[III)V" } : Jvm.MethodName)) ∈ WT := wt_tab 355 (by decide +kernel) (by decide +kernel)
theorem wt_356 : (Jvm.Cond.code ({ cls := "CollectionsEngineLaw", name := "fails", desc := "([I[I[I[I[I[I[III)V" } : Jvm.MethodName) method_5_code (11 : Nat) (Option.none : Option Jvm.ClassFile.FieldType)) ∈ WT := wt_tab 356 (by decide +kernel) (by decide +kernel)
theorem wt_357 : (Jvm.Cond.methodLink "CollectionsEngineLaw" (129 : Nat) ({ cls := "CollectionsEngineLaw", name := "passes", desc := "([I[I[I[I[I[I[I[I[I)I" } : Jvm.MethodName)) ∈ WT := wt_tab 357 (by decide +kernel) (by decide +kernel)
theorem wt_358 : (Jvm.Cond.static ({ cls := "CollectionsEngineLaw", name := "passes", desc := "([I[I[I[I[I[I[I[I[I)I" } : Jvm.MethodName)) ∈ WT := wt_tab 358 (by decide +kernel) (by decide +kernel)
theorem wt_359 : (Jvm.Cond.code ({ cls := "CollectionsEngineLaw", name := "passes", desc := "([I[I[I[I[I[I[I[I[I)I" } : Jvm.MethodName) method_6_code (12 : Nat) (Option.some Jvm.ClassFile.FieldType.int)) ∈ WT := wt_tab 359 (by decide +kernel) (by decide +kernel)
theorem wt_360 : (Jvm.Cond.methodLink "CollectionsEngineLaw" (116 : Nat) ({ cls := "CollectionsEngineLaw", name := "pays", desc := "([I[I[I[III)I" } : Jvm.MethodName)) ∈ WT := wt_tab 360 (by decide +kernel) (by decide +kernel)
theorem wt_361 : (Jvm.Cond.static ({ cls := "CollectionsEngineLaw", name := "pays", desc := "([I[I[I[III)I" } : Jvm.MethodName)) ∈ WT := wt_tab 361 (by decide +kernel) (by decide +kernel)
theorem wt_362 : (Jvm.Cond.code ({ cls := "CollectionsEngineLaw", name := "pays", desc := "([I[I[I[III)I" } : Jvm.MethodName) method_7_code (6 : Nat) (Option.some Jvm.ClassFile.FieldType.int)) ∈ WT := wt_tab 362 (by decide +kernel) (by decide +kernel)
theorem wt_363 : (Jvm.Cond.methodLink "CollectionsEngineLaw" (112 : Nat) ({ cls := "CollectionsEngineLaw", name := "does", desc := "(LCollectionsEngine;III)I" } : Jvm.MethodName)) ∈ WT := wt_tab 363 (by decide +kernel) (by decide +kernel)
theorem wt_364 : (Jvm.Cond.static ({ cls := "CollectionsEngineLaw", name := "does", desc := "(LCollectionsEngine;III)I" } : Jvm.MethodName)) ∈ WT := wt_tab 364 (by decide +kernel) (by decide +kernel)
theorem wt_365 : (Jvm.Cond.codeWith ({ cls := "CollectionsEngineLaw", name := "does", desc := "(LCollectionsEngine;III)I" } : Jvm.MethodName) method_8_code (5 : Nat) (Option.some Jvm.ClassFile.FieldType.int) [((0 : Nat), (70 : Nat), (71 : Nat), (44 : Nat))]) ∈ WT := wt_tab 365 (by decide +kernel) (by decide +kernel)
theorem wt_366 : (Jvm.Cond.classLink "CollectionsEngineLaw" (44 : Nat) "java/lang/IllegalStateException") ∈ WT := wt_tab 366 (by decide +kernel) (by decide +kernel)
theorem wt_367 : (Jvm.Cond.methodLink "CollectionsEngineLaw" (25 : Nat) ({ cls := "CollectionsEngine", name := "outcome", desc := "(II)I" } : Jvm.MethodName)) ∈ WT := wt_tab 367 (by decide +kernel) (by decide +kernel)
theorem wt_368 : (Jvm.Cond.instanceMethod ({ cls := "CollectionsEngine", name := "outcome", desc := "(II)I" } : Jvm.MethodName)) ∈ WT := wt_tab 368 (by decide +kernel) (by decide +kernel)
theorem wt_369 : (Jvm.Cond.selects "CollectionsEngine" ({ cls := "CollectionsEngine", name := "outcome", desc := "(II)I" } : Jvm.MethodName) ({ cls := "CollectionsEngine", name := "outcome", desc := "(II)I" } : Jvm.MethodName)) ∈ WT := wt_tab 369 (by decide +kernel) (by decide +kernel)
theorem wt_370 : (Jvm.Cond.code ({ cls := "CollectionsEngine", name := "outcome", desc := "(II)I" } : Jvm.MethodName) prog_1_method_8_code (4 : Nat) (Option.some Jvm.ClassFile.FieldType.int)) ∈ WT := wt_tab 370 (by decide +kernel) (by decide +kernel)
theorem wt_371 : (Jvm.Cond.methodLink "CollectionsEngine" (129 : Nat) ({ cls := "CollectionsEngine", name := "findBill", desc := "(I)LCollectionsEngine$Bill;" } : Jvm.MethodName)) ∈ WT := wt_tab 371 (by decide +kernel) (by decide +kernel)
theorem wt_373 : (Jvm.Cond.instanceMethod ({ cls := "CollectionsEngine", name := "findBill", desc := "(I)LCollectionsEngine$Bill;" } : Jvm.MethodName)) ∈ WT := wt_tab 373 (by decide +kernel) (by decide +kernel)
theorem wt_374 : (Jvm.Cond.code ({ cls := "CollectionsEngine", name := "findBill", desc := "(I)LCollectionsEngine$Bill;" } : Jvm.MethodName) prog_1_method_33_code (3 : Nat) (Option.some (Jvm.ClassFile.FieldType.object "CollectionsEngine$Bill"))) ∈ WT := wt_tab 374 (by decide +kernel) (by decide +kernel)
theorem wt_377 : (Jvm.Cond.methodLink "CollectionsEngine" (141 : Nat) ({ cls := "CollectionsEngine", name := "takePayment", desc := "(LCollectionsEngine$Bill;I)V" } : Jvm.MethodName)) ∈ WT := wt_tab 377 (by decide +kernel) (by decide +kernel)
theorem wt_379 : (Jvm.Cond.instanceMethod ({ cls := "CollectionsEngine", name := "takePayment", desc := "(LCollectionsEngine$Bill;I)V" } : Jvm.MethodName)) ∈ WT := wt_tab 379 (by decide +kernel) (by decide +kernel)
theorem wt_380 : (Jvm.Cond.code ({ cls := "CollectionsEngine", name := "takePayment", desc := "(LCollectionsEngine$Bill;I)V" } : Jvm.MethodName) prog_1_method_35_code (3 : Nat) (Option.none : Option Jvm.ClassFile.FieldType)) ∈ WT := wt_tab 380 (by decide +kernel) (by decide +kernel)
theorem wt_381 : (Jvm.Cond.methodLink "CollectionsEngineLaw" (31 : Nat) ({ cls := "CollectionsEngine", name := "pay", desc := "(II)I" } : Jvm.MethodName)) ∈ WT := wt_tab 381 (by decide +kernel) (by decide +kernel)
theorem wt_382 : (Jvm.Cond.instanceMethod ({ cls := "CollectionsEngine", name := "pay", desc := "(II)I" } : Jvm.MethodName)) ∈ WT := wt_tab 382 (by decide +kernel) (by decide +kernel)
theorem wt_383 : (Jvm.Cond.selects "CollectionsEngine" ({ cls := "CollectionsEngine", name := "pay", desc := "(II)I" } : Jvm.MethodName) ({ cls := "CollectionsEngine", name := "pay", desc := "(II)I" } : Jvm.MethodName)) ∈ WT := wt_tab 383 (by decide +kernel) (by decide +kernel)
set_option maxRecDepth 100000 in
set_option maxHeartbeats 4000000 in
theorem wt_384 : (Jvm.Cond.code ({ cls := "CollectionsEngine", name := "pay", desc := "(II)I" } : Jvm.MethodName) prog_1_method_9_code (4 : Nat) (Option.some Jvm.ClassFile.FieldType.int)) ∈ WT := wt_tab 384 rfl rfl
theorem wt_386 : (Jvm.Cond.methodLink "CollectionsEngineLaw" (34 : Nat) ({ cls := "CollectionsEngine", name := "promise", desc := "(II)I" } : Jvm.MethodName)) ∈ WT := wt_tab 386 (by decide +kernel) (by decide +kernel)
theorem wt_387 : (Jvm.Cond.instanceMethod ({ cls := "CollectionsEngine", name := "promise", desc := "(II)I" } : Jvm.MethodName)) ∈ WT := wt_tab 387 (by decide +kernel) (by decide +kernel)
theorem wt_388 : (Jvm.Cond.selects "CollectionsEngine" ({ cls := "CollectionsEngine", name := "promise", desc := "(II)I" } : Jvm.MethodName) ({ cls := "CollectionsEngine", name := "promise", desc := "(II)I" } : Jvm.MethodName)) ∈ WT := wt_tab 388 (by decide +kernel) (by decide +kernel)
theorem wt_389 : (Jvm.Cond.code ({ cls := "CollectionsEngine", name := "promise", desc := "(II)I" } : Jvm.MethodName) prog_1_method_10_code (5 : Nat) (Option.some Jvm.ClassFile.FieldType.int)) ∈ WT := wt_tab 389 (by decide +kernel) (by decide +kernel)
theorem wt_391 : (Jvm.Cond.methodLink "CollectionsEngineLaw" (37 : Nat) ({ cls := "CollectionsEngine", name := "addGap", desc := "(II)I" } : Jvm.MethodName)) ∈ WT := wt_tab 391 (by decide +kernel) (by decide +kernel)
theorem wt_392 : (Jvm.Cond.instanceMethod ({ cls := "CollectionsEngine", name := "addGap", desc := "(II)I" } : Jvm.MethodName)) ∈ WT := wt_tab 392 (by decide +kernel) (by decide +kernel)
theorem wt_393 : (Jvm.Cond.selects "CollectionsEngine" ({ cls := "CollectionsEngine", name := "addGap", desc := "(II)I" } : Jvm.MethodName) ({ cls := "CollectionsEngine", name := "addGap", desc := "(II)I" } : Jvm.MethodName)) ∈ WT := wt_tab 393 (by decide +kernel) (by decide +kernel)
theorem wt_394 : (Jvm.Cond.code ({ cls := "CollectionsEngine", name := "addGap", desc := "(II)I" } : Jvm.MethodName) prog_1_method_4_code (4 : Nat) (Option.some Jvm.ClassFile.FieldType.int)) ∈ WT := wt_tab 394 (by decide +kernel) (by decide +kernel)
theorem wt_396 : (Jvm.Cond.methodLink "CollectionsEngine" (106 : Nat) ({ cls := "CollectionsEngine$Gaps", name := "append", desc := "(I)V" } : Jvm.MethodName)) ∈ WT := wt_tab 396 (by decide +kernel) (by decide +kernel)
theorem wt_397 : (Jvm.Cond.instanceMethod ({ cls := "CollectionsEngine$Gaps", name := "append", desc := "(I)V" } : Jvm.MethodName)) ∈ WT := wt_tab 397 (by decide +kernel) (by decide +kernel)
theorem wt_398 : (Jvm.Cond.selects "CollectionsEngine$Gaps" ({ cls := "CollectionsEngine$Gaps", name := "append", desc := "(I)V" } : Jvm.MethodName) ({ cls := "CollectionsEngine$Gaps", name := "append", desc := "(I)V" } : Jvm.MethodName)) ∈ WT := wt_tab 398 (by decide +kernel) (by decide +kernel)
theorem wt_399 : (Jvm.Cond.code ({ cls := "CollectionsEngine$Gaps", name := "append", desc := "(I)V" } : Jvm.MethodName) prog_5_method_2_code (2 : Nat) (Option.none : Option Jvm.ClassFile.FieldType)) ∈ WT := wt_tab 399 (by decide +kernel) (by decide +kernel)
theorem wt_400 : (Jvm.Cond.methodLink "CollectionsEngineLaw" (40 : Nat) ({ cls := "CollectionsEngine", name := "setWeekday", desc := "(IZ)I" } : Jvm.MethodName)) ∈ WT := wt_tab 400 (by decide +kernel) (by decide +kernel)
theorem wt_401 : (Jvm.Cond.instanceMethod ({ cls := "CollectionsEngine", name := "setWeekday", desc := "(IZ)I" } : Jvm.MethodName)) ∈ WT := wt_tab 401 (by decide +kernel) (by decide +kernel)
theorem wt_402 : (Jvm.Cond.selects "CollectionsEngine" ({ cls := "CollectionsEngine", name := "setWeekday", desc := "(IZ)I" } : Jvm.MethodName) ({ cls := "CollectionsEngine", name := "setWeekday", desc := "(IZ)I" } : Jvm.MethodName)) ∈ WT := wt_tab 402 (by decide +kernel) (by decide +kernel)
theorem wt_403 : (Jvm.Cond.code ({ cls := "CollectionsEngine", name := "setWeekday", desc := "(IZ)I" } : Jvm.MethodName) prog_1_method_2_code (4 : Nat) (Option.some Jvm.ClassFile.FieldType.int)) ∈ WT := wt_tab 403 (by decide +kernel) (by decide +kernel)
theorem wt_405 : (Jvm.Cond.methodLink "CollectionsEngine" (65 : Nat) ({ cls := "CollectionsEngine$Calendar", name := "weekdaysWith", desc := "(IZ)I" } : Jvm.MethodName)) ∈ WT := wt_tab 405 (by decide +kernel) (by decide +kernel)
end
section
theorem wt_406 : (Jvm.Cond.instanceMethod ({ cls := "CollectionsEngine$Calendar", name := "weekdaysWith", desc := "(IZ)I" } : Jvm.MethodName)) ∈ WT := wt_tab 406 (by decide +kernel) (by decide +kernel)
theorem wt_407 : (Jvm.Cond.selects "CollectionsEngine$Calendar" ({ cls := "CollectionsEngine$Calendar", name := "weekdaysWith", desc := "(IZ)I" } : Jvm.MethodName) ({ cls := "CollectionsEngine$Calendar", name := "weekdaysWith", desc := "(IZ)I" } : Jvm.MethodName)) ∈ WT := wt_tab 407 (by decide +kernel) (by decide +kernel)
theorem wt_408 : (Jvm.Cond.code ({ cls := "CollectionsEngine$Calendar", name := "weekdaysWith", desc := "(IZ)I" } : Jvm.MethodName) prog_3_method_2_code (4 : Nat) (Option.some Jvm.ClassFile.FieldType.int)) ∈ WT := wt_tab 408 (by decide +kernel) (by decide +kernel)
theorem wt_410 : (Jvm.Cond.methodLink "CollectionsEngine" (77 : Nat) ({ cls := "java/lang/Integer", name := "bitCount", desc := "(I)I" } : Jvm.MethodName)) ∈ WT := wt_tab 410 (by decide +kernel) (by decide +kernel)
theorem wt_411 : (Jvm.Cond.static ({ cls := "java/lang/Integer", name := "bitCount", desc := "(I)I" } : Jvm.MethodName)) ∈ WT := wt_tab 411 (by decide +kernel) (by decide +kernel)
theorem wt_412 : (Jvm.Cond.code ({ cls := "java/lang/Integer", name := "bitCount", desc := "(I)I" } : Jvm.MethodName) prog_12_method_49_code (1 : Nat) (Option.some Jvm.ClassFile.FieldType.int)) ∈ WT := wt_tab 412 (by decide +kernel) (by decide +kernel)
theorem wt_413 : (Jvm.Cond.constant "java/lang/Integer" (265 : Nat) (1431655765 : Int32)) ∈ WT := wt_tab 413 (by decide +kernel) (by decide +kernel)
theorem wt_414 : (Jvm.Cond.constant "java/lang/Integer" (266 : Nat) (858993459 : Int32)) ∈ WT := wt_tab 414 (by decide +kernel) (by decide +kernel)
theorem wt_415 : (Jvm.Cond.constant "java/lang/Integer" (267 : Nat) (252645135 : Int32)) ∈ WT := wt_tab 415 (by decide +kernel) (by decide +kernel)
theorem wt_416 : (Jvm.Cond.methodLink "CollectionsEngineLaw" (104 : Nat) ({ cls := "CollectionsEngineLaw", name := "isEngine", desc := "(LCollectionsEngine;[I[I[I[I[I[I[II)Z" } : Jvm.MethodName)) ∈ WT := wt_tab 416 (by decide +kernel) (by decide +kernel)
theorem wt_417 : (Jvm.Cond.static ({ cls := "CollectionsEngineLaw", name := "isEngine", desc := "(LCollectionsEngine;[I[I[I[I[I[I[II)Z" } : Jvm.MethodName)) ∈ WT := wt_tab 417 (by decide +kernel) (by decide +kernel)
set_option maxRecDepth 100000 in
set_option maxHeartbeats 4000000 in
theorem wt_418 : (Jvm.Cond.code ({ cls := "CollectionsEngineLaw", name := "isEngine", desc := "(LCollectionsEngine;[I[I[I[I[I[I[II)Z" } : Jvm.MethodName) method_9_code (16 : Nat) (Option.some Jvm.ClassFile.FieldType.boolean)) ∈ WT := wt_tab 418 rfl rfl
theorem wt_419 : (Jvm.Cond.methodLink "CollectionsEngineLaw" (46 : Nat) ({ cls := "CollectionsEngine", name := "today", desc := "()I" } : Jvm.MethodName)) ∈ WT := wt_tab 419 (by decide +kernel) (by decide +kernel)
theorem wt_420 : (Jvm.Cond.instanceMethod ({ cls := "CollectionsEngine", name := "today", desc := "()I" } : Jvm.MethodName)) ∈ WT := wt_tab 420 (by decide +kernel) (by decide +kernel)
theorem wt_421 : (Jvm.Cond.selects "CollectionsEngine" ({ cls := "CollectionsEngine", name := "today", desc := "()I" } : Jvm.MethodName) ({ cls := "CollectionsEngine", name := "today", desc := "()I" } : Jvm.MethodName)) ∈ WT := wt_tab 421 (by decide +kernel) (by decide +kernel)
theorem wt_422 : (Jvm.Cond.code ({ cls := "CollectionsEngine", name := "today", desc := "()I" } : Jvm.MethodName) prog_1_method_12_code (1 : Nat) (Option.some Jvm.ClassFile.FieldType.int)) ∈ WT := wt_tab 422 (by decide +kernel) (by decide +kernel)
theorem wt_423 : (Jvm.Cond.methodLink "CollectionsEngineLaw" (50 : Nat) ({ cls := "CollectionsEngine", name := "bills", desc := "()I" } : Jvm.MethodName)) ∈ WT := wt_tab 423 (by decide +kernel) (by decide +kernel)
theorem wt_424 : (Jvm.Cond.instanceMethod ({ cls := "CollectionsEngine", name := "bills", desc := "()I" } : Jvm.MethodName)) ∈ WT := wt_tab 424 (by decide +kernel) (by decide +kernel)
theorem wt_425 : (Jvm.Cond.selects "CollectionsEngine" ({ cls := "CollectionsEngine", name := "bills", desc := "()I" } : Jvm.MethodName) ({ cls := "CollectionsEngine", name := "bills", desc := "()I" } : Jvm.MethodName)) ∈ WT := wt_tab 425 (by decide +kernel) (by decide +kernel)
theorem wt_426 : (Jvm.Cond.code ({ cls := "CollectionsEngine", name := "bills", desc := "()I" } : Jvm.MethodName) prog_1_method_14_code (1 : Nat) (Option.some Jvm.ClassFile.FieldType.int)) ∈ WT := wt_tab 426 (by decide +kernel) (by decide +kernel)
theorem wt_427 : (Jvm.Cond.methodLink "CollectionsEngineLaw" (53 : Nat) ({ cls := "CollectionsEngine", name := "paid", desc := "()I" } : Jvm.MethodName)) ∈ WT := wt_tab 427 (by decide +kernel) (by decide +kernel)
theorem wt_428 : (Jvm.Cond.instanceMethod ({ cls := "CollectionsEngine", name := "paid", desc := "()I" } : Jvm.MethodName)) ∈ WT := wt_tab 428 (by decide +kernel) (by decide +kernel)
theorem wt_429 : (Jvm.Cond.selects "CollectionsEngine" ({ cls := "CollectionsEngine", name := "paid", desc := "()I" } : Jvm.MethodName) ({ cls := "CollectionsEngine", name := "paid", desc := "()I" } : Jvm.MethodName)) ∈ WT := wt_tab 429 (by decide +kernel) (by decide +kernel)
theorem wt_430 : (Jvm.Cond.code ({ cls := "CollectionsEngine", name := "paid", desc := "()I" } : Jvm.MethodName) prog_1_method_23_code (1 : Nat) (Option.some Jvm.ClassFile.FieldType.int)) ∈ WT := wt_tab 430 (by decide +kernel) (by decide +kernel)
theorem wt_431 : (Jvm.Cond.methodLink "CollectionsEngineLaw" (56 : Nat) ({ cls := "CollectionsEngine", name := "writtenOff", desc := "()I" } : Jvm.MethodName)) ∈ WT := wt_tab 431 (by decide +kernel) (by decide +kernel)
theorem wt_432 : (Jvm.Cond.instanceMethod ({ cls := "CollectionsEngine", name := "writtenOff", desc := "()I" } : Jvm.MethodName)) ∈ WT := wt_tab 432 (by decide +kernel) (by decide +kernel)
theorem wt_433 : (Jvm.Cond.selects "CollectionsEngine" ({ cls := "CollectionsEngine", name := "writtenOff", desc := "()I" } : Jvm.MethodName) ({ cls := "CollectionsEngine", name := "writtenOff", desc := "()I" } : Jvm.MethodName)) ∈ WT := wt_tab 433 (by decide +kernel) (by decide +kernel)
theorem wt_434 : (Jvm.Cond.code ({ cls := "CollectionsEngine", name := "writtenOff", desc := "()I" } : Jvm.MethodName) prog_1_method_24_code (1 : Nat) (Option.some Jvm.ClassFile.FieldType.int)) ∈ WT := wt_tab 434 (by decide +kernel) (by decide +kernel)
theorem wt_435 : (Jvm.Cond.methodLink "CollectionsEngineLaw" (59 : Nat) ({ cls := "CollectionsEngine", name := "broughtBack", desc := "()I" } : Jvm.MethodName)) ∈ WT := wt_tab 435 (by decide +kernel) (by decide +kernel)
theorem wt_436 : (Jvm.Cond.instanceMethod ({ cls := "CollectionsEngine", name := "broughtBack", desc := "()I" } : Jvm.MethodName)) ∈ WT := wt_tab 436 (by decide +kernel) (by decide +kernel)
theorem wt_437 : (Jvm.Cond.selects "CollectionsEngine" ({ cls := "CollectionsEngine", name := "broughtBack", desc := "()I" } : Jvm.MethodName) ({ cls := "CollectionsEngine", name := "broughtBack", desc := "()I" } : Jvm.MethodName)) ∈ WT := wt_tab 437 (by decide +kernel) (by decide +kernel)
theorem wt_438 : (Jvm.Cond.code ({ cls := "CollectionsEngine", name := "broughtBack", desc := "()I" } : Jvm.MethodName) prog_1_method_25_code (1 : Nat) (Option.some Jvm.ClassFile.FieldType.int)) ∈ WT := wt_tab 438 (by decide +kernel) (by decide +kernel)
theorem wt_439 : (Jvm.Cond.methodLink "CollectionsEngineLaw" (62 : Nat) ({ cls := "CollectionsEngine", name := "events", desc := "()I" } : Jvm.MethodName)) ∈ WT := wt_tab 439 (by decide +kernel) (by decide +kernel)
theorem wt_440 : (Jvm.Cond.instanceMethod ({ cls := "CollectionsEngine", name := "events", desc := "()I" } : Jvm.MethodName)) ∈ WT := wt_tab 440 (by decide +kernel) (by decide +kernel)
theorem wt_441 : (Jvm.Cond.selects "CollectionsEngine" ({ cls := "CollectionsEngine", name := "events", desc := "()I" } : Jvm.MethodName) ({ cls := "CollectionsEngine", name := "events", desc := "()I" } : Jvm.MethodName)) ∈ WT := wt_tab 441 (by decide +kernel) (by decide +kernel)
theorem wt_442 : (Jvm.Cond.code ({ cls := "CollectionsEngine", name := "events", desc := "()I" } : Jvm.MethodName) prog_1_method_27_code (1 : Nat) (Option.some Jvm.ClassFile.FieldType.int)) ∈ WT := wt_tab 442 (by decide +kernel) (by decide +kernel)
theorem wt_443 : (Jvm.Cond.methodLink "CollectionsEngineLaw" (65 : Nat) ({ cls := "CollectionsEngine", name := "isCharging", desc := "(I)Z" } : Jvm.MethodName)) ∈ WT := wt_tab 443 (by decide +kernel) (by decide +kernel)
theorem wt_444 : (Jvm.Cond.instanceMethod ({ cls := "CollectionsEngine", name := "isCharging", desc := "(I)Z" } : Jvm.MethodName)) ∈ WT := wt_tab 444 (by decide +kernel) (by decide +kernel)
theorem wt_445 : (Jvm.Cond.selects "CollectionsEngine" ({ cls := "CollectionsEngine", name := "isCharging", desc := "(I)Z" } : Jvm.MethodName) ({ cls := "CollectionsEngine", name := "isCharging", desc := "(I)Z" } : Jvm.MethodName)) ∈ WT := wt_tab 445 (by decide +kernel) (by decide +kernel)
theorem wt_446 : (Jvm.Cond.code ({ cls := "CollectionsEngine", name := "isCharging", desc := "(I)Z" } : Jvm.MethodName) prog_1_method_13_code (2 : Nat) (Option.some Jvm.ClassFile.FieldType.boolean)) ∈ WT := wt_tab 446 (by decide +kernel) (by decide +kernel)
theorem wt_447 : (Jvm.Cond.constant "CollectionsEngine" (171 : Nat) (1000000 : Int32)) ∈ WT := wt_tab 447 (by decide +kernel) (by decide +kernel)
theorem wt_448 : (Jvm.Cond.methodLink "CollectionsEngineLaw" (69 : Nat) ({ cls := "CollectionsEngine", name := "service", desc := "(I)I" } : Jvm.MethodName)) ∈ WT := wt_tab 448 (by decide +kernel) (by decide +kernel)
theorem wt_449 : (Jvm.Cond.instanceMethod ({ cls := "CollectionsEngine", name := "service", desc := "(I)I" } : Jvm.MethodName)) ∈ WT := wt_tab 449 (by decide +kernel) (by decide +kernel)
theorem wt_450 : (Jvm.Cond.selects "CollectionsEngine" ({ cls := "CollectionsEngine", name := "service", desc := "(I)I" } : Jvm.MethodName) ({ cls := "CollectionsEngine", name := "service", desc := "(I)I" } : Jvm.MethodName)) ∈ WT := wt_tab 450 (by decide +kernel) (by decide +kernel)
theorem wt_451 : (Jvm.Cond.code ({ cls := "CollectionsEngine", name := "service", desc := "(I)I" } : Jvm.MethodName) prog_1_method_21_code (5 : Nat) (Option.some Jvm.ClassFile.FieldType.int)) ∈ WT := wt_tab 451 (by decide +kernel) (by decide +kernel)
theorem wt_452 : (Jvm.Cond.methodLink "CollectionsEngine" (187 : Nat) ({ cls := "CollectionsEngine", name := "serviceWith", desc := "(LCollectionsEngine$Bill;)I" } : Jvm.MethodName)) ∈ WT := wt_tab 452 (by decide +kernel) (by decide +kernel)
theorem wt_453 : (Jvm.Cond.static ({ cls := "CollectionsEngine", name := "serviceWith", desc := "(LCollectionsEngine$Bill;)I" } : Jvm.MethodName)) ∈ WT := wt_tab 453 (by decide +kernel) (by decide +kernel)
theorem wt_454 : (Jvm.Cond.code ({ cls := "CollectionsEngine", name := "serviceWith", desc := "(LCollectionsEngine$Bill;)I" } : Jvm.MethodName) prog_1_method_42_code (2 : Nat) (Option.some Jvm.ClassFile.FieldType.int)) ∈ WT := wt_tab 454 (by decide +kernel) (by decide +kernel)
theorem wt_455 : (Jvm.Cond.methodLink "CollectionsEngine" (191 : Nat) ({ cls := "java/lang/Math", name := "min", desc := "(II)I" } : Jvm.MethodName)) ∈ WT := wt_tab 455 (by decide +kernel) (by decide +kernel)
theorem wt_456 : (Jvm.Cond.static ({ cls := "java/lang/Math", name := "min", desc := "(II)I" } : Jvm.MethodName)) ∈ WT := wt_tab 456 (by decide +kernel) (by decide +kernel)
theorem wt_457 : (Jvm.Cond.code ({ cls := "java/lang/Math", name := "min", desc := "(II)I" } : Jvm.MethodName) prog_13_method_69_code (2 : Nat) (Option.some Jvm.ClassFile.FieldType.int)) ∈ WT := wt_tab 457 (by decide +kernel) (by decide +kernel)
theorem wt_458 : (Jvm.Cond.methodLink "CollectionsEngineLaw" (73 : Nat) ({ cls := "CollectionsEngine", name := "leftIn", desc := "(II)I" } : Jvm.MethodName)) ∈ WT := wt_tab 458 (by decide +kernel) (by decide +kernel)
theorem wt_459 : (Jvm.Cond.instanceMethod ({ cls := "CollectionsEngine", name := "leftIn", desc := "(II)I" } : Jvm.MethodName)) ∈ WT := wt_tab 459 (by decide +kernel) (by decide +kernel)
theorem wt_460 : (Jvm.Cond.selects "CollectionsEngine" ({ cls := "CollectionsEngine", name := "leftIn", desc := "(II)I" } : Jvm.MethodName) ({ cls := "CollectionsEngine", name := "leftIn", desc := "(II)I" } : Jvm.MethodName)) ∈ WT := wt_tab 460 (by decide +kernel) (by decide +kernel)
theorem wt_461 : (Jvm.Cond.code ({ cls := "CollectionsEngine", name := "leftIn", desc := "(II)I" } : Jvm.MethodName) prog_1_method_26_code (6 : Nat) (Option.some Jvm.ClassFile.FieldType.int)) ∈ WT := wt_tab 461 (by decide +kernel) (by decide +kernel)
theorem wt_462 : (Jvm.Cond.methodLink "CollectionsEngineLaw" (76 : Nat) ({ cls := "CollectionsEngine", name := "stateOf", desc := "(I)I" } : Jvm.MethodName)) ∈ WT := wt_tab 462 (by decide +kernel) (by decide +kernel)
theorem wt_463 : (Jvm.Cond.instanceMethod ({ cls := "CollectionsEngine", name := "stateOf", desc := "(I)I" } : Jvm.MethodName)) ∈ WT := wt_tab 463 (by decide +kernel) (by decide +kernel)
theorem wt_464 : (Jvm.Cond.selects "CollectionsEngine" ({ cls := "CollectionsEngine", name := "stateOf", desc := "(I)I" } : Jvm.MethodName) ({ cls := "CollectionsEngine", name := "stateOf", desc := "(I)I" } : Jvm.MethodName)) ∈ WT := wt_tab 464 (by decide +kernel) (by decide +kernel)
theorem wt_465 : (Jvm.Cond.code ({ cls := "CollectionsEngine", name := "stateOf", desc := "(I)I" } : Jvm.MethodName) prog_1_method_15_code (2 : Nat) (Option.some Jvm.ClassFile.FieldType.int)) ∈ WT := wt_tab 465 (by decide +kernel) (by decide +kernel)
theorem wt_466 : (Jvm.Cond.methodLink "CollectionsEngineLaw" (79 : Nat) ({ cls := "CollectionsEngine", name := "left", desc := "(I)I" } : Jvm.MethodName)) ∈ WT := wt_tab 466 (by decide +kernel) (by decide +kernel)
theorem wt_467 : (Jvm.Cond.instanceMethod ({ cls := "CollectionsEngine", name := "left", desc := "(I)I" } : Jvm.MethodName)) ∈ WT := wt_tab 467 (by decide +kernel) (by decide +kernel)
theorem wt_468 : (Jvm.Cond.selects "CollectionsEngine" ({ cls := "CollectionsEngine", name := "left", desc := "(I)I" } : Jvm.MethodName) ({ cls := "CollectionsEngine", name := "left", desc := "(I)I" } : Jvm.MethodName)) ∈ WT := wt_tab 468 (by decide +kernel) (by decide +kernel)
theorem wt_469 : (Jvm.Cond.code ({ cls := "CollectionsEngine", name := "left", desc := "(I)I" } : Jvm.MethodName) prog_1_method_16_code (2 : Nat) (Option.some Jvm.ClassFile.FieldType.int)) ∈ WT := wt_tab 469 (by decide +kernel) (by decide +kernel)
theorem wt_470 : (Jvm.Cond.methodLink "CollectionsEngineLaw" (82 : Nat) ({ cls := "CollectionsEngine", name := "tries", desc := "(I)I" } : Jvm.MethodName)) ∈ WT := wt_tab 470 (by decide +kernel) (by decide +kernel)
theorem wt_471 : (Jvm.Cond.instanceMethod ({ cls := "CollectionsEngine", name := "tries", desc := "(I)I" } : Jvm.MethodName)) ∈ WT := wt_tab 471 (by decide +kernel) (by decide +kernel)
theorem wt_472 : (Jvm.Cond.selects "CollectionsEngine" ({ cls := "CollectionsEngine", name := "tries", desc := "(I)I" } : Jvm.MethodName) ({ cls := "CollectionsEngine", name := "tries", desc := "(I)I" } : Jvm.MethodName)) ∈ WT := wt_tab 472 (by decide +kernel) (by decide +kernel)
theorem wt_473 : (Jvm.Cond.code ({ cls := "CollectionsEngine", name := "tries", desc := "(I)I" } : Jvm.MethodName) prog_1_method_17_code (2 : Nat) (Option.some Jvm.ClassFile.FieldType.int)) ∈ WT := wt_tab 473 (by decide +kernel) (by decide +kernel)
theorem wt_474 : (Jvm.Cond.methodLink "CollectionsEngineLaw" (85 : Nat) ({ cls := "CollectionsEngine", name := "broken", desc := "(I)I" } : Jvm.MethodName)) ∈ WT := wt_tab 474 (by decide +kernel) (by decide +kernel)
theorem wt_475 : (Jvm.Cond.instanceMethod ({ cls := "CollectionsEngine", name := "broken", desc := "(I)I" } : Jvm.MethodName)) ∈ WT := wt_tab 475 (by decide +kernel) (by decide +kernel)
theorem wt_476 : (Jvm.Cond.selects "CollectionsEngine" ({ cls := "CollectionsEngine", name := "broken", desc := "(I)I" } : Jvm.MethodName) ({ cls := "CollectionsEngine", name := "broken", desc := "(I)I" } : Jvm.MethodName)) ∈ WT := wt_tab 476 (by decide +kernel) (by decide +kernel)
theorem wt_477 : (Jvm.Cond.code ({ cls := "CollectionsEngine", name := "broken", desc := "(I)I" } : Jvm.MethodName) prog_1_method_20_code (2 : Nat) (Option.some Jvm.ClassFile.FieldType.int)) ∈ WT := wt_tab 477 (by decide +kernel) (by decide +kernel)
theorem wt_478 : (Jvm.Cond.methodLink "CollectionsEngineLaw" (88 : Nat) ({ cls := "CollectionsEngine", name := "waitsFor", desc := "(I)I" } : Jvm.MethodName)) ∈ WT := wt_tab 478 (by decide +kernel) (by decide +kernel)
theorem wt_479 : (Jvm.Cond.instanceMethod ({ cls := "CollectionsEngine", name := "waitsFor", desc := "(I)I" } : Jvm.MethodName)) ∈ WT := wt_tab 479 (by decide +kernel) (by decide +kernel)
theorem wt_480 : (Jvm.Cond.selects "CollectionsEngine" ({ cls := "CollectionsEngine", name := "waitsFor", desc := "(I)I" } : Jvm.MethodName) ({ cls := "CollectionsEngine", name := "waitsFor", desc := "(I)I" } : Jvm.MethodName)) ∈ WT := wt_tab 480 (by decide +kernel) (by decide +kernel)
theorem wt_481 : (Jvm.Cond.code ({ cls := "CollectionsEngine", name := "waitsFor", desc := "(I)I" } : Jvm.MethodName) prog_1_method_19_code (2 : Nat) (Option.some Jvm.ClassFile.FieldType.int)) ∈ WT := wt_tab 481 (by decide +kernel) (by decide +kernel)
theorem wt_482 : (Jvm.Cond.methodLink "CollectionsEngineLaw" (91 : Nat) ({ cls := "CollectionsEngine", name := "failures", desc := "(II)I" } : Jvm.MethodName)) ∈ WT := wt_tab 482 (by decide +kernel) (by decide +kernel)
theorem wt_483 : (Jvm.Cond.instanceMethod ({ cls := "CollectionsEngine", name := "failures", desc := "(II)I" } : Jvm.MethodName)) ∈ WT := wt_tab 483 (by decide +kernel) (by decide +kernel)
theorem wt_484 : (Jvm.Cond.selects "CollectionsEngine" ({ cls := "CollectionsEngine", name := "failures", desc := "(II)I" } : Jvm.MethodName) ({ cls := "CollectionsEngine", name := "failures", desc := "(II)I" } : Jvm.MethodName)) ∈ WT := wt_tab 484 (by decide +kernel) (by decide +kernel)
theorem wt_485 : (Jvm.Cond.code ({ cls := "CollectionsEngine", name := "failures", desc := "(II)I" } : Jvm.MethodName) prog_1_method_18_code (4 : Nat) (Option.some Jvm.ClassFile.FieldType.int)) ∈ WT := wt_tab 485 (by decide +kernel) (by decide +kernel)
theorem wt_486 : (Jvm.Cond.methodLink "CollectionsEngineLaw" (94 : Nat) ({ cls := "CollectionsEngine", name := "event", desc := "(I)I" } : Jvm.MethodName)) ∈ WT := wt_tab 486 (by decide +kernel) (by decide +kernel)
theorem wt_487 : (Jvm.Cond.instanceMethod ({ cls := "CollectionsEngine", name := "event", desc := "(I)I" } : Jvm.MethodName)) ∈ WT := wt_tab 487 (by decide +kernel) (by decide +kernel)
theorem wt_488 : (Jvm.Cond.selects "CollectionsEngine" ({ cls := "CollectionsEngine", name := "event", desc := "(I)I" } : Jvm.MethodName) ({ cls := "CollectionsEngine", name := "event", desc := "(I)I" } : Jvm.MethodName)) ∈ WT := wt_tab 488 (by decide +kernel) (by decide +kernel)
theorem wt_489 : (Jvm.Cond.code ({ cls := "CollectionsEngine", name := "event", desc := "(I)I" } : Jvm.MethodName) prog_1_method_28_code (2 : Nat) (Option.some Jvm.ClassFile.FieldType.int)) ∈ WT := wt_tab 489 (by decide +kernel) (by decide +kernel)
theorem wt_490 : (Jvm.Cond.methodLink "CollectionsEngine" (209 : Nat) ({ cls := "CollectionsEngine$EventLog", name := "told", desc := "()I" } : Jvm.MethodName)) ∈ WT := wt_tab 490 (by decide +kernel) (by decide +kernel)
theorem wt_491 : (Jvm.Cond.instanceMethod ({ cls := "CollectionsEngine$EventLog", name := "told", desc := "()I" } : Jvm.MethodName)) ∈ WT := wt_tab 491 (by decide +kernel) (by decide +kernel)
theorem wt_492 : (Jvm.Cond.selects "CollectionsEngine$EventLog" ({ cls := "CollectionsEngine$EventLog", name := "told", desc := "()I" } : Jvm.MethodName) ({ cls := "CollectionsEngine$EventLog", name := "told", desc := "()I" } : Jvm.MethodName)) ∈ WT := wt_tab 492 (by decide +kernel) (by decide +kernel)
theorem wt_493 : (Jvm.Cond.code ({ cls := "CollectionsEngine$EventLog", name := "told", desc := "()I" } : Jvm.MethodName) prog_4_method_3_code (1 : Nat) (Option.some Jvm.ClassFile.FieldType.int)) ∈ WT := wt_tab 493 (by decide +kernel) (by decide +kernel)
theorem wt_494 : (Jvm.Cond.methodLink "CollectionsEngine$EventLog" (25 : Nat) ({ cls := "java/lang/Math", name := "min", desc := "(II)I" } : Jvm.MethodName)) ∈ WT := wt_tab 494 (by decide +kernel) (by decide +kernel)
theorem wt_496 : (Jvm.Cond.methodLink "CollectionsEngine" (214 : Nat) ({ cls := "CollectionsEngine$EventLog", name := "codeAt", desc := "(I)I" } : Jvm.MethodName)) ∈ WT := wt_tab 496 (by decide +kernel) (by decide +kernel)
theorem wt_497 : (Jvm.Cond.instanceMethod ({ cls := "CollectionsEngine$EventLog", name := "codeAt", desc := "(I)I" } : Jvm.MethodName)) ∈ WT := wt_tab 497 (by decide +kernel) (by decide +kernel)
end
section
theorem wt_498 : (Jvm.Cond.selects "CollectionsEngine$EventLog" ({ cls := "CollectionsEngine$EventLog", name := "codeAt", desc := "(I)I" } : Jvm.MethodName) ({ cls := "CollectionsEngine$EventLog", name := "codeAt", desc := "(I)I" } : Jvm.MethodName)) ∈ WT := wt_tab 498 (by decide +kernel) (by decide +kernel)
theorem wt_499 : (Jvm.Cond.code ({ cls := "CollectionsEngine$EventLog", name := "codeAt", desc := "(I)I" } : Jvm.MethodName) prog_4_method_4_code (2 : Nat) (Option.some Jvm.ClassFile.FieldType.int)) ∈ WT := wt_tab 499 (by decide +kernel) (by decide +kernel)
theorem wt_500 : (Jvm.Cond.methodLink "CollectionsEngineLaw" (97 : Nat) ({ cls := "CollectionsEngine", name := "stateAt", desc := "(II)I" } : Jvm.MethodName)) ∈ WT := wt_tab 500 (by decide +kernel) (by decide +kernel)
theorem wt_501 : (Jvm.Cond.instanceMethod ({ cls := "CollectionsEngine", name := "stateAt", desc := "(II)I" } : Jvm.MethodName)) ∈ WT := wt_tab 501 (by decide +kernel) (by decide +kernel)
theorem wt_502 : (Jvm.Cond.selects "CollectionsEngine" ({ cls := "CollectionsEngine", name := "stateAt", desc := "(II)I" } : Jvm.MethodName) ({ cls := "CollectionsEngine", name := "stateAt", desc := "(II)I" } : Jvm.MethodName)) ∈ WT := wt_tab 502 (by decide +kernel) (by decide +kernel)
theorem wt_503 : (Jvm.Cond.code ({ cls := "CollectionsEngine", name := "stateAt", desc := "(II)I" } : Jvm.MethodName) prog_1_method_29_code (3 : Nat) (Option.some Jvm.ClassFile.FieldType.int)) ∈ WT := wt_tab 503 (by decide +kernel) (by decide +kernel)
theorem wt_504 : (Jvm.Cond.methodLink "CollectionsEngine" (217 : Nat) ({ cls := "CollectionsEngine$EventLog", name := "lastStateOf", desc := "(II)I" } : Jvm.MethodName)) ∈ WT := wt_tab 504 (by decide +kernel) (by decide +kernel)
theorem wt_505 : (Jvm.Cond.instanceMethod ({ cls := "CollectionsEngine$EventLog", name := "lastStateOf", desc := "(II)I" } : Jvm.MethodName)) ∈ WT := wt_tab 505 (by decide +kernel) (by decide +kernel)
theorem wt_506 : (Jvm.Cond.selects "CollectionsEngine$EventLog" ({ cls := "CollectionsEngine$EventLog", name := "lastStateOf", desc := "(II)I" } : Jvm.MethodName) ({ cls := "CollectionsEngine$EventLog", name := "lastStateOf", desc := "(II)I" } : Jvm.MethodName)) ∈ WT := wt_tab 506 (by decide +kernel) (by decide +kernel)
theorem wt_507 : (Jvm.Cond.code ({ cls := "CollectionsEngine$EventLog", name := "lastStateOf", desc := "(II)I" } : Jvm.MethodName) prog_4_method_5_code (7 : Nat) (Option.some Jvm.ClassFile.FieldType.int)) ∈ WT := wt_tab 507 (by decide +kernel) (by decide +kernel)
theorem wt_508 : (Jvm.Cond.methodLink "CollectionsEngine$EventLog" (28 : Nat) ({ cls := "CollectionsEngine$EventLog", name := "told", desc := "()I" } : Jvm.MethodName)) ∈ WT := wt_tab 508 (by decide +kernel) (by decide +kernel)
theorem wt_509 : (Jvm.Cond.methodLink "CollectionsEngine$EventLog" (32 : Nat) ({ cls := "CollectionsEngine$EventLog", name := "codeAt", desc := "(I)I" } : Jvm.MethodName)) ∈ WT := wt_tab 509 (by decide +kernel) (by decide +kernel)
theorem wt_510 : (Jvm.Cond.methodLink "CollectionsEngineLaw" (100 : Nat) ({ cls := "CollectionsEngine", name := "billed", desc := "()I" } : Jvm.MethodName)) ∈ WT := wt_tab 510 (by decide +kernel) (by decide +kernel)
theorem wt_511 : (Jvm.Cond.instanceMethod ({ cls := "CollectionsEngine", name := "billed", desc := "()I" } : Jvm.MethodName)) ∈ WT := wt_tab 511 (by decide +kernel) (by decide +kernel)
theorem wt_512 : (Jvm.Cond.selects "CollectionsEngine" ({ cls := "CollectionsEngine", name := "billed", desc := "()I" } : Jvm.MethodName) ({ cls := "CollectionsEngine", name := "billed", desc := "()I" } : Jvm.MethodName)) ∈ WT := wt_tab 512 (by decide +kernel) (by decide +kernel)
theorem wt_513 : (Jvm.Cond.code ({ cls := "CollectionsEngine", name := "billed", desc := "()I" } : Jvm.MethodName) prog_1_method_22_code (1 : Nat) (Option.some Jvm.ClassFile.FieldType.int)) ∈ WT := wt_tab 513 (by decide +kernel) (by decide +kernel)
theorem wt_514 : (Jvm.Cond.constant "CollectionsEngineLaw" (108 : Nat) (2147483647 : Int32)) ∈ WT := wt_tab 514 (by decide +kernel) (by decide +kernel)
theorem wts_0 : (Cond.selects "java/lang/Throwable" ⟨"java/lang/Throwable", "fillInStackTrace", "(I)Ljava/lang/Throwable;"⟩ ⟨"java/lang/Throwable", "fillInStackTrace", "(I)Ljava/lang/Throwable;"⟩) ∈ WT := wt_sel 0 (by decide +kernel) (by decide +kernel)
theorem wts_1 : (Cond.selects "CollectionsEngine" ⟨"CollectionsEngine", "enter", "(LCollectionsEngine$Bill;II)V"⟩ ⟨"CollectionsEngine", "enter", "(LCollectionsEngine$Bill;II)V"⟩) ∈ WT := wt_sel 1 (by decide +kernel) (by decide +kernel)
theorem wts_2 : (Cond.selects "CollectionsEngine" ⟨"CollectionsEngine", "failUnansweredTries", "()V"⟩ ⟨"CollectionsEngine", "failUnansweredTries", "()V"⟩) ∈ WT := wt_sel 2 (by decide +kernel) (by decide +kernel)
theorem wts_3 : (Cond.selects "CollectionsEngine" ⟨"CollectionsEngine", "fail", "(LCollectionsEngine$Bill;I)V"⟩ ⟨"CollectionsEngine", "fail", "(LCollectionsEngine$Bill;I)V"⟩) ∈ WT := wt_sel 3 (by decide +kernel) (by decide +kernel)
theorem wts_4 : (Cond.selects "CollectionsEngine" ⟨"CollectionsEngine", "lookAtBills", "()I"⟩ ⟨"CollectionsEngine", "lookAtBills", "()I"⟩) ∈ WT := wt_sel 4 (by decide +kernel) (by decide +kernel)
theorem wts_5 : (Cond.selects "CollectionsEngine" ⟨"CollectionsEngine", "lookAt", "(LCollectionsEngine$Bill;)Z"⟩ ⟨"CollectionsEngine", "lookAt", "(LCollectionsEngine$Bill;)Z"⟩) ∈ WT := wt_sel 5 (by decide +kernel) (by decide +kernel)
theorem wts_6 : (Cond.selects "CollectionsEngine" ⟨"CollectionsEngine", "beginTry", "(LCollectionsEngine$Bill;)Z"⟩ ⟨"CollectionsEngine", "beginTry", "(LCollectionsEngine$Bill;)Z"⟩) ∈ WT := wt_sel 6 (by decide +kernel) (by decide +kernel)
theorem wts_7 : (Cond.selects "CollectionsEngine" ⟨"CollectionsEngine", "breakPromise", "(LCollectionsEngine$Bill;)V"⟩ ⟨"CollectionsEngine", "breakPromise", "(LCollectionsEngine$Bill;)V"⟩) ∈ WT := wt_sel 7 (by decide +kernel) (by decide +kernel)
theorem wts_8 : (Cond.selects "CollectionsEngine" ⟨"CollectionsEngine", "findBill", "(I)LCollectionsEngine$Bill;"⟩ ⟨"CollectionsEngine", "findBill", "(I)LCollectionsEngine$Bill;"⟩) ∈ WT := wt_sel 8 (by decide +kernel) (by decide +kernel)
theorem wts_9 : (Cond.selects "CollectionsEngine" ⟨"CollectionsEngine", "takePayment", "(LCollectionsEngine$Bill;I)V"⟩ ⟨"CollectionsEngine", "takePayment", "(LCollectionsEngine$Bill;I)V"⟩) ∈ WT := wt_sel 9 (by decide +kernel) (by decide +kernel)
end
section
def tysW (cs : Nat → ClassId) : List (ClassId × FieldType) := [(cs 0, .int), (cs 1, .long), (cs 2, .byte), (cs 3, .object RX0), (cs 4, .object RX3)]
def sInit (X : String) : MethodName := ⟨X, "<init>", "(Ljava/lang/String;)V"⟩
def sInit0 (X : String) : MethodName := ⟨X, "<init>", "()V"⟩
def nwD : List MethodName := [sInit0 "java/lang/RuntimeException", sInit "java/lang/RuntimeException", sInit0 "java/lang/Exception", sInit "java/lang/Exception", sInit0 "java/lang/Throwable", sInit "java/lang/Throwable"]
def xIO : String := "java/lang/IndexOutOfBoundsException"
def xIA : String := "java/lang/IllegalArgumentException"
def xIS : String := "java/lang/IllegalStateException"
def nwC : List String := [xIO, xIA, xIS]
def strs : List (Nat × String) := [(60, "no such weekday"), (71, "no weekday would be left for charging"), (222, "an argument is out of range"), (227, "no such reason"), (104, "the row of gaps is full"), (225, "no such account"), (115, "there are as many bills as there can be"), (229, "no such bill"), (136, "the bill is not being tried"), (148, "the bill takes no such payment"), (153, "the bill takes no promise"), (212, "no such event")]
def ncs : List (String × String) := [(xIO, xIA), (xIO, xIS), (xIA, xIO), (xIA, xIS), (xIS, xIO), (xIS, xIA)]
/-- what the throws, the texts and the tables of handlers rest on -/
def ST (sa : Nat → Nat) (A : Nat → Prop) (U : State) (H : Heap) : Prop :=
  vx_Zq Bundle.tN "UNASSIGNED_STACK" Bundle.steD A U H ∧ vx_Zq Bundle.tN "SUPPRESSED_SENTINEL" Bundle.listD A U H ∧ (∀ x ∈ nwD, va_Nw (.declares x) U) ∧ (∀ x ∈ nwC, va_Nw (.castable x x) U) ∧ (∀ q ∈ strs, vk_R RX4 q.1 q.2 (sa q.1) U) ∧ ∀ q ∈ ncs, va_Nc q.1 q.2 U
theorem ST.blind {sa : Nat → Nat} {A : Nat → Prop} {U : State} {g : JFrame} {mk : MethodId} {a : Array Value} (h : ST sa A U U.heap) : ST sa A (U.calling g mk a) (U.calling g mk a).heap := by
  obtain ⟨h1, h2, h3, h4, h5, h6⟩ := h
  exact ⟨vx_Zq.moved (u := U) (U := U.calling g mk a) (Vm.Alike.refl U.vm) h1, vx_Zq.moved (u := U) (U := U.calling g mk a) (Vm.Alike.refl U.vm) h2, fun x hx => va_Nw.same rfl (u := U) (U := U.calling g mk a) rfl (h3 x hx), fun x hx => va_Nw.same rfl (u := U) (U := U.calling g mk a) rfl (h4 x hx), fun q hq => vk_R.same (u := U) (U := U.calling g mk a) rfl (h5 q hq), fun q hq => va_Nc.moved (u := U) (U := U.calling g mk a) (Vm.Alike.refl U.vm) (h6 q hq)⟩
theorem ST.call {sa : Nat → Nat} {A B : Nat → Prop} {s U : State} {H : Heap} {locs : List Loc} (h : ST sa A s s.heap) (hS : va_S A s.heap H locs) (hB : ∀ q, B q → A q) (hU : U.heap = H) (hW : s.WarmedH U.vm) : ST sa B U U.heap := by
  obtain ⟨h1, h2, h3, h4, h5, h6⟩ := h
  subst hU
  exact ⟨((h1.moved hW.alike).kept hS.2.1).narrow hB, ((h2.moved hW.alike).kept hS.2.1).narrow hB, fun x hx => va_Nw.warmD hW (h3 x hx), fun x hx => va_Nw.warmC hW (h4 x hx), fun q hq => vk_R.warm hW (h5 q hq), fun q hq => va_Nc.moved hW.alike (h6 q hq)⟩
/-- the facts that hold throughout a method's body -/
def CX (p : Program) (l : Launch) (e : Env) (R : Room) (s : State) (m : MethodId) (args : Array Value) (below : List Frame) (meth : Method) (c : Code) (D : va_G) (cs : Nat → ClassId) (sa : Nat → Nat) (A : Nat → Prop) (cc : ByteArray) (nL : Nat) (own : String) (ret : Option FieldType) : Prop :=
  CallFix p m c cc nL s args WT own ∧ meth.sig.returnType = ret ∧ meth.locks = false ∧ va_K D vwCl (tysW cs) s ∧ (∀ q, s.heap.size ≤ q → A q) ∧ ST sa A s s.heap ∧ l.stackTraces = false
/-- from here, with this world, these numbered places and this stack, Q is reached -/
def J (p : Program) (l : Launch) (e : Env) (R : Room) (s : State) (m : MethodId) (args : Array Value) (below : List Frame) (meth : Method) (c : Code) (D : va_G) (A : Nat → Prop) (nL cells slots : Nat) (Q : State → Prop) (w : va_W) (pc : Nat) (lv : List (Nat × Value)) (st : List Value) : Prop :=
  ∀ (H : Heap) (locs : List Loc) (ls : Array Slot), va_P D vwCl w H → va_D A w → va_S A s.heap H locs → lv_has ls nL lv → W p l e R s m args below meth c H locs cells slots Q (F0 m pc ls st)
def JX (p : Program) (l : Launch) (e : Env) (R : Room) (s : State) (m : MethodId) (args : Array Value) (below : List Frame) (meth : Method) (c : Code) (D : va_G) (A : Nat → Prop) (nL cells slots : Nat) (Q : State → Prop) (w : va_W) (pc : Nat) (lv : List (Nat × Value)) (rest : List Value) (E : String) : Prop :=
  ∀ (H : Heap) (locs : List Loc) (ls : Array Slot) (ce : Cell) (q : Addr), va_P D vwCl w H → va_D A w → va_S A s.heap H locs → lv_has ls nL lv → H[q]? = some ce → ce.vm = .none → s.vm.findClass E = some ce.cls → vx_W p l e R s m args below meth c H locs cells slots Q (F0 m pc ls rest) q
def lgt : List (Nat × Value) → Nat → Option Value
  | [], _ => none
  | (j, v) :: r, k => match Nat.beq j k with
    | true => some v
    | false => lgt r k
theorem lgt_mem : ∀ {lv : List (Nat × Value)} {k : Nat} {v : Value}, lgt lv k = some v → (k, v) ∈ lv
  | [], _, _, h => by simp [lgt] at h
  | (j, x) :: r, k, v, h => by
    unfold lgt at h
    cases hb : Nat.beq j k with
    | true =>
      rw [hb] at h
      have := Nat.eq_of_beq_eq_true hb
      subst this
      cases h
      exact List.mem_cons_self
    | false =>
      rw [hb] at h
      exact List.mem_cons_of_mem _ (lgt_mem h)
theorem lgt_at {ls : Array Slot} {nL : Nat} {lv : List (Nat × Value)} {k : Nat} {v : Value} (h : lv_has ls nL lv) (hk : lgt lv k = some v) : ls[k]? = some (.val v) := h.2.2 _ (lgt_mem hk)
abbrev lst (lv : List (Nat × Value)) (i : Nat) (v : Value) : List (Nat × Value) := (i, v) :: lv.filter (fun q => !(q.1 == i) && !(q.1 + 1 == i && q.2.category == 2))
/-- what a call says: thrown, answered, the world behind it -/
abbrev Rs : Type := Option String × Option Value × va_W
def PO (D : va_G) (w : va_W) (A : Nat → Prop) (t : State) : Prop := va_P D vwCl w t.heap ∧ va_D A w
def PR (D : va_G) (cs : Nat → ClassId) (sa : Nat → Nat) (w : va_W) (sz : Nat) (U : State) : Prop := U.heap.size = sz ∧ va_P D vwCl w U.heap ∧ va_K D vwCl (tysW cs) U ∧ va_D (fun _ => True) w ∧ ST sa (va_A w sz) U U.heap
def QC (D : va_G) (r : Rs) (A : Nat → Prop) : Array Value → State → Outcome → State → Prop := fun _ st oc t => (r.1 = none ∧ oc = .returned r.2.1 ∧ PO D r.2.2 A t) ∧ va_F A st t
def XQ (D : va_G) (w : va_W) (r : Rs) (A : Nat → Prop) : String → State → State → Prop := fun E st t => (r.1 = some E ∧ PO D w A t) ∧ va_F A st t
abbrev QE (below : List Frame) (args : Array Value) (s : State) (D : va_G) (A : Nat → Prop) (mc ms : Nat) (w : va_W) (r : Rs) : State → Prop := vx_MQ below (QC D r A) (XQ D w r A) args s mc ms A
/-- A CONTRACT: from the world w the method throws or answers, and leaves, what r says -/
def CM (l : Launch) (D : va_G) (cs : Nat → ClassId) (sa : Nat → Nat) (y : MethodName) (cc : ByteArray) (maxL : Nat) (ret : Option FieldType) (rm : Room) (mc ms : Nat) (av : List Value) (w : va_W) (r : Rs) : Prop :=
  ∀ sz : Nat, vx_Met l y (.code y cc maxL ret :: WT) rm (va_Pc av (PR D cs sa w sz)) (QC D r (va_A w sz)) (XQ D w r (va_A w sz)) mc ms (va_A w sz)
/-- the same of a method with a table of handlers -/
def CH (l : Launch) (D : va_G) (cs : Nat → ClassId) (sa : Nat → Nat) (y : MethodName) (cc : ByteArray) (maxL : Nat) (ret : Option FieldType) (hh : List (Nat × Nat × Nat × Nat)) (rm : Room) (mc ms : Nat) (av : List Value) (w : va_W) (r : Rs) : Prop :=
  ∀ sz : Nat, vx_Met l y (.codeWith y cc maxL ret hh :: WT) rm (va_Pc av (PR D cs sa w sz)) (QC D r (va_A w sz)) (XQ D w r (va_A w sz)) mc ms (va_A w sz)
theorem PR.blind {D : va_G} {cs : Nat → ClassId} {sa : Nat → Nat} {w : va_W} {sz : Nat} {av : List Value} : FrameBlind (va_Pc av (PR D cs sa w sz)) := fun a U g mk h => ⟨h.1, h.2.1, h.2.2.1, va_K.moved (u := U) (U := U.calling g mk a) (Vm.Alike.refl U.vm) h.2.2.2.1, h.2.2.2.2.1, ST.blind h.2.2.2.2.2⟩
theorem CM.of {l : Launch} {D : va_G} {cs : Nat → ClassId} {sa : Nat → Nat} {y : MethodName} {cc : ByteArray} {maxL : Nat} {ret : Option FieldType} {rm : Room} {mc ms : Nat} {av : List Value} {w : va_W} {r : Rs} (own : String) (hl : l.stackTraces = false) (hy : plainName y.cls = true) (ho : y.cls = own) (hn : (lg_sl av).length ≤ maxL)
    (body : ∀ (p : Program) (e : Env) (s : State) (m : MethodId) (args : Array Value) (below : List Frame) (meth : Method) (c : Code) (A : Nat → Prop), CX p l e rm s m args below meth c D cs sa A cc maxL own ret → (∀ x ∈ c.exceptionTable.toList, False) → meth.name = y.name → J p l e rm s m args below meth c D A maxL 0 0 (QE below args s D A mc ms w r) w 0 (lv_args 0 av) []) : CM l D cs sa y cc maxL ret rm mc ms av w r := by
  intro sz
  refine vx_ofW hy rfl ?_
  intro p e s m args below meth c s₁ B hml hx hv
  obtain ⟨rfl, hsz, hP, hK, hD, hST⟩ := hv
  subst hsz
  rw [lg_entry_eq]
  have hts := atoms_spec (ws := .code y cc maxL ret :: WT) B.pre
  exact body p e s m _ below meth c _ ⟨⟨B.exec, B.bytes, hml, by rw [← ho]; exact findClass_of_methodNamed B.named, fun w hw => hts w (List.mem_cons_of_mem _ hw)⟩, B.returns, B.notSynchronized, hK, fun q h => Or.inr h, hST, hl⟩ hx (name_of_methodNamed B.named B.method).1 s.heap [] _ hP hD.self va_S.rf (lv_entry av hn)
theorem CM.ofF {l : Launch} {D : va_G} {cs : Nat → ClassId} {sa : Nat → Nat} {y : MethodName} {cc : ByteArray} {maxL : Nat} {ret : Option FieldType} {rm : Room} {mc ms : Nat} {av : List Value} {w : va_W} {r : Rs} (own : String) (hl : l.stackTraces = false) (hy : plainFor y = true) (ho : y.cls = own) (hn : (lg_sl av).length ≤ maxL)
    (body : ∀ (p : Program) (e : Env) (s : State) (m : MethodId) (args : Array Value) (below : List Frame) (meth : Method) (c : Code) (A : Nat → Prop), CX p l e rm s m args below meth c D cs sa A cc maxL own ret → (∀ x ∈ c.exceptionTable.toList, False) → meth.name = y.name → J p l e rm s m args below meth c D A maxL 0 0 (QE below args s D A mc ms w r) w 0 (lv_args 0 av) []) : CM l D cs sa y cc maxL ret rm mc ms av w r := by
  intro sz
  refine MetFree.of_bodySF (code := cc) (maxLocals := maxL) (ret := ret) hy ?_ ?_
  · intro args s m h hn
    obtain ⟨meth, c, h1, h2, h3, h4, h5, h6, -, -⟩ := Cond.code_spec hn (atoms_spec (ws := .code y cc maxL ret :: WT) h _ List.mem_cons_self)
    exact ⟨meth, c, h1, h2, h3, h4, h5, h6⟩
  · intro p e s m args below meth c s₁ B hml hv _
    have hh0 : s₁.heap = s.heap := by rw [B.state]; rfl
    have ht : ∀ x ∈ c.exceptionTable.toList, False := by
      obtain ⟨meth9, c9, h1, h2, -, -, -, -, h7, -⟩ := Cond.code_spec B.named (atoms_spec (ws := .code y cc maxL ret :: WT) B.pre _ List.mem_cons_self)
      cases Option.some.inj (h1.symm.trans B.method)
      cases Option.some.inj (h2.symm.trans (Stand.of_body B).code)
      intro x hx
      rw [Array.isEmpty_iff.mp h7] at hx
      cases hx
    obtain ⟨rfl, hsz, hP, hK, hD, hST⟩ := hv
    subst hsz
    have hts := atoms_spec (ws := .code y cc maxL ret :: WT) B.pre
    have k := body p e s m _ below meth c _ ⟨⟨B.exec, B.bytes, hml, by rw [← ho]; exact findClass_of_methodNamed B.named, fun w hw => hts w (List.mem_cons_of_mem _ hw)⟩, B.returns, B.notSynchronized, hK, fun q h => Or.inr h, hST, hl⟩ ht (name_of_methodNamed B.named B.method).1 s.heap [] _ hP hD.self va_S.rf (lv_entry av hn)
    rw [← lg_entry_eq] at k
    obtain ⟨t, a1, o, b1, b2, b3⟩ := k s₁ hh0 (Stand.of_body B)
    exact ⟨t, o, a1, b1, b2, b3⟩
theorem CH.of {l : Launch} {D : va_G} {cs : Nat → ClassId} {sa : Nat → Nat} {y : MethodName} {cc : ByteArray} {maxL : Nat} {ret : Option FieldType} {hh : List (Nat × Nat × Nat × Nat)} {rm : Room} {mc ms : Nat} {av : List Value} {w : va_W} {r : Rs} (own : String) (hl : l.stackTraces = false) (hy : plainName y.cls = true) (ho : y.cls = own) (hn : (lg_sl av).length ≤ maxL)
    (body : ∀ (p : Program) (e : Env) (s : State) (m : MethodId) (args : Array Value) (below : List Frame) (meth : Method) (c : Code) (A : Nat → Prop), CX p l e rm s m args below meth c D cs sa A cc maxL own ret → c.exceptionTable.toList = tableOf hh → J p l e rm s m args below meth c D A maxL 0 0 (QE below args s D A mc ms w r) w 0 (lv_args 0 av) []) : CH l D cs sa y cc maxL ret hh rm mc ms av w r := by
  intro sz
  refine vx_ofWH hy rfl ?_
  intro p e s m args below meth c s₁ B hml hv
  obtain ⟨rfl, hsz, hP, hK, hD, hST⟩ := hv
  subst hsz
  rw [lg_entry_eq]
  have hts := atoms_spec (ws := .codeWith y cc maxL ret hh :: WT) B.pre
  exact body p e s m _ below meth c _ ⟨⟨B.exec, B.bytes, hml, by rw [← ho]; exact findClass_of_methodNamed B.named, fun w hw => hts w (List.mem_cons_of_mem _ hw)⟩, B.returns, B.notSynchronized, hK, fun q h => Or.inr h, hST, hl⟩ (vx_table (x := y) B (hts _ List.mem_cons_self)) s.heap [] _ hP hD.self va_S.rf (lv_entry av hn)
section JR
variable {p : Program} {l : Launch} {e : Env} {R : Room} {s : State} {m : MethodId} {args : Array Value} {below : List Frame} {meth : Method} {c : Code} {D : va_G} {cs : Nat → ClassId} {sa : Nat → Nat} {A : Nat → Prop} {cc : ByteArray} {nL : Nat} {own : String} {ret : Option FieldType} {cells slots : Nat} {Q : State → Prop} {w : va_W} {pc : Nat} {lv : List (Nat × Value)} {st : List Value}
theorem j_iconst (hc : CX p l e R s m args below meth c D cs sa A cc nL own ret) {n : Int} {v : Int32} (hdg : decode cc pc = .ok (.iconst n, 1)) (hv : Int32.ofInt n = v) (k : J p l e R s m args below meth c D A nL cells slots Q w (pc + 1) lv (.int v :: st)) : J p l e R s m args below meth c D A nL cells slots Q w pc lv st := fun H locs ls hP hD hS hl => lv_iconst hc.1.1 hc.1.2.1 hdg hv (k H locs ls hP hD hS hl)
theorem j_bipush (hc : CX p l e R s m args below meth c D cs sa A cc nL own ret) {n : Int} {v : Int32} (hdg : decode cc pc = .ok (.bipush n, 2)) (hv : (Int8.ofInt n).toInt32 = v) (k : J p l e R s m args below meth c D A nL cells slots Q w (pc + 2) lv (.int v :: st)) : J p l e R s m args below meth c D A nL cells slots Q w pc lv st := fun H locs ls hP hD hS hl => lv_bipush hc.1.1 hc.1.2.1 hdg hv (k H locs ls hP hD hS hl)
theorem j_sipush (hc : CX p l e R s m args below meth c D cs sa A cc nL own ret) {n : Int} {v : Int32} (hdg : decode cc pc = .ok (.sipush n, 3)) (hv : (Int16.ofInt n).toInt32 = v) (k : J p l e R s m args below meth c D A nL cells slots Q w (pc + 3) lv (.int v :: st)) : J p l e R s m args below meth c D A nL cells slots Q w pc lv st := fun H locs ls hP hD hS hl => lv_sipush hc.1.1 hc.1.2.1 hdg hv (k H locs ls hP hD hS hl)
theorem j_lconst (hc : CX p l e R s m args below meth c D cs sa A cc nL own ret) {n : Fin 2} {v : Int64} (hdg : decode cc pc = .ok (.lconst n, 1)) (hv : Int64.ofNat (n : Nat) = v) (k : J p l e R s m args below meth c D A nL cells slots Q w (pc + 1) lv (.long v :: st)) : J p l e R s m args below meth c D A nL cells slots Q w pc lv st := fun H locs ls hP hD hS hl => lv_lconst hc.1.1 hc.1.2.1 hdg hv (k H locs ls hP hD hS hl)
theorem j_iload_n (hc : CX p l e R s m args below meth c D cs sa A cc nL own ret) {k0 : Fin 4} {x : Int32} (hdg : decode cc pc = .ok (.iload_n k0, 1)) (hg : lgt lv (k0 : Nat) = some (.int x)) (k : J p l e R s m args below meth c D A nL cells slots Q w (pc + 1) lv (.int x :: st)) : J p l e R s m args below meth c D A nL cells slots Q w pc lv st := fun H locs ls hP hD hS hl => lv_iload_n hc.1.1 hc.1.2.1 hdg rfl (lgt_at hl hg) (k H locs ls hP hD hS hl)
theorem j_iload (hc : CX p l e R s m args below meth c D cs sa A cc nL own ret) {i : Nat} {x : Int32} (hdg : decode cc pc = .ok (.iload i, 2)) (hg : lgt lv i = some (.int x)) (k : J p l e R s m args below meth c D A nL cells slots Q w (pc + 2) lv (.int x :: st)) : J p l e R s m args below meth c D A nL cells slots Q w pc lv st := fun H locs ls hP hD hS hl => lv_iload hc.1.1 hc.1.2.1 hdg (lgt_at hl hg) (k H locs ls hP hD hS hl)
theorem j_aload_n (hc : CX p l e R s m args below meth c D cs sa A cc nL own ret) {k0 : Fin 4} {x : Nat} (hdg : decode cc pc = .ok (.aload_n k0, 1)) (hg : lgt lv (k0 : Nat) = some (.ref x)) (k : J p l e R s m args below meth c D A nL cells slots Q w (pc + 1) lv (.ref x :: st)) : J p l e R s m args below meth c D A nL cells slots Q w pc lv st := fun H locs ls hP hD hS hl => lv_aload_n hc.1.1 hc.1.2.1 hdg rfl (lgt_at hl hg) (k H locs ls hP hD hS hl)
theorem j_aload (hc : CX p l e R s m args below meth c D cs sa A cc nL own ret) {i : Nat} {x : Nat} (hdg : decode cc pc = .ok (.aload i, 2)) (hg : lgt lv i = some (.ref x)) (k : J p l e R s m args below meth c D A nL cells slots Q w (pc + 2) lv (.ref x :: st)) : J p l e R s m args below meth c D A nL cells slots Q w pc lv st := fun H locs ls hP hD hS hl => lv_aload hc.1.1 hc.1.2.1 hdg (lgt_at hl hg) (k H locs ls hP hD hS hl)
theorem j_aload_nN (hc : CX p l e R s m args below meth c D cs sa A cc nL own ret) {k0 : Fin 4} (hdg : decode cc pc = .ok (.aload_n k0, 1)) (hg : lgt lv (k0 : Nat) = some .null) (k : J p l e R s m args below meth c D A nL cells slots Q w (pc + 1) lv (.null :: st)) : J p l e R s m args below meth c D A nL cells slots Q w pc lv st := fun H locs ls hP hD hS hl => lv_aload_nN hc.1.1 hc.1.2.1 hdg rfl (lgt_at hl hg) (k H locs ls hP hD hS hl)
theorem j_aloadN (hc : CX p l e R s m args below meth c D cs sa A cc nL own ret) {i : Nat} (hdg : decode cc pc = .ok (.aload i, 2)) (hg : lgt lv i = some .null) (k : J p l e R s m args below meth c D A nL cells slots Q w (pc + 2) lv (.null :: st)) : J p l e R s m args below meth c D A nL cells slots Q w pc lv st := fun H locs ls hP hD hS hl => lv_aloadN hc.1.1 hc.1.2.1 hdg (lgt_at hl hg) (k H locs ls hP hD hS hl)
theorem j_istore_n (hc : CX p l e R s m args below meth c D cs sa A cc nL own ret) {k0 : Fin 4} {x : Int32} (hdg : decode cc pc = .ok (.istore_n k0, 1)) (hn : Nat.blt (k0 : Nat) nL = true) (k : J p l e R s m args below meth c D A nL cells slots Q w (pc + 1) (lst lv (k0 : Nat) (.int x)) st) : J p l e R s m args below meth c D A nL cells slots Q w pc lv ((.int x) :: st) := fun H locs ls hP hD hS hl => lv_istore_n hc.1.1 hc.1.2.1 hdg rfl hl (Nat.le_of_ble_eq_true hn) rfl (fun ls hl => k H locs ls hP hD hS hl)
theorem j_istore (hc : CX p l e R s m args below meth c D cs sa A cc nL own ret) {i : Nat} {x : Int32} (hdg : decode cc pc = .ok (.istore i, 2)) (hn : Nat.blt i nL = true) (k : J p l e R s m args below meth c D A nL cells slots Q w (pc + 2) (lst lv i (.int x)) st) : J p l e R s m args below meth c D A nL cells slots Q w pc lv ((.int x) :: st) := fun H locs ls hP hD hS hl => lv_istore hc.1.1 hc.1.2.1 hdg hl (Nat.le_of_ble_eq_true hn) rfl (fun ls hl => k H locs ls hP hD hS hl)
theorem j_astore_n (hc : CX p l e R s m args below meth c D cs sa A cc nL own ret) {k0 : Fin 4} {x : Nat} (hdg : decode cc pc = .ok (.astore_n k0, 1)) (hn : Nat.blt (k0 : Nat) nL = true) (k : J p l e R s m args below meth c D A nL cells slots Q w (pc + 1) (lst lv (k0 : Nat) (.ref x)) st) : J p l e R s m args below meth c D A nL cells slots Q w pc lv ((.ref x) :: st) := fun H locs ls hP hD hS hl => lv_astore_n hc.1.1 hc.1.2.1 hdg rfl hl (Nat.le_of_ble_eq_true hn) rfl (fun ls hl => k H locs ls hP hD hS hl)
theorem j_astore (hc : CX p l e R s m args below meth c D cs sa A cc nL own ret) {i : Nat} {x : Nat} (hdg : decode cc pc = .ok (.astore i, 2)) (hn : Nat.blt i nL = true) (k : J p l e R s m args below meth c D A nL cells slots Q w (pc + 2) (lst lv i (.ref x)) st) : J p l e R s m args below meth c D A nL cells slots Q w pc lv ((.ref x) :: st) := fun H locs ls hP hD hS hl => lv_astore hc.1.1 hc.1.2.1 hdg hl (Nat.le_of_ble_eq_true hn) rfl (fun ls hl => k H locs ls hP hD hS hl)
theorem j_astore_nN (hc : CX p l e R s m args below meth c D cs sa A cc nL own ret) {k0 : Fin 4} (hdg : decode cc pc = .ok (.astore_n k0, 1)) (hn : Nat.blt (k0 : Nat) nL = true) (k : J p l e R s m args below meth c D A nL cells slots Q w (pc + 1) (lst lv (k0 : Nat) .null) st) : J p l e R s m args below meth c D A nL cells slots Q w pc lv (.null :: st) := fun H locs ls hP hD hS hl => lv_astore_nN hc.1.1 hc.1.2.1 hdg rfl hl (Nat.le_of_ble_eq_true hn) rfl (fun ls hl => k H locs ls hP hD hS hl)
theorem j_astoreN (hc : CX p l e R s m args below meth c D cs sa A cc nL own ret) {i : Nat} (hdg : decode cc pc = .ok (.astore i, 2)) (hn : Nat.blt i nL = true) (k : J p l e R s m args below meth c D A nL cells slots Q w (pc + 2) (lst lv i .null) st) : J p l e R s m args below meth c D A nL cells slots Q w pc lv (.null :: st) := fun H locs ls hP hD hS hl => lv_astoreN hc.1.1 hc.1.2.1 hdg hl (Nat.le_of_ble_eq_true hn) rfl (fun ls hl => k H locs ls hP hD hS hl)
theorem lst_mem {i : Nat} {v : Value} (h : lgt lv i = some v) : ∃ k : Nat, lv[k]? = some (i, v) := List.getElem?_of_mem (lgt_mem h)
theorem j_iinc (hc : CX p l e R s m args below meth c D cs sa A cc nL own ret) {i : Nat} {n : Int} {x v : Int32} (hdg : decode cc pc = .ok (.iinc i n, 3)) (hg : lgt lv i = some (.int x)) (hv : x + Int32.ofInt n = v) (hn : Nat.blt i nL = true) (k : J p l e R s m args below meth c D A nL cells slots Q w (pc + 3) (lst lv i (.int v)) st) : J p l e R s m args below meth c D A nL cells slots Q w pc lv st := fun H locs ls hP hD hS hl => by
  obtain ⟨k9, h9⟩ := lst_mem hg
  exact lv_iinc hc.1.1 hc.1.2.1 hdg hl h9 hv (Nat.le_of_ble_eq_true hn) rfl (fun ls hl => k H locs ls hP hD hS hl)
theorem j_iadd (hc : CX p l e R s m args below meth c D cs sa A cc nL own ret) {x y : Int32} (hdg : decode cc pc = .ok (.iadd, 1)) (k : J p l e R s m args below meth c D A nL cells slots Q w (pc + 1) lv (.int (x + y) :: st)) : J p l e R s m args below meth c D A nL cells slots Q w pc lv (.int y :: .int x :: st) := fun H locs ls hP hD hS hl => lv_iadd hc.1.1 hc.1.2.1 hdg (k H locs ls hP hD hS hl)
theorem j_isub (hc : CX p l e R s m args below meth c D cs sa A cc nL own ret) {x y : Int32} (hdg : decode cc pc = .ok (.isub, 1)) (k : J p l e R s m args below meth c D A nL cells slots Q w (pc + 1) lv (.int (x - y) :: st)) : J p l e R s m args below meth c D A nL cells slots Q w pc lv (.int y :: .int x :: st) := fun H locs ls hP hD hS hl => lv_isub hc.1.1 hc.1.2.1 hdg (k H locs ls hP hD hS hl)
theorem j_imul (hc : CX p l e R s m args below meth c D cs sa A cc nL own ret) {x y : Int32} (hdg : decode cc pc = .ok (.imul, 1)) (k : J p l e R s m args below meth c D A nL cells slots Q w (pc + 1) lv (.int (x * y) :: st)) : J p l e R s m args below meth c D A nL cells slots Q w pc lv (.int y :: .int x :: st) := fun H locs ls hP hD hS hl => lv_imul hc.1.1 hc.1.2.1 hdg (k H locs ls hP hD hS hl)
theorem j_iand (hc : CX p l e R s m args below meth c D cs sa A cc nL own ret) {x y : Int32} (hdg : decode cc pc = .ok (.iand, 1)) (k : J p l e R s m args below meth c D A nL cells slots Q w (pc + 1) lv (.int (x &&& y) :: st)) : J p l e R s m args below meth c D A nL cells slots Q w pc lv (.int y :: .int x :: st) := fun H locs ls hP hD hS hl => lv_iand hc.1.1 hc.1.2.1 hdg (k H locs ls hP hD hS hl)
theorem j_ior (hc : CX p l e R s m args below meth c D cs sa A cc nL own ret) {x y : Int32} (hdg : decode cc pc = .ok (.ior, 1)) (k : J p l e R s m args below meth c D A nL cells slots Q w (pc + 1) lv (.int (x ||| y) :: st)) : J p l e R s m args below meth c D A nL cells slots Q w pc lv (.int y :: .int x :: st) := fun H locs ls hP hD hS hl => lv_ior hc.1.1 hc.1.2.1 hdg (k H locs ls hP hD hS hl)
theorem j_ixor (hc : CX p l e R s m args below meth c D cs sa A cc nL own ret) {x y : Int32} (hdg : decode cc pc = .ok (.ixor, 1)) (k : J p l e R s m args below meth c D A nL cells slots Q w (pc + 1) lv (.int (x ^^^ y) :: st)) : J p l e R s m args below meth c D A nL cells slots Q w pc lv (.int y :: .int x :: st) := fun H locs ls hP hD hS hl => lv_ixor hc.1.1 hc.1.2.1 hdg (k H locs ls hP hD hS hl)
theorem j_ishl (hc : CX p l e R s m args below meth c D cs sa A cc nL own ret) {x y : Int32} (hdg : decode cc pc = .ok (.ishl, 1)) (k : J p l e R s m args below meth c D A nL cells slots Q w (pc + 1) lv (.int (x <<< (y &&& 31)) :: st)) : J p l e R s m args below meth c D A nL cells slots Q w pc lv (.int y :: .int x :: st) := fun H locs ls hP hD hS hl => lv_ishl hc.1.1 hc.1.2.1 hdg (k H locs ls hP hD hS hl)
theorem j_ishr (hc : CX p l e R s m args below meth c D cs sa A cc nL own ret) {x y : Int32} (hdg : decode cc pc = .ok (.ishr, 1)) (k : J p l e R s m args below meth c D A nL cells slots Q w (pc + 1) lv (.int (x >>> (y &&& 31)) :: st)) : J p l e R s m args below meth c D A nL cells slots Q w pc lv (.int y :: .int x :: st) := fun H locs ls hP hD hS hl => lv_ishr hc.1.1 hc.1.2.1 hdg (k H locs ls hP hD hS hl)
theorem j_iushr (hc : CX p l e R s m args below meth c D cs sa A cc nL own ret) {x y : Int32} (hdg : decode cc pc = .ok (.iushr, 1)) (k : J p l e R s m args below meth c D A nL cells slots Q w (pc + 1) lv (.int (x.toUInt32 >>> (y.toUInt32 &&& Int32.toUInt32 31)).toInt32 :: st)) : J p l e R s m args below meth c D A nL cells slots Q w pc lv (.int y :: .int x :: st) := fun H locs ls hP hD hS hl => lv_iushr hc.1.1 hc.1.2.1 hdg rfl (k H locs ls hP hD hS hl)
theorem j_idiv (hc : CX p l e R s m args below meth c D cs sa A cc nL own ret) {x y : Int32} (hdg : decode cc pc = .ok (.idiv, 1)) (h0 : ¬ y = 0) (k : J p l e R s m args below meth c D A nL cells slots Q w (pc + 1) lv (.int (x / y) :: st)) : J p l e R s m args below meth c D A nL cells slots Q w pc lv (.int y :: .int x :: st) := fun H locs ls hP hD hS hl => lv_idiv hc.1.1 hc.1.2.1 hdg h0 (k H locs ls hP hD hS hl)
theorem j_irem (hc : CX p l e R s m args below meth c D cs sa A cc nL own ret) {x y : Int32} (hdg : decode cc pc = .ok (.irem, 1)) (h0 : ¬ y = 0) (k : J p l e R s m args below meth c D A nL cells slots Q w (pc + 1) lv (.int (x - x / y * y) :: st)) : J p l e R s m args below meth c D A nL cells slots Q w pc lv (.int y :: .int x :: st) := fun H locs ls hP hD hS hl => lv_irem hc.1.1 hc.1.2.1 hdg h0 (k H locs ls hP hD hS hl)
theorem j_i2l (hc : CX p l e R s m args below meth c D cs sa A cc nL own ret) {x : Int32} (hdg : decode cc pc = .ok (.i2l, 1)) (k : J p l e R s m args below meth c D A nL cells slots Q w (pc + 1) lv (.long x.toInt64 :: st)) : J p l e R s m args below meth c D A nL cells slots Q w pc lv (.int x :: st) := fun H locs ls hP hD hS hl => lv_i2l hc.1.1 hc.1.2.1 hdg rfl (k H locs ls hP hD hS hl)
theorem j_lshl (hc : CX p l e R s m args below meth c D cs sa A cc nL own ret) {x : Int64} {y : Int32} (hdg : decode cc pc = .ok (.lshl, 1)) (k : J p l e R s m args below meth c D A nL cells slots Q w (pc + 1) lv (.long (x <<< (y.toInt64 &&& 63)) :: st)) : J p l e R s m args below meth c D A nL cells slots Q w pc lv (.int y :: .long x :: st) := fun H locs ls hP hD hS hl => lv_lshl hc.1.1 hc.1.2.1 hdg rfl (k H locs ls hP hD hS hl)
theorem j_lushr (hc : CX p l e R s m args below meth c D cs sa A cc nL own ret) {x : Int64} {y : Int32} (hdg : decode cc pc = .ok (.lushr, 1)) (k : J p l e R s m args below meth c D A nL cells slots Q w (pc + 1) lv (.long (x.toUInt64 >>> (y.toInt64.toUInt64 &&& Int64.toUInt64 63)).toInt64 :: st)) : J p l e R s m args below meth c D A nL cells slots Q w pc lv (.int y :: .long x :: st) := fun H locs ls hP hD hS hl => lv_lushr hc.1.1 hc.1.2.1 hdg rfl (k H locs ls hP hD hS hl)
theorem j_land (hc : CX p l e R s m args below meth c D cs sa A cc nL own ret) {x y : Int64} (hdg : decode cc pc = .ok (.land, 1)) (k : J p l e R s m args below meth c D A nL cells slots Q w (pc + 1) lv (.long (x &&& y) :: st)) : J p l e R s m args below meth c D A nL cells slots Q w pc lv (.long y :: .long x :: st) := fun H locs ls hP hD hS hl => lv_land hc.1.1 hc.1.2.1 hdg (k H locs ls hP hD hS hl)
theorem j_lor (hc : CX p l e R s m args below meth c D cs sa A cc nL own ret) {x y : Int64} (hdg : decode cc pc = .ok (.lor, 1)) (k : J p l e R s m args below meth c D A nL cells slots Q w (pc + 1) lv (.long (x ||| y) :: st)) : J p l e R s m args below meth c D A nL cells slots Q w pc lv (.long y :: .long x :: st) := fun H locs ls hP hD hS hl => lv_lor hc.1.1 hc.1.2.1 hdg (k H locs ls hP hD hS hl)
theorem j_lcmp (hc : CX p l e R s m args below meth c D cs sa A cc nL own ret) {x y : Int64} (hdg : decode cc pc = .ok (.lcmp, 1)) (k : J p l e R s m args below meth c D A nL cells slots Q w (pc + 1) lv (.int (lg_cmp x y) :: st)) : J p l e R s m args below meth c D A nL cells slots Q w pc lv (.long y :: .long x :: st) := fun H locs ls hP hD hS hl => W.lcmp hc.1.1 hc.1.2.1 hdg (k H locs ls hP hD hS hl)
theorem j_dup (hc : CX p l e R s m args below meth c D cs sa A cc nL own ret) {v : Value} (hdg : decode cc pc = .ok (.dup, 1)) (hv : v.category = 1) (k : J p l e R s m args below meth c D A nL cells slots Q w (pc + 1) lv (v :: v :: st)) : J p l e R s m args below meth c D A nL cells slots Q w pc lv (v :: st) := fun H locs ls hP hD hS hl => lv_dup hc.1.1 hc.1.2.1 hdg hv (k H locs ls hP hD hS hl)
theorem j_dup2 (hc : CX p l e R s m args below meth c D cs sa A cc nL own ret) {v u : Value} (hdg : decode cc pc = .ok (.dup2, 1)) (hv : v.category = 1) (hu : u.category = 1) (k : J p l e R s m args below meth c D A nL cells slots Q w (pc + 1) lv (v :: u :: v :: u :: st)) : J p l e R s m args below meth c D A nL cells slots Q w pc lv (v :: u :: st) := fun H locs ls hP hD hS hl => lv_dup2_11 hc.1.1 hc.1.2.1 hdg hv hu (k H locs ls hP hD hS hl)
theorem j_pop (hc : CX p l e R s m args below meth c D cs sa A cc nL own ret) {v : Value} (hdg : decode cc pc = .ok (.pop, 1)) (hv : v.category = 1) (k : J p l e R s m args below meth c D A nL cells slots Q w (pc + 1) lv st) : J p l e R s m args below meth c D A nL cells slots Q w pc lv (v :: st) := fun H locs ls hP hD hS hl => lv_pop hc.1.1 hc.1.2.1 hdg hv (k H locs ls hP hD hS hl)
theorem j_if_eq (hc : CX p l e R s m args below meth c D cs sa A cc nL own ret) {x : Int32} {off : Int} (tgt : Nat) (hdg : decode cc pc = .ok (.ifCond .eq off, 3)) (ht : (pc : Int) + off = (tgt : Int)) (kt : x = 0 → J p l e R s m args below meth c D A nL cells slots Q w tgt lv st) (kf : ¬ x = 0 → J p l e R s m args below meth c D A nL cells slots Q w (pc + 3) lv st) : J p l e R s m args below meth c D A nL cells slots Q w pc lv (.int x :: st) := fun H locs ls hP hD hS hl => lv_if_eq hc.1.1 hc.1.2.1 hdg ht (fun z => kt z H locs ls hP hD hS hl) (fun z => kf z H locs ls hP hD hS hl)
theorem j_icmp_eq (hc : CX p l e R s m args below meth c D cs sa A cc nL own ret) {x y : Int32} {off : Int} (tgt : Nat) (hdg : decode cc pc = .ok (.if_icmp .eq off, 3)) (ht : (pc : Int) + off = (tgt : Int)) (kt : x = y → J p l e R s m args below meth c D A nL cells slots Q w tgt lv st) (kf : ¬ x = y → J p l e R s m args below meth c D A nL cells slots Q w (pc + 3) lv st) : J p l e R s m args below meth c D A nL cells slots Q w pc lv (.int y :: .int x :: st) := fun H locs ls hP hD hS hl => lv_icmp_eq hc.1.1 hc.1.2.1 hdg ht (fun z => kt z H locs ls hP hD hS hl) (fun z => kf z H locs ls hP hD hS hl)
theorem j_if_ne (hc : CX p l e R s m args below meth c D cs sa A cc nL own ret) {x : Int32} {off : Int} (tgt : Nat) (hdg : decode cc pc = .ok (.ifCond .ne off, 3)) (ht : (pc : Int) + off = (tgt : Int)) (kt : ¬ x = 0 → J p l e R s m args below meth c D A nL cells slots Q w tgt lv st) (kf : x = 0 → J p l e R s m args below meth c D A nL cells slots Q w (pc + 3) lv st) : J p l e R s m args below meth c D A nL cells slots Q w pc lv (.int x :: st) := fun H locs ls hP hD hS hl => lv_if_ne hc.1.1 hc.1.2.1 hdg ht (fun z => kt z H locs ls hP hD hS hl) (fun z => kf z H locs ls hP hD hS hl)
theorem j_icmp_ne (hc : CX p l e R s m args below meth c D cs sa A cc nL own ret) {x y : Int32} {off : Int} (tgt : Nat) (hdg : decode cc pc = .ok (.if_icmp .ne off, 3)) (ht : (pc : Int) + off = (tgt : Int)) (kt : ¬ x = y → J p l e R s m args below meth c D A nL cells slots Q w tgt lv st) (kf : x = y → J p l e R s m args below meth c D A nL cells slots Q w (pc + 3) lv st) : J p l e R s m args below meth c D A nL cells slots Q w pc lv (.int y :: .int x :: st) := fun H locs ls hP hD hS hl => lv_icmp_ne hc.1.1 hc.1.2.1 hdg ht (fun z => kt z H locs ls hP hD hS hl) (fun z => kf z H locs ls hP hD hS hl)
theorem j_if_lt (hc : CX p l e R s m args below meth c D cs sa A cc nL own ret) {x : Int32} {off : Int} (tgt : Nat) (hdg : decode cc pc = .ok (.ifCond .lt off, 3)) (ht : (pc : Int) + off = (tgt : Int)) (kt : x < 0 → J p l e R s m args below meth c D A nL cells slots Q w tgt lv st) (kf : ¬ x < 0 → J p l e R s m args below meth c D A nL cells slots Q w (pc + 3) lv st) : J p l e R s m args below meth c D A nL cells slots Q w pc lv (.int x :: st) := fun H locs ls hP hD hS hl => lv_if_lt hc.1.1 hc.1.2.1 hdg ht (fun z => kt z H locs ls hP hD hS hl) (fun z => kf z H locs ls hP hD hS hl)
theorem j_icmp_lt (hc : CX p l e R s m args below meth c D cs sa A cc nL own ret) {x y : Int32} {off : Int} (tgt : Nat) (hdg : decode cc pc = .ok (.if_icmp .lt off, 3)) (ht : (pc : Int) + off = (tgt : Int)) (kt : x < y → J p l e R s m args below meth c D A nL cells slots Q w tgt lv st) (kf : ¬ x < y → J p l e R s m args below meth c D A nL cells slots Q w (pc + 3) lv st) : J p l e R s m args below meth c D A nL cells slots Q w pc lv (.int y :: .int x :: st) := fun H locs ls hP hD hS hl => lv_icmp_lt hc.1.1 hc.1.2.1 hdg ht (fun z => kt z H locs ls hP hD hS hl) (fun z => kf z H locs ls hP hD hS hl)
theorem j_if_ge (hc : CX p l e R s m args below meth c D cs sa A cc nL own ret) {x : Int32} {off : Int} (tgt : Nat) (hdg : decode cc pc = .ok (.ifCond .ge off, 3)) (ht : (pc : Int) + off = (tgt : Int)) (kt : 0 ≤ x → J p l e R s m args below meth c D A nL cells slots Q w tgt lv st) (kf : ¬ 0 ≤ x → J p l e R s m args below meth c D A nL cells slots Q w (pc + 3) lv st) : J p l e R s m args below meth c D A nL cells slots Q w pc lv (.int x :: st) := fun H locs ls hP hD hS hl => lv_if_ge hc.1.1 hc.1.2.1 hdg ht (fun z => kt z H locs ls hP hD hS hl) (fun z => kf z H locs ls hP hD hS hl)
theorem j_icmp_ge (hc : CX p l e R s m args below meth c D cs sa A cc nL own ret) {x y : Int32} {off : Int} (tgt : Nat) (hdg : decode cc pc = .ok (.if_icmp .ge off, 3)) (ht : (pc : Int) + off = (tgt : Int)) (kt : y ≤ x → J p l e R s m args below meth c D A nL cells slots Q w tgt lv st) (kf : ¬ y ≤ x → J p l e R s m args below meth c D A nL cells slots Q w (pc + 3) lv st) : J p l e R s m args below meth c D A nL cells slots Q w pc lv (.int y :: .int x :: st) := fun H locs ls hP hD hS hl => lv_icmp_ge hc.1.1 hc.1.2.1 hdg ht (fun z => kt z H locs ls hP hD hS hl) (fun z => kf z H locs ls hP hD hS hl)
theorem j_if_gt (hc : CX p l e R s m args below meth c D cs sa A cc nL own ret) {x : Int32} {off : Int} (tgt : Nat) (hdg : decode cc pc = .ok (.ifCond .gt off, 3)) (ht : (pc : Int) + off = (tgt : Int)) (kt : 0 < x → J p l e R s m args below meth c D A nL cells slots Q w tgt lv st) (kf : ¬ 0 < x → J p l e R s m args below meth c D A nL cells slots Q w (pc + 3) lv st) : J p l e R s m args below meth c D A nL cells slots Q w pc lv (.int x :: st) := fun H locs ls hP hD hS hl => lv_if_gt hc.1.1 hc.1.2.1 hdg ht (fun z => kt z H locs ls hP hD hS hl) (fun z => kf z H locs ls hP hD hS hl)
theorem j_icmp_gt (hc : CX p l e R s m args below meth c D cs sa A cc nL own ret) {x y : Int32} {off : Int} (tgt : Nat) (hdg : decode cc pc = .ok (.if_icmp .gt off, 3)) (ht : (pc : Int) + off = (tgt : Int)) (kt : y < x → J p l e R s m args below meth c D A nL cells slots Q w tgt lv st) (kf : ¬ y < x → J p l e R s m args below meth c D A nL cells slots Q w (pc + 3) lv st) : J p l e R s m args below meth c D A nL cells slots Q w pc lv (.int y :: .int x :: st) := fun H locs ls hP hD hS hl => lv_icmp_gt hc.1.1 hc.1.2.1 hdg ht (fun z => kt z H locs ls hP hD hS hl) (fun z => kf z H locs ls hP hD hS hl)
theorem j_if_le (hc : CX p l e R s m args below meth c D cs sa A cc nL own ret) {x : Int32} {off : Int} (tgt : Nat) (hdg : decode cc pc = .ok (.ifCond .le off, 3)) (ht : (pc : Int) + off = (tgt : Int)) (kt : x ≤ 0 → J p l e R s m args below meth c D A nL cells slots Q w tgt lv st) (kf : ¬ x ≤ 0 → J p l e R s m args below meth c D A nL cells slots Q w (pc + 3) lv st) : J p l e R s m args below meth c D A nL cells slots Q w pc lv (.int x :: st) := fun H locs ls hP hD hS hl => lv_if_le hc.1.1 hc.1.2.1 hdg ht (fun z => kt z H locs ls hP hD hS hl) (fun z => kf z H locs ls hP hD hS hl)
theorem j_icmp_le (hc : CX p l e R s m args below meth c D cs sa A cc nL own ret) {x y : Int32} {off : Int} (tgt : Nat) (hdg : decode cc pc = .ok (.if_icmp .le off, 3)) (ht : (pc : Int) + off = (tgt : Int)) (kt : x ≤ y → J p l e R s m args below meth c D A nL cells slots Q w tgt lv st) (kf : ¬ x ≤ y → J p l e R s m args below meth c D A nL cells slots Q w (pc + 3) lv st) : J p l e R s m args below meth c D A nL cells slots Q w pc lv (.int y :: .int x :: st) := fun H locs ls hP hD hS hl => lv_icmp_le hc.1.1 hc.1.2.1 hdg ht (fun z => kt z H locs ls hP hD hS hl) (fun z => kf z H locs ls hP hD hS hl)
theorem j_goto (hc : CX p l e R s m args below meth c D cs sa A cc nL own ret) {off : Int} (tgt : Nat) (hdg : decode cc pc = .ok (.goto off, 3)) (ht : (pc : Int) + off = (tgt : Int)) (k : J p l e R s m args below meth c D A nL cells slots Q w tgt lv st) : J p l e R s m args below meth c D A nL cells slots Q w pc lv st := fun H locs ls hP hD hS hl => lv_goto hc.1.1 hc.1.2.1 hdg ht (k H locs ls hP hD hS hl)
theorem j_ifnull (hc : CX p l e R s m args below meth c D cs sa A cc nL own ret) {x : Nat} {off : Int} (hdg : decode cc pc = .ok (.ifnull off, 3)) (k : J p l e R s m args below meth c D A nL cells slots Q w (pc + 3) lv st) : J p l e R s m args below meth c D A nL cells slots Q w pc lv (.ref x :: st) := fun H locs ls hP hD hS hl => lv_ifnull hc.1.1 hc.1.2.1 hdg (k H locs ls hP hD hS hl)
theorem j_ifnullN (hc : CX p l e R s m args below meth c D cs sa A cc nL own ret) {off : Int} (tgt : Nat) (hdg : decode cc pc = .ok (.ifnull off, 3)) (ht : (pc : Int) + off = (tgt : Int)) (k : J p l e R s m args below meth c D A nL cells slots Q w tgt lv st) : J p l e R s m args below meth c D A nL cells slots Q w pc lv (.null :: st) := fun H locs ls hP hD hS hl => lv_ifnullN hc.1.1 hc.1.2.1 hdg ht (k H locs ls hP hD hS hl)
theorem j_ifnonnull (hc : CX p l e R s m args below meth c D cs sa A cc nL own ret) {x : Nat} {off : Int} (tgt : Nat) (hdg : decode cc pc = .ok (.ifnonnull off, 3)) (ht : (pc : Int) + off = (tgt : Int)) (k : J p l e R s m args below meth c D A nL cells slots Q w tgt lv st) : J p l e R s m args below meth c D A nL cells slots Q w pc lv (.ref x :: st) := fun H locs ls hP hD hS hl => lv_ifnonnull hc.1.1 hc.1.2.1 hdg ht (k H locs ls hP hD hS hl)
theorem j_ifnonnullN (hc : CX p l e R s m args below meth c D cs sa A cc nL own ret) {off : Int} (hdg : decode cc pc = .ok (.ifnonnull off, 3)) (k : J p l e R s m args below meth c D A nL cells slots Q w (pc + 3) lv st) : J p l e R s m args below meth c D A nL cells slots Q w pc lv (.null :: st) := fun H locs ls hP hD hS hl => lv_ifnonnullN hc.1.1 hc.1.2.1 hdg (k H locs ls hP hD hS hl)
theorem j_null (hc : CX p l e R s m args below meth c D cs sa A cc nL own ret) (hdg : decode cc pc = .ok (.aconst_null, 1)) (k : J p l e R s m args below meth c D A nL cells slots Q w (pc + 1) lv (.null :: st)) : J p l e R s m args below meth c D A nL cells slots Q w pc lv st := fun H locs ls hP hD hS hl => lv_null hc.1.1 hc.1.2.1 hdg (k H locs ls hP hD hS hl)
theorem j_ldc (hc : CX p l e R s m args below meth c D cs sa A cc nL own ret) {index : Nat} {v : Int32} (hm : Cond.constant own index v ∈ WT) (hdg : decode cc pc = .ok (.ldc index, 2)) (k : J p l e R s m args below meth c D A nL cells slots Q w (pc + 2) lv (.int v :: st)) : J p l e R s m args below meth c D A nL cells slots Q w pc lv st := fun H locs ls hP hD hS hl => lv_ldc hc.1.1 hc.1.2.1 hc.1.2.2.2.1 (hc.1.2.2.2.2 _ hm) hdg (k H locs ls hP hD hS hl)
def lvs (lv : List (Nat × Value)) : List (Nat × Value) → Prop
  | [] => True
  | q :: r => lgt lv q.1 = some q.2 ∧ lvs lv r
theorem lvs_mem {lv : List (Nat × Value)} : ∀ {l2 : List (Nat × Value)}, lvs lv l2 → ∀ q ∈ l2, lgt lv q.1 = some q.2
  | [], _, q, h => by cases h
  | x :: r, hh, q, h => by
    rcases List.mem_cons.mp h with rfl | h
    · exact hh.1
    · exact lvs_mem hh.2 q h
theorem j_lv (lv' : List (Nat × Value)) (h : lvs lv lv') (k : J p l e R s m args below meth c D A nL cells slots Q w pc lv' st) : J p l e R s m args below meth c D A nL cells slots Q w pc lv st := fun H locs ls hP hD hS hl => k H locs ls hP hD hS ⟨hl.1, hl.2.1, fun q hq => lgt_at hl (lvs_mem h q hq)⟩
theorem j_w {w' : va_W} (h : w = w') (k : J p l e R s m args below meth c D A nL cells slots Q w' pc lv st) : J p l e R s m args below meth c D A nL cells slots Q w pc lv st := h ▸ k
theorem j_wid {k9 n9 : Nat} (h1 : cells ≤ k9) (h2 : slots ≤ n9) (k : J p l e R s m args below meth c D A nL k9 n9 Q w pc lv st) : J p l e R s m args below meth c D A nL cells slots Q w pc lv st := fun H locs ls hP hD hS hl => W.widen h1 h2 (k H locs ls hP hD hS hl)
theorem j_st {st' : List Value} (h : st = st') (k : J p l e R s m args below meth c D A nL cells slots Q w pc lv st') : J p l e R s m args below meth c D A nL cells slots Q w pc lv st := h ▸ k
theorem j_getf (hc : CX p l e R s m args below meth c D cs sa A cc nL own ret) {ref K : String} {T : u_T} {N ci index : Nat} (hin : ∀ w ∈ u_ws K T N, w ∈ WT) (q0 : Nat) {a : Nat} {fs : List Value} (he : w[q0]? = some (a, .inr (ci, fs))) (hcl : vwCl[ci]? = some (K, T, N)) (k : Nat) (hk : k < N) (hlink : Cond.fieldLink own index ref (T k).2.1 (T k).2.2.1 ∈ WT) (hsame : (T k).1 = ref) {v : Value} (hv : fs[k]? = some v) (hdg : decode cc pc = .ok (.getfield index, 3)) (kk : J p l e R s m args below meth c D A nL cells slots Q w (pc + 3) lv (v :: st)) : J p l e R s m args below meth c D A nL cells slots Q w pc lv (.ref a :: st) := fun H locs ls hP hD hS hl =>
  va_get (D := D) hc.1.1 hc.1.2.1 hc.1.2.2.2.2 hin hc.1.2.2.2.1 hc.2.2.2.1 hP q0 he hcl k hk (hc.1.2.2.2.2 _ hlink) (fun x hx => by rw [← hsame]; exact hx) hv hdg (kk H locs ls hP hD hS hl)
theorem j_putf (hc : CX p l e R s m args below meth c D cs sa A cc nL own ret) {ref K : String} {T : u_T} {N ci index : Nat} (hin : ∀ w ∈ u_ws K T N, w ∈ WT) (ty0 : Nat → FieldType) (hty : ∀ k, k < N → parseFieldDescriptor (T k).2.2.1 = some (ty0 k)) (hnm : ∀ a, a < N → ∀ b, b < N → a ≠ b → (T a).2.1 ≠ (T b).2.1) (q0 : Nat) {a : Nat} {fs : List Value} (he : w[q0]? = some (a, .inr (ci, fs))) (hcl : vwCl[ci]? = some (K, T, N)) (k : Nat) (hk : k < N) (hlink : Cond.fieldLink own index ref (T k).2.1 (T k).2.2.1 ∈ WT) (hsame : (T k).1 = ref) (hfin : (T k).2.2.2 = false ∨ (T k).2.2.2 = true ∧ meth.name = "<init>" ∧ (T k).1 = own) {ty : FieldType} {v : Value} (hd : parseFieldDescriptor (T k).2.2.1 = some ty) (hn : narrow ty v = v) (hfit : fits ty v = true) (hl : k < fs.length) {w' : va_W} (hw : w.set q0 (a, .inr (ci, fs.set k v)) = w') (hdg : decode cc pc = .ok (.putfield index, 3)) (kk : J p l e R s m args below meth c D A nL cells slots Q w' (pc + 3) lv st) : J p l e R s m args below meth c D A nL cells slots Q w pc lv (v :: .ref a :: st) := fun H locs ls hP hD hS hlv => by
  subst hw
  rcases hfin with hf | ⟨hf, hi, ho⟩
  · exact va_put (D := D) hc.1.1 hc.1.2.1 hc.1.2.2.2.2 hin ty0 hty hnm hc.1.2.2.2.1 hc.2.2.2.1 hP hD hS q0 he hcl k hk (hc.1.2.2.2.2 _ hlink) (fun x hx => by rw [← hsame]; exact hx) hf hd hn hfit hl hdg (fun H1 locs1 hP hD hS => kk H1 locs1 ls hP hD hS hlv)
  · exact va_putF (D := D) hc.1.1 hc.1.2.1 hc.1.2.2.2.2 hin ty0 hty hnm hc.1.2.2.2.1 hc.2.2.2.1 hP hD hS q0 he hcl k hk (hc.1.2.2.2.2 _ hlink) (fun x hx => by rw [← hsame]; exact hx) hf hi ho hd hn hfit hl hdg (fun H1 locs1 hP hD hS => kk H1 locs1 ls hP hD hS hlv)
theorem j_iaload (hc : CX p l e R s m args below meth c D cs sa A cc nL own ret) (q0 : Nat) {a n : Nat} {f : Nat → Int32} (he : w[q0]? = some (a, .inl (cs 0, n, .inl f))) {i : Int32} (hin : vp_in i n) (hdg : decode cc pc = .ok (.iaload, 1)) (kk : J p l e R s m args below meth c D A nL cells slots Q w (pc + 1) lv (.int (f i.toNatClampNeg) :: st)) : J p l e R s m args below meth c D A nL cells slots Q w pc lv (.int i :: .ref a :: st) := fun H locs ls hP hD hS hl => va_iald hc.1.1 hc.1.2.1 hc.2.2.2.1 hP q0 0 he rfl hin hdg (kk H locs ls hP hD hS hl)
theorem j_laload (hc : CX p l e R s m args below meth c D cs sa A cc nL own ret) (q0 : Nat) {a n : Nat} {f : Nat → Int64} (he : w[q0]? = some (a, .inl (cs 1, n, .inr (.inl f)))) {i : Int32} (hin : vp_in i n) (hdg : decode cc pc = .ok (.laload, 1)) (kk : J p l e R s m args below meth c D A nL cells slots Q w (pc + 1) lv (.long (f i.toNatClampNeg) :: st)) : J p l e R s m args below meth c D A nL cells slots Q w pc lv (.int i :: .ref a :: st) := fun H locs ls hP hD hS hl => va_lald hc.1.1 hc.1.2.1 hc.2.2.2.1 hP q0 1 he rfl hin hdg (kk H locs ls hP hD hS hl)
theorem j_iastore (hc : CX p l e R s m args below meth c D cs sa A cc nL own ret) (q0 : Nat) {a n : Nat} {f : Nat → Int32} (he : w[q0]? = some (a, .inl (cs 0, n, .inl f))) {i : Int32} {x : Int32} (hin : vp_in i n) {w' : va_W} (hw : w.set q0 (a, .inl (cs 0, n, .inl (upd f i.toNatClampNeg x))) = w') (hdg : decode cc pc = .ok (.iastore, 1)) (kk : J p l e R s m args below meth c D A nL cells slots Q w' (pc + 1) lv st) : J p l e R s m args below meth c D A nL cells slots Q w pc lv (.int x :: .int i :: .ref a :: st) := fun H locs ls hP hD hS hl => by
  subst hw
  exact va_iast hc.1.1 hc.1.2.1 hc.2.2.2.1 hP hD hS q0 0 he rfl hin hdg (fun H locs hP hD hS => kk H locs ls hP hD hS hl)
theorem j_lastore (hc : CX p l e R s m args below meth c D cs sa A cc nL own ret) (q0 : Nat) {a n : Nat} {f : Nat → Int64} (he : w[q0]? = some (a, .inl (cs 1, n, .inr (.inl f)))) {i : Int32} {x : Int64} (hin : vp_in i n) {w' : va_W} (hw : w.set q0 (a, .inl (cs 1, n, .inr (.inl (vp_updL f i.toNatClampNeg x)))) = w') (hdg : decode cc pc = .ok (.lastore, 1)) (kk : J p l e R s m args below meth c D A nL cells slots Q w' (pc + 1) lv st) : J p l e R s m args below meth c D A nL cells slots Q w pc lv (.long x :: .int i :: .ref a :: st) := fun H locs ls hP hD hS hl => by
  subst hw
  exact va_last hc.1.1 hc.1.2.1 hc.2.2.2.1 hP hD hS q0 1 he rfl hin hdg (fun H locs hP hD hS => kk H locs ls hP hD hS hl)
theorem j_alen (hc : CX p l e R s m args below meth c D cs sa A cc nL own ret) (q0 t0 : Nat) {a : Nat} {cA : ClassId} {x : vp_A} (he : w[q0]? = some (a, .inl (cA, x))) {ty : FieldType} (ht : (tysW cs)[t0]? = some (cA, ty)) {v : Int32} (hv : Int32.ofNat x.1 = v) (hdg : decode cc pc = .ok (.arraylength, 1)) (kk : J p l e R s m args below meth c D A nL cells slots Q w (pc + 1) lv (.int v :: st)) : J p l e R s m args below meth c D A nL cells slots Q w pc lv (.ref a :: st) := fun H locs ls hP hD hS hl => va_alen hc.1.1 hc.1.2.1 hc.2.2.2.1 hP q0 t0 he ht hv hdg (kk H locs ls hP hD hS hl)
theorem j_aaload (hc : CX p l e R s m args below meth c D cs sa A cc nL own ret) (q0 t0 : Nat) {a n : Nat} {K : String} {cA : ClassId} {f : Nat → Option Nat} (he : w[q0]? = some (a, .inl (cA, n, .inr (.inr (.inr (.inr f)))))) (ht : (tysW cs)[t0]? = some (cA, .object K)) {i : Int32} (hin : vp_in i n) {v : Value} (hv : va_rf (f i.toNatClampNeg) = v) (hdg : decode cc pc = .ok (.aaload, 1)) (kk : J p l e R s m args below meth c D A nL cells slots Q w (pc + 1) lv (v :: st)) : J p l e R s m args below meth c D A nL cells slots Q w pc lv (.int i :: .ref a :: st) := fun H locs ls hP hD hS hl => va_aldq hc.1.1 hc.1.2.1 hc.2.2.2.1 hP q0 t0 he ht hin hdg (hv ▸ kk H locs ls hP hD hS hl)
theorem j_aastore (hc : CX p l e R s m args below meth c D cs sa A cc nL own ret) (q0 t0 qk ci : Nat) {a n v : Nat} {rr : vw_C} {cA : ClassId} {vs : List Value} {f : Nat → Option Nat} (he : w[q0]? = some (a, .inl (cA, n, .inr (.inr (.inr (.inr f)))))) (ht : (tysW cs)[t0]? = some (cA, .object rr.1)) (hv : w[qk]? = some (v, .inr (ci, vs))) (hcl : vwCl[ci]? = some rr) {i : Int32} (hin : vp_in i n) {w' : va_W} (hw : w.set q0 (a, .inl (cA, n, .inr (.inr (.inr (.inr (va_up f i.toNatClampNeg (some v))))))) = w') (hdg : decode cc pc = .ok (.aastore, 1)) (kk : J p l e R s m args below meth c D A nL cells slots Q w' (pc + 1) lv st) : J p l e R s m args below meth c D A nL cells slots Q w pc lv (.ref v :: .int i :: .ref a :: st) := fun H locs ls hP hD hS hl => by
  subst hw
  exact va_astq hc.1.1 hc.1.2.1 hc.2.2.2.1 hP hD hS q0 t0 qk ci he ht hv hcl hin hdg (fun H locs hP hD hS => kk H locs ls hP hD hS hl)
theorem j_end {mc ms : Nat} {w0 : va_W} {r : Rs} {v : Option Value} (hr : r = (none, v, w)) {H : Heap} {locs : List Loc} (hP : va_P D vwCl w H) (hD : va_D A w) (hS : va_S A s.heap H locs) : ∀ t : State, t.heap = H → s.WarmedH t.vm → QC D r A args s (.returned v) t := fun t ht _ => by
  subst hr
  subst ht
  exact ⟨⟨rfl, rfl, hP, hD⟩, hS.F rfl⟩
theorem j_iret (hc : CX p l e R s m args below meth c D cs sa A cc nL own ret) {mc ms : Nat} {w0 : va_W} {r : Rs} {v : Int32} (hret : ret = some .int) (h1 : cells ≤ mc) (h2 : slots ≤ ms) (hr : r = (none, some (.int v), w)) (hdg : decode cc pc = .ok (.ireturn, 1)) : J p l e R s m args below meth c D A nL cells slots (QE below args s D A mc ms w0 r) w pc lv [.int v] := fun H locs ls hP hD hS hl =>
  vx_ret (W.widen h1 h2 (W.iret hc.1.1 hc.1.2.1 (hc.2.1.trans hret) (j_end (mc := mc) (ms := ms) (w0 := w0) hr hP hD hS) hS.2.2 hdg hc.2.2.1))
theorem j_zret (hc : CX p l e R s m args below meth c D cs sa A cc nL own ret) {mc ms : Nat} {w0 : va_W} {r : Rs} {v : Int32} (hret : ret = some .boolean) (hn : narrow .boolean (.int v) = .int v) (h1 : cells ≤ mc) (h2 : slots ≤ ms) (hr : r = (none, some (.int v), w)) (hdg : decode cc pc = .ok (.ireturn, 1)) : J p l e R s m args below meth c D A nL cells slots (QE below args s D A mc ms w0 r) w pc lv [.int v] := fun H locs ls hP hD hS hl =>
  vx_ret (W.widen h1 h2 (W.zret hc.1.1 hc.1.2.1 (hc.2.1.trans hret) hn (j_end (mc := mc) (ms := ms) (w0 := w0) hr hP hD hS) hS.2.2 hdg hc.2.2.1))
theorem j_vret (hc : CX p l e R s m args below meth c D cs sa A cc nL own ret) {mc ms : Nat} {w0 : va_W} {r : Rs} (hret : ret = none) (h1 : cells ≤ mc) (h2 : slots ≤ ms) (hr : r = (none, none, w)) (hdg : decode cc pc = .ok (.return_, 1)) : J p l e R s m args below meth c D A nL cells slots (QE below args s D A mc ms w0 r) w pc lv [] := fun H locs ls hP hD hS hl =>
  vx_ret (W.widen h1 h2 (W.vret hc.1.1 hc.1.2.1 (hc.2.1.trans hret) (j_end (mc := mc) (ms := ms) (w0 := w0) hr hP hD hS) hS.2.2 hdg hc.2.2.1))
theorem j_aret (hc : CX p l e R s m args below meth c D cs sa A cc nL own ret) {mc ms : Nat} {w0 : va_W} {r : Rs} {x : Nat} {n : String} (hret : ret = some (.object n)) (h1 : cells ≤ mc) (h2 : slots ≤ ms) (hr : r = (none, some (.ref x), w)) (hdg : decode cc pc = .ok (.areturn, 1)) : J p l e R s m args below meth c D A nL cells slots (QE below args s D A mc ms w0 r) w pc lv [.ref x] := fun H locs ls hP hD hS hl =>
  vx_ret (W.widen h1 h2 (W.aret hc.1.1 hc.1.2.1 (hc.2.1.trans hret) (Or.inl ⟨_, rfl⟩) (Or.inr ⟨_, rfl⟩) (j_end (mc := mc) (ms := ms) (w0 := w0) hr hP hD hS) hS.2.2 hdg hc.2.2.1))
theorem jx_out (ho : ∀ x ∈ c.exceptionTable.toList, False) (hlk : meth.locks = false) {mc ms : Nat} {w0 : va_W} {r : Rs} {E : String} (h1 : cells ≤ mc) (h2 : slots ≤ ms) (hr : r.1 = some E ∧ w = w0) : JX p l e R s m args below meth c D A nL cells slots (QE below args s D A mc ms w0 r) w pc lv st E := fun H locs ls ce q hP hD hS hl hq hv hcl => by
  obtain ⟨hr, rfl⟩ := hr
  exact vx_out (fun x hx => (ho x hx).elim) hlk hq hv hcl (fun t ht _ => ⟨⟨hr, by rw [PO, ht]; exact ⟨hP, hD⟩⟩, hS.F ht⟩) hS.2.2 h1 h2
/-- what the tables say of a call by invokevirtual, invokestatic, invokespecial of a constructor -/
def VC (own : String) (index : Nat) (K : String) (y : MethodName) (cc : ByteArray) (maxL : Nat) (ret : Option FieldType) (n : Nat) : Prop := Cond.methodLink own index y ∈ WT ∧ Cond.instanceMethod y ∈ WT ∧ Cond.selects K y y ∈ WT ∧ Cond.initialized y.cls ∈ WT ∧ Cond.code y cc maxL ret ∈ WT ∧ y.cls = K ∧ y.cls ≠ "java/lang/invoke/MethodHandle" ∧ y.cls ≠ "java/lang/invoke/VarHandle" ∧ (parseMethodDescriptor y.desc).map (fun d => d.parameters.length) = some n
def SC (own : String) (index : Nat) (y : MethodName) (cc : ByteArray) (maxL : Nat) (ret : Option FieldType) (n : Nat) : Prop := Cond.methodLink own index y ∈ WT ∧ Cond.static y ∈ WT ∧ Cond.initialized y.cls ∈ WT ∧ Cond.code y cc maxL ret ∈ WT ∧ y.cls ≠ "java/lang/invoke/MethodHandle" ∧ y.cls ≠ "java/lang/invoke/VarHandle" ∧ (parseMethodDescriptor y.desc).map (fun d => d.parameters.length) = some n
def IC (own : String) (index : Nat) (y : MethodName) (cc : ByteArray) (maxL : Nat) (n : Nat) : Prop := Cond.methodLink own index y ∈ WT ∧ Cond.instanceMethod y ∈ WT ∧ Cond.initialized y.cls ∈ WT ∧ Cond.code y cc maxL none ∈ WT ∧ y.name = "<init>" ∧ y.cls ≠ "java/lang/invoke/MethodHandle" ∧ y.cls ≠ "java/lang/invoke/VarHandle" ∧ (parseMethodDescriptor y.desc).map (fun d => d.parameters.length) = some n
theorem j_run (hc : CX p l e R s m args below meth c D cs sa A cc nL own ret) {mc ms : Nat} {r : Rs} {a9 : Array Value} {st0 : List Value} {wc : va_W} (hr : ∀ (H : Heap) (locs : List Loc) (ls : Array Slot), va_P D vwCl w H → va_D A w → va_S A s.heap H locs → lv_has ls nL lv → vx_Run p l e R s m args below meth c H locs cells slots mc ms (F0 m pc ls st0) st (QC D r (va_A w H.size) a9) (XQ D w r (va_A w H.size)) (va_A w H.size))
    (kx : ∀ E, r.1 = some E → JX p l e R s m args below meth c D A nL (cells + mc) (slots + ms) Q w pc lv st E) (kk : r.1 = none → J p l e R s m args below meth c D A nL (cells + mc) (slots + ms) Q r.2.2 (pc + 3) lv (r.2.1.toList ++ st)) : J p l e R s m args below meth c D A nL cells slots Q w pc lv st0 := fun H locs ls hP hD hS hl => by
  have hF : ∀ q, va_A w H.size q → A q := fun q h => h.elim (fun ⟨k, e, h⟩ => hD.2 k _ h) (fun h => hc.2.2.2.2.1 q (Nat.le_trans hS.1 h))
  intro T hT X
  rcases hr H locs ls hP hD hS hl T hT X with ⟨v, st₀, t, T', L, h0, X', hL, e1, e2, ⟨⟨hn, hv, hP1, hD1⟩, hF1⟩, st⟩ | ⟨q, st₀, t, T', L, E, ce, h0, X', hL, e1, e2, ⟨⟨hE, hP1, hD1⟩, hF1⟩, hce, hcv, hcl, st⟩
  · cases hv
    obtain ⟨k1, k2, k3⟩ := vx_keep h0 e1 hS (fun q _ h => hF q h) hF hL hF1
    rw [← e1] at hP1
    obtain ⟨t2, a1, b1⟩ := kk hn T'.heap (locs ++ L) ls hP1 (hD1.weaken fun _ q _ h => hF _ h) k3 hl T' rfl X'
    exact ⟨t2, st t2 a1, b1⟩
  · obtain ⟨k1, k2, k3⟩ := vx_keep h0 e1 hS (fun q _ h => hF q h) hF hL hF1
    rw [← e1] at hP1 hce
    obtain ⟨t2, a1, b1⟩ := kx E hE T'.heap (locs ++ L) ls ce q hP1 (hD1.weaken fun _ q _ h => hF _ h) k3 hl hce hcv hcl T' rfl X'
    exact ⟨t2, st.trans a1, b1⟩
theorem j_pre (hc : CX p l e R s m args below meth c D cs sa A cc nL own ret) {av : List Value} {H : Heap} {locs : List Loc} (hP : va_P D vwCl w H) (hD : va_D A w) (hS : va_S A s.heap H locs) : PreS s H (va_Pc av (PR D cs sa w H.size)) av := by
  have hF : ∀ q, va_A w H.size q → A q := fun q h => h.elim (fun ⟨k, e, h⟩ => hD.2 k _ h) (fun h => hc.2.2.2.2.1 q (Nat.le_trans hS.1 h))
  exact ⟨PR.blind, fun U hU hW => ⟨rfl, by rw [hU], by rw [hU]; exact hP, va_K.moved hW.alike hc.2.2.2.1, hD.weaken (fun _ _ _ _ => trivial), ST.call hc.2.2.2.2.2.1 hS hF hU hW⟩⟩
theorem j_callV' (hc : CX p l e R s m args below meth c D cs sa A cc nL own ret) {y : MethodName} {cc2 : ByteArray} {maxL : Nat} {ret2 : Option FieldType} {rm : Room} {mc ms n index : Nat} {As : List Value} {r : Rs} {K : String} {b : Nat} (hM : CM l D cs sa y cc2 maxL ret2 rm mc ms (.ref b :: As) w r) (hv : VC own index K y cc2 maxL ret2 n) (hn : As.length = n) (hrm : rm.cells = mc ∧ rm.slots = ms ∧ rm.frames + 1 ≤ R.frames ∧ 8 + (maxL + 11) + rm.locals ≤ R.locals) (q0 : Nat) {ci : Nat} {fs : List Value} {T : u_T} {N : Nat} (he : w[q0]? = some (b, .inr (ci, fs))) (hcl : vwCl[ci]? = some (K, T, N)) {st0 : List Value} (hst : st0 = As.reverse ++ .ref b :: st) (hroom : (st.map fun v => v.category).sum ≤ 8) (hf : cells + mc ≤ R.cells ∧ slots + ms ≤ R.slots) (hdg : decode cc pc = .ok (.invokevirtual index, 3)) (kx : ∀ E, r.1 = some E → JX p l e R s m args below meth c D A nL (cells + mc) (slots + ms) Q w pc lv st E) (kk : r.1 = none → J p l e R s m args below meth c D A nL (cells + mc) (slots + ms) Q r.2.2 (pc + 3) lv (r.2.1.toList ++ st)) : J p l e R s m args below meth c D A nL cells slots Q w pc lv st0 := by
  obtain ⟨v1, v2, v3, v4, v5, v6, v7, v8, v9⟩ := hv
  refine j_run hc (wc := w) (a9 := (Value.ref b :: As).toArray) (fun H locs ls hP hD hS hl => ?_) kx kk
  obtain ⟨p1, p2⟩ := j_pre hc (av := .ref b :: As) hP hD hS
  exact vx_runV (As := As) (rest := st) (C := K) (Ts := WT) hc.1 (hM H.size) ⟨callB_of n hc.1.2.2.2.2 (wt_gi (ws := .code y cc2 maxL ret2 :: WT) (fun w h => (List.mem_cons.mp h).elim (fun h => h ▸ v5) id)) rfl hrm.1 hrm.2.1 (hc.1.2.2.2.2 _ v4) (hc.1.2.2.2.2 _ v1) ⟨v7, v8, v9⟩ hrm.2.2, hc.1.2.2.2.2 _ v2, hc.1.2.2.2.2 _ v3⟩ ⟨p1, va_recv hc.2.2.2.1 hP hcl he, p2⟩ rfl hn hl.1 hst (lv_room hroom) hdg hf
theorem j_callS' (hc : CX p l e R s m args below meth c D cs sa A cc nL own ret) {y : MethodName} {cc2 : ByteArray} {maxL : Nat} {ret2 : Option FieldType} {rm : Room} {mc ms n index : Nat} {As : List Value} {r : Rs} (hM : CM l D cs sa y cc2 maxL ret2 rm mc ms As w r) (hv : SC own index y cc2 maxL ret2 n) (hn : As.length = n) (hrm : rm.cells = mc ∧ rm.slots = ms ∧ rm.frames + 1 ≤ R.frames ∧ 8 + (maxL + 11) + rm.locals ≤ R.locals) {st0 : List Value} (hst : st0 = As.reverse ++ st) (hroom : (st.map fun v => v.category).sum ≤ 8) (hf : cells + mc ≤ R.cells ∧ slots + ms ≤ R.slots) (hdg : decode cc pc = .ok (.invokestatic index, 3)) (kx : ∀ E, r.1 = some E → JX p l e R s m args below meth c D A nL (cells + mc) (slots + ms) Q w pc lv st E) (kk : r.1 = none → J p l e R s m args below meth c D A nL (cells + mc) (slots + ms) Q r.2.2 (pc + 3) lv (r.2.1.toList ++ st)) : J p l e R s m args below meth c D A nL cells slots Q w pc lv st0 := by
  obtain ⟨v1, v2, v4, v5, v7, v8, v9⟩ := hv
  refine j_run hc (wc := w) (a9 := As.toArray) (fun H locs ls hP hD hS hl => ?_) kx kk
  exact vx_runS (As := As) (rest := st) (Ts := WT) hc.1 (hM H.size) ⟨callB_of n hc.1.2.2.2.2 (wt_gi (ws := .code y cc2 maxL ret2 :: WT) (fun w h => (List.mem_cons.mp h).elim (fun h => h ▸ v5) id)) rfl hrm.1 hrm.2.1 (hc.1.2.2.2.2 _ v4) (hc.1.2.2.2.2 _ v1) ⟨v7, v8, v9⟩ hrm.2.2, hc.1.2.2.2.2 _ v2⟩ (j_pre hc (av := As) hP hD hS) rfl hn hl.1 hst (lv_room hroom) hdg hf
theorem j_callV (hc : CX p l e R s m args below meth c D cs sa A cc nL own ret) {mc0 ms0 : Nat} {w0 : va_W} {r0 : Rs} (ho : ∀ x ∈ c.exceptionTable.toList, False) {y : MethodName} {cc2 : ByteArray} {maxL : Nat} {ret2 : Option FieldType} {rm : Room} {mc ms n index : Nat} {As : List Value} {r : Rs} {K : String} {b : Nat} (hM : CM l D cs sa y cc2 maxL ret2 rm mc ms (.ref b :: As) w r) (hv : VC own index K y cc2 maxL ret2 n) (hn : As.length = n) (hrm : rm.cells = mc ∧ rm.slots = ms ∧ rm.frames + 1 ≤ R.frames ∧ 8 + (maxL + 11) + rm.locals ≤ R.locals) (q0 : Nat) {ci : Nat} {fs : List Value} {T : u_T} {N : Nat} (he : w[q0]? = some (b, .inr (ci, fs))) (hcl : vwCl[ci]? = some (K, T, N)) {st0 : List Value} (hst : st0 = As.reverse ++ .ref b :: st) (hroom : (st.map fun v => v.category).sum ≤ 8) (hf : cells + mc ≤ R.cells ∧ slots + ms ≤ R.slots) (hdg : decode cc pc = .ok (.invokevirtual index, 3)) (hcs : cells + mc ≤ mc0 ∧ slots + ms ≤ ms0) (hx : ∀ E, r.1 = some E → r0.1 = some E ∧ w = w0) (kk : r.1 = none → J p l e R s m args below meth c D A nL (cells + mc) (slots + ms) (QE below args s D A mc0 ms0 w0 r0) r.2.2 (pc + 3) lv (r.2.1.toList ++ st)) : J p l e R s m args below meth c D A nL cells slots (QE below args s D A mc0 ms0 w0 r0) w pc lv st0 :=
  j_callV' hc hM hv hn hrm q0 he hcl hst hroom hf hdg (fun E h => jx_out ho hc.2.2.1 hcs.1 hcs.2 (hx E h)) kk
theorem j_callS (hc : CX p l e R s m args below meth c D cs sa A cc nL own ret) {mc0 ms0 : Nat} {w0 : va_W} {r0 : Rs} (ho : ∀ x ∈ c.exceptionTable.toList, False) {y : MethodName} {cc2 : ByteArray} {maxL : Nat} {ret2 : Option FieldType} {rm : Room} {mc ms n index : Nat} {As : List Value} {r : Rs} (hM : CM l D cs sa y cc2 maxL ret2 rm mc ms As w r) (hv : SC own index y cc2 maxL ret2 n) (hn : As.length = n) (hrm : rm.cells = mc ∧ rm.slots = ms ∧ rm.frames + 1 ≤ R.frames ∧ 8 + (maxL + 11) + rm.locals ≤ R.locals) {st0 : List Value} (hst : st0 = As.reverse ++ st) (hroom : (st.map fun v => v.category).sum ≤ 8) (hf : cells + mc ≤ R.cells ∧ slots + ms ≤ R.slots) (hdg : decode cc pc = .ok (.invokestatic index, 3)) (hcs : cells + mc ≤ mc0 ∧ slots + ms ≤ ms0) (hx : ∀ E, r.1 = some E → r0.1 = some E ∧ w = w0) (kk : r.1 = none → J p l e R s m args below meth c D A nL (cells + mc) (slots + ms) (QE below args s D A mc0 ms0 w0 r0) r.2.2 (pc + 3) lv (r.2.1.toList ++ st)) : J p l e R s m args below meth c D A nL cells slots (QE below args s D A mc0 ms0 w0 r0) w pc lv st0 :=
  j_callS' hc hM hv hn hrm hst hroom hf hdg (fun E h => jx_out ho hc.2.2.1 hcs.1 hcs.2 (hx E h)) kk
end JR
end
section
/-- the class's numbers: its own by their slots (4 to 11), weekdays 12, total 13, counts of gaps 14 to 17; rows: bills' fields 0 to 10 by bill, gaps 20 to 23, codes 30, failures 40 + bill; holidays -/
abbrev ES : Type := (Nat → Int32) × (Nat → Nat → Int32) × (Nat → Int64)
/-- the law's own rows: 0 n, 1 w, 2 g, 3 q, 4 b, 5 c, 6 f, 7 k, 8 e -/
abbrev MS : Type := Nat → Nat → Int32
def up2 (V : Nat → Nat → Int32) (k i : Nat) (v : Int32) : Nat → Nat → Int32 := va_up V k (upd (V k) i v)
def eG (E : ES) (k : Nat) (v : Int32) : ES := (upd E.1 k v, E.2.1, E.2.2)
def eV (E : ES) (k i : Nat) (v : Int32) : ES := (E.1, up2 E.2.1 k i v, E.2.2)
def eH (E : ES) (i : Nat) (v : Int64) : ES := (E.1, E.2.1, vp_updL E.2.2 i v)
def mA (S : MS) (k i : Nat) (v : Int32) : MS := up2 S k i v
def gpf (ad : Nat → Nat) (i : Nat) : Option Nat := if i < 4 then some (ad (4 + 2 * i)) else none
def brf (ad : Nat → Nat) (n i : Nat) : Option Nat := if i < n then some (ad (24 + 2 * i)) else none
abbrev blf (ad : Nat → Nat) (E : ES) (b : Nat) : List Value := [.int (E.2.1 0 b), .int (E.2.1 1 b), .ref (ad (25 + 2 * b)), .int (E.2.1 3 b), .int (E.2.1 4 b), .int (E.2.1 5 b), .int (E.2.1 6 b), .int (E.2.1 7 b), .int (E.2.1 8 b), .int (E.2.1 9 b), .int (E.2.1 10 b)]
abbrev en1 (ad : Nat → Nat) (E : ES) (b : Nat) : Nat × va_E := (ad (24 + 2 * b), .inr (0, blf ad E b))
abbrev en2 (ad : Nat → Nat) (cs : Nat → ClassId) (E : ES) (b : Nat) : Nat × va_E := (ad (25 + 2 * b), .inl (cs 0, 4, .inl (E.2.1 (40 + b))))
def PL (f1 f2 : Nat → Nat × va_E) : Nat → va_W
  | 0 => []
  | b + 1 => PL f1 f2 b ++ [f1 b, f2 b]
def FX (ad : Nat → Nat) (cs : Nat → ClassId) (n : Nat) (E : ES) (S : MS) (o : Nat → Int64) : va_W := [
  (ad 0, .inr (4, [.ref (ad 1), .ref (ad 3), .ref (ad 12), .ref (ad 13), .int (E.1 4), .int (E.1 5), .int (E.1 6), .int (E.1 7), .int (E.1 8), .int (E.1 9), .int (E.1 10), .int (E.1 11)])),
  (ad 1, .inr (1, [.int (E.1 12), .ref (ad 2)])),
  (ad 2, .inl (cs 1, 485, .inr (.inl E.2.2))),
  (ad 3, .inl (cs 4, 4, .inr (.inr (.inr (.inr (gpf ad)))))),
  (ad 4, .inr (3, [.ref (ad 5), .int (E.1 14)])),
  (ad 5, .inl (cs 0, 6, .inl (E.2.1 20))),
  (ad 6, .inr (3, [.ref (ad 7), .int (E.1 15)])),
  (ad 7, .inl (cs 0, 6, .inl (E.2.1 21))),
  (ad 8, .inr (3, [.ref (ad 9), .int (E.1 16)])),
  (ad 9, .inl (cs 0, 6, .inl (E.2.1 22))),
  (ad 10, .inr (3, [.ref (ad 11), .int (E.1 17)])),
  (ad 11, .inl (cs 0, 6, .inl (E.2.1 23))),
  (ad 12, .inl (cs 3, 30, .inr (.inr (.inr (.inr (brf ad n)))))),
  (ad 13, .inr (2, [.ref (ad 14), .int (E.1 13)])),
  (ad 14, .inl (cs 0, 400, .inl (E.2.1 30))),
  (ad 15, .inl (cs 0, 9, .inl (S 0))),
  (ad 16, .inl (cs 0, 64, .inl (S 1))),
  (ad 17, .inl (cs 0, 30, .inl (S 2))),
  (ad 18, .inl (cs 0, 5, .inl (S 3))),
  (ad 19, .inl (cs 0, 36, .inl (S 4))),
  (ad 20, .inl (cs 0, 48, .inl (S 5))),
  (ad 21, .inl (cs 0, 60, .inl (S 6))),
  (ad 22, .inl (cs 0, 36, .inl (S 7))),
  (ad 23, .inl (cs 0, 60, .inl (S 8)))]
/-- THE WORLD: class, reference and the law's own row -/
def WD (ad : Nat → Nat) (cs : Nat → ClassId) (n : Nat) (E : ES) (S : MS) (o : Nat → Int64) : va_W := FX ad cs n E S o ++ PL (en1 ad E) (en2 ad cs E) n
theorem pl_len (f1 f2 : Nat → Nat × va_E) : ∀ n, (PL f1 f2 n).length = 2 * n
  | 0 => rfl
  | n + 1 => by simp [PL, pl_len f1 f2 n]; omega
theorem pl_get1 (f1 f2 : Nat → Nat × va_E) : ∀ (n b : Nat), b < n → (PL f1 f2 n)[2 * b]? = some (f1 b)
  | 0, _, h => absurd h (Nat.not_lt_zero _)
  | n + 1, b, h => by
    unfold PL
    by_cases hb : b < n
    · rw [List.getElem?_append_left (by rw [pl_len]; omega)]; exact pl_get1 f1 f2 n b hb
    · have : b = n := by omega
      subst this
      rw [List.getElem?_append_right (by rw [pl_len]; omega), pl_len, Nat.sub_self]; rfl
theorem pl_get2 (f1 f2 : Nat → Nat × va_E) : ∀ (n b : Nat), b < n → (PL f1 f2 n)[2 * b + 1]? = some (f2 b)
  | 0, _, h => absurd h (Nat.not_lt_zero _)
  | n + 1, b, h => by
    unfold PL
    by_cases hb : b < n
    · rw [List.getElem?_append_left (by rw [pl_len]; omega)]; exact pl_get2 f1 f2 n b hb
    · have : b = n := by omega
      subst this
      rw [List.getElem?_append_right (by rw [pl_len]; omega), pl_len, show 2 * b + 1 - 2 * b = 1 by omega]; rfl
theorem pl_congr {f1 f2 g1 g2 : Nat → Nat × va_E} : ∀ n, (∀ j, j < n → f1 j = g1 j ∧ f2 j = g2 j) → PL f1 f2 n = PL g1 g2 n
  | 0, _ => rfl
  | n + 1, h => by
    unfold PL
    rw [pl_congr n (fun j hj => h j (by omega)), (h n (by omega)).1, (h n (by omega)).2]
theorem pl_set1 (f1 f2 : Nat → Nat × va_E) (x : Nat × va_E) : ∀ (n b : Nat), b < n → (PL f1 f2 n).set (2 * b) x = PL (fun j => if j = b then x else f1 j) f2 n
  | 0, _, h => absurd h (Nat.not_lt_zero _)
  | n + 1, b, h => by
    unfold PL
    by_cases hb : b < n
    · rw [List.set_append_left _ _ (by rw [pl_len]; omega), pl_set1 f1 f2 x n b hb, if_neg (by omega)]
    · have : b = n := by omega
      subst this
      rw [List.set_append_right _ _ (by rw [pl_len]; omega), pl_len, Nat.sub_self, if_pos rfl]
      rw [pl_congr (f1 := f1) (g1 := fun j => if j = b then x else f1 j) (f2 := f2) (g2 := f2) b (fun j hj => ⟨by rw [if_neg (by omega)], rfl⟩)]
      rfl
theorem pl_set2 (f1 f2 : Nat → Nat × va_E) (x : Nat × va_E) : ∀ (n b : Nat), b < n → (PL f1 f2 n).set (2 * b + 1) x = PL f1 (fun j => if j = b then x else f2 j) n
  | 0, _, h => absurd h (Nat.not_lt_zero _)
  | n + 1, b, h => by
    unfold PL
    by_cases hb : b < n
    · rw [List.set_append_left _ _ (by rw [pl_len]; omega), pl_set2 f1 f2 x n b hb, if_neg (by omega)]
    · have : b = n := by omega
      subst this
      rw [List.set_append_right _ _ (by rw [pl_len]; omega), pl_len, show 2 * b + 1 - 2 * b = 1 by omega, if_pos rfl]
      rw [pl_congr (f1 := f1) (g1 := f1) (f2 := f2) (g2 := fun j => if j = b then x else f2 j) b (fun j hj => ⟨rfl, by rw [if_neg (by omega)]⟩)]
      rfl
section WDS
variable {ad : Nat → Nat} {cs : Nat → ClassId} {n : Nat} {E : ES} {S : MS} {o : Nat → Int64}
theorem wd_bill {b : Nat} (h : b < n) : (WD ad cs n E S o)[24 + 2 * b]? = some (en1 ad E b) := by
  unfold WD
  rw [List.getElem?_append_right (by show 24 ≤ _; omega), show 24 + 2 * b - (FX ad cs n E S o).length = 2 * b by show 24 + 2 * b - 24 = _; omega]
  exact pl_get1 _ _ n b h
theorem wd_fail {b : Nat} (h : b < n) : (WD ad cs n E S o)[25 + 2 * b]? = some (en2 ad cs E b) := by
  unfold WD
  rw [List.getElem?_append_right (by show 24 ≤ _; omega), show 25 + 2 * b - (FX ad cs n E S o).length = 2 * b + 1 by show 25 + 2 * b - 24 = _; omega]
  exact pl_get2 _ _ n b h
theorem wd_gap : ∀ {i : Nat}, i < 4 → (WD ad cs n E S o)[4 + 2 * i]? = some (ad (4 + 2 * i), .inr (3, [.ref (ad (5 + 2 * i)), .int (E.1 (14 + i))]))
  | 0, _ => rfl
  | 1, _ => rfl
  | 2, _ => rfl
  | 3, _ => rfl
  | i + 4, h => absurd h (by omega)
theorem wd_gapd : ∀ {i : Nat}, i < 4 → (WD ad cs n E S o)[5 + 2 * i]? = some (ad (5 + 2 * i), .inl (cs 0, 6, .inl (E.2.1 (20 + i))))
  | 0, _ => rfl
  | 1, _ => rfl
  | 2, _ => rfl
  | 3, _ => rfl
  | i + 4, h => absurd h (by omega)
/-- the bills alone have changed -/
theorem wd_set1 {E' : ES} {b : Nat} {x : Nat × va_E} (h : b < n) (hF : FX ad cs n E S o = FX ad cs n E' S o) (h1 : ∀ j, j < n → (if j = b then x else en1 ad E j) = en1 ad E' j) (h2 : ∀ j, j < n → en2 ad cs E j = en2 ad cs E' j) : (WD ad cs n E S o).set (24 + 2 * b) x = WD ad cs n E' S o := by
  unfold WD
  rw [List.set_append_right _ _ (by show 24 ≤ _; omega), show 24 + 2 * b - (FX ad cs n E S o).length = 2 * b by show 24 + 2 * b - 24 = _; omega, pl_set1 _ _ x n b h, hF]
  exact congrArg _ (pl_congr n fun j hj => ⟨h1 j hj, h2 j hj⟩)
theorem wd_set2 {E' : ES} {b : Nat} {x : Nat × va_E} (h : b < n) (hF : FX ad cs n E S o = FX ad cs n E' S o) (h1 : ∀ j, j < n → en1 ad E j = en1 ad E' j) (h2 : ∀ j, j < n → (if j = b then x else en2 ad cs E j) = en2 ad cs E' j) : (WD ad cs n E S o).set (25 + 2 * b) x = WD ad cs n E' S o := by
  unfold WD
  rw [List.set_append_right _ _ (by show 24 ≤ _; omega), show 25 + 2 * b - (FX ad cs n E S o).length = 2 * b + 1 by show 25 + 2 * b - 24 = _; omega, pl_set2 _ _ x n b h, hF]
  exact congrArg _ (pl_congr n fun j hj => ⟨h1 j hj, h2 j hj⟩)
theorem ws_b0 {b : Nat} {v : Int32} (h : b < n) : (WD ad cs n E S o).set (24 + 2 * b) (ad (24 + 2 * b), .inr (0, (blf ad E b).set 0 (.int v))) = WD ad cs n (eV E 0 b v) S o := by
  refine wd_set1 h rfl (fun j _ => ?_) (fun j _ => ?_)
  · by_cases hj : j = b
    · subst hj; simp [en1, blf, eV, up2, va_up, upd]
    · rw [if_neg hj]; simp [en1, blf, eV, up2, va_up, upd, hj]
  · have : ¬ 40 + j = 0 := by omega
    simp [en2, eV, up2, va_up, this]
theorem ws_b1 {b : Nat} {v : Int32} (h : b < n) : (WD ad cs n E S o).set (24 + 2 * b) (ad (24 + 2 * b), .inr (0, (blf ad E b).set 1 (.int v))) = WD ad cs n (eV E 1 b v) S o := by
  refine wd_set1 h rfl (fun j _ => ?_) (fun j _ => ?_)
  · by_cases hj : j = b
    · subst hj; simp [en1, blf, eV, up2, va_up, upd]
    · rw [if_neg hj]; simp [en1, blf, eV, up2, va_up, upd, hj]
  · have : ¬ 40 + j = 1 := by omega
    simp [en2, eV, up2, va_up, this]
theorem ws_b3 {b : Nat} {v : Int32} (h : b < n) : (WD ad cs n E S o).set (24 + 2 * b) (ad (24 + 2 * b), .inr (0, (blf ad E b).set 3 (.int v))) = WD ad cs n (eV E 3 b v) S o := by
  refine wd_set1 h rfl (fun j _ => ?_) (fun j _ => ?_)
  · by_cases hj : j = b
    · subst hj; simp [en1, blf, eV, up2, va_up, upd]
    · rw [if_neg hj]; simp [en1, blf, eV, up2, va_up, upd, hj]
  · have : ¬ 40 + j = 3 := by omega
    simp [en2, eV, up2, va_up, this]
theorem ws_b4 {b : Nat} {v : Int32} (h : b < n) : (WD ad cs n E S o).set (24 + 2 * b) (ad (24 + 2 * b), .inr (0, (blf ad E b).set 4 (.int v))) = WD ad cs n (eV E 4 b v) S o := by
  refine wd_set1 h rfl (fun j _ => ?_) (fun j _ => ?_)
  · by_cases hj : j = b
    · subst hj; simp [en1, blf, eV, up2, va_up, upd]
    · rw [if_neg hj]; simp [en1, blf, eV, up2, va_up, upd, hj]
  · have : ¬ 40 + j = 4 := by omega
    simp [en2, eV, up2, va_up, this]
theorem ws_b5 {b : Nat} {v : Int32} (h : b < n) : (WD ad cs n E S o).set (24 + 2 * b) (ad (24 + 2 * b), .inr (0, (blf ad E b).set 5 (.int v))) = WD ad cs n (eV E 5 b v) S o := by
  refine wd_set1 h rfl (fun j _ => ?_) (fun j _ => ?_)
  · by_cases hj : j = b
    · subst hj; simp [en1, blf, eV, up2, va_up, upd]
    · rw [if_neg hj]; simp [en1, blf, eV, up2, va_up, upd, hj]
  · have : ¬ 40 + j = 5 := by omega
    simp [en2, eV, up2, va_up, this]
theorem ws_b6 {b : Nat} {v : Int32} (h : b < n) : (WD ad cs n E S o).set (24 + 2 * b) (ad (24 + 2 * b), .inr (0, (blf ad E b).set 6 (.int v))) = WD ad cs n (eV E 6 b v) S o := by
  refine wd_set1 h rfl (fun j _ => ?_) (fun j _ => ?_)
  · by_cases hj : j = b
    · subst hj; simp [en1, blf, eV, up2, va_up, upd]
    · rw [if_neg hj]; simp [en1, blf, eV, up2, va_up, upd, hj]
  · have : ¬ 40 + j = 6 := by omega
    simp [en2, eV, up2, va_up, this]
theorem ws_b7 {b : Nat} {v : Int32} (h : b < n) : (WD ad cs n E S o).set (24 + 2 * b) (ad (24 + 2 * b), .inr (0, (blf ad E b).set 7 (.int v))) = WD ad cs n (eV E 7 b v) S o := by
  refine wd_set1 h rfl (fun j _ => ?_) (fun j _ => ?_)
  · by_cases hj : j = b
    · subst hj; simp [en1, blf, eV, up2, va_up, upd]
    · rw [if_neg hj]; simp [en1, blf, eV, up2, va_up, upd, hj]
  · have : ¬ 40 + j = 7 := by omega
    simp [en2, eV, up2, va_up, this]
theorem ws_b8 {b : Nat} {v : Int32} (h : b < n) : (WD ad cs n E S o).set (24 + 2 * b) (ad (24 + 2 * b), .inr (0, (blf ad E b).set 8 (.int v))) = WD ad cs n (eV E 8 b v) S o := by
  refine wd_set1 h rfl (fun j _ => ?_) (fun j _ => ?_)
  · by_cases hj : j = b
    · subst hj; simp [en1, blf, eV, up2, va_up, upd]
    · rw [if_neg hj]; simp [en1, blf, eV, up2, va_up, upd, hj]
  · have : ¬ 40 + j = 8 := by omega
    simp [en2, eV, up2, va_up, this]
theorem ws_b9 {b : Nat} {v : Int32} (h : b < n) : (WD ad cs n E S o).set (24 + 2 * b) (ad (24 + 2 * b), .inr (0, (blf ad E b).set 9 (.int v))) = WD ad cs n (eV E 9 b v) S o := by
  refine wd_set1 h rfl (fun j _ => ?_) (fun j _ => ?_)
  · by_cases hj : j = b
    · subst hj; simp [en1, blf, eV, up2, va_up, upd]
    · rw [if_neg hj]; simp [en1, blf, eV, up2, va_up, upd, hj]
  · have : ¬ 40 + j = 9 := by omega
    simp [en2, eV, up2, va_up, this]
theorem ws_b10 {b : Nat} {v : Int32} (h : b < n) : (WD ad cs n E S o).set (24 + 2 * b) (ad (24 + 2 * b), .inr (0, (blf ad E b).set 10 (.int v))) = WD ad cs n (eV E 10 b v) S o := by
  refine wd_set1 h rfl (fun j _ => ?_) (fun j _ => ?_)
  · by_cases hj : j = b
    · subst hj; simp [en1, blf, eV, up2, va_up, upd]
    · rw [if_neg hj]; simp [en1, blf, eV, up2, va_up, upd, hj]
  · have : ¬ 40 + j = 10 := by omega
    simp [en2, eV, up2, va_up, this]
theorem ws_f {b i : Nat} {v : Int32} (h : b < n) : (WD ad cs n E S o).set (25 + 2 * b) (ad (25 + 2 * b), .inl (cs 0, 4, .inl (upd (E.2.1 (40 + b)) i v))) = WD ad cs n (eV E (40 + b) i v) S o := by
  have q : ∀ k, k < 40 → ¬ k = 40 + b := fun k hk => by omega
  refine wd_set2 h ?_ (fun j _ => ?_) (fun j _ => ?_)
  · simp [FX, eV, up2, va_up, q]
  · simp [en1, blf, eV, up2, va_up, q]
  · by_cases hj : j = b
    · subst hj; simp [en2, eV, up2, va_up]
    · have : ¬ 40 + j = 40 + b := by omega
      rw [if_neg hj]; simp [en2, eV, up2, va_up, hj]
theorem ws_gc : ∀ {i : Nat} {v : Int32}, i < 4 → (WD ad cs n E S o).set (4 + 2 * i) (ad (4 + 2 * i), .inr (3, ([.ref (ad (5 + 2 * i)), .int (E.1 (14 + i))] : List Value).set 1 (.int v))) = WD ad cs n (eG E (14 + i) v) S o
  | 0, _, _ => rfl
  | 1, _, _ => rfl
  | 2, _, _ => rfl
  | 3, _, _ => rfl
  | i + 4, _, h => absurd h (by omega)
theorem ws_gd : ∀ {i j : Nat} {v : Int32}, i < 4 → (WD ad cs n E S o).set (5 + 2 * i) (ad (5 + 2 * i), .inl (cs 0, 6, .inl (upd (E.2.1 (20 + i)) j v))) = WD ad cs n (eV E (20 + i) j v) S o := by
  intro i j v hi
  have e2 : PL (en1 ad E) (en2 ad cs E) n = PL (en1 ad (eV E (20 + i) j v)) (en2 ad cs (eV E (20 + i) j v)) n := by
    refine pl_congr n fun b _ => ⟨?_, ?_⟩
    · have q : ∀ k, k < 20 → ¬ k = 20 + i := fun k hk => by omega
      simp [en1, blf, eV, up2, va_up, q]
    · have : ¬ 40 + b = 20 + i := by omega
      simp [en2, eV, up2, va_up, this]
  unfold WD
  rw [← e2]
  match i, hi with
  | 0, _ => rfl
  | 1, _ => rfl
  | 2, _ => rfl
  | 3, _ => rfl
  | i + 4, h => exact absurd h (by omega)
theorem ws_cd {j : Nat} {v : Int32} : (WD ad cs n E S o).set 14 (ad 14, .inl (cs 0, 400, .inl (upd (E.2.1 30) j v))) = WD ad cs n (eV E 30 j v) S o := by
  have e2 : PL (en1 ad E) (en2 ad cs E) n = PL (en1 ad (eV E 30 j v)) (en2 ad cs (eV E 30 j v)) n := by
    refine pl_congr n fun b _ => ⟨?_, ?_⟩
    · simp [en1, blf, eV, up2, va_up]
    · have : ¬ 40 + b = 30 := by omega
      simp [en2, eV, up2, va_up, this]
  unfold WD
  rw [← e2]
  rfl
end WDS
theorem uw0 : ∀ w ∈ u_ws RX0 TX0 11, w ∈ WT := by decide +kernel
theorem uw1 : ∀ w ∈ u_ws RX1 TX1 2, w ∈ WT := by decide +kernel
theorem uw2 : ∀ w ∈ u_ws RX2 TX2 2, w ∈ WT := by decide +kernel
theorem uw3 : ∀ w ∈ u_ws RX3 TX3 2, w ∈ WT := by decide +kernel
theorem uw4 : ∀ w ∈ u_ws RX4 TX4 12, w ∈ WT := by decide +kernel
section GP
variable {p : Program} {l : Launch} {e : Env} {R : Room} {s : State} {m : MethodId} {args : Array Value} {below : List Frame} {meth : Method} {c : Code} {D : va_G} {cs : Nat → ClassId} {sa : Nat → Nat} {A : Nat → Prop} {cc : ByteArray} {nL : Nat} {ret : Option FieldType} {cells slots : Nat} {Q : State → Prop} {pc : Nat} {lv : List (Nat × Value)} {st : List Value} {ad : Nat → Nat} {n : Nat} {E : ES} {S : MS} {o : Nat → Int64}
theorem gf_X1_9 (hc : CX p l e R s m args below meth c D cs sa A cc nL RX1 ret) (hdg : decode cc pc = .ok (.getfield 9, 3)) (kk : J p l e R s m args below meth c D A nL cells slots Q (WD ad cs n E S o) (pc + 3) lv (.int (E.1 12) :: st)) : J p l e R s m args below meth c D A nL cells slots Q (WD ad cs n E S o) pc lv (.ref (ad 1) :: st) := j_getf hc (K := RX1) (T := TX1) (N := 2) uw1 1 rfl rfl 0 (by decide) wt_28 rfl rfl hdg kk
theorem pf_X1_9 (hc : CX p l e R s m args below meth c D cs sa A cc nL RX1 ret) {v : Int32} (hdg : decode cc pc = .ok (.putfield 9, 3)) (kk : J p l e R s m args below meth c D A nL cells slots Q (WD ad cs n (eG E 12 v) S o) (pc + 3) lv st) : J p l e R s m args below meth c D A nL cells slots Q (WD ad cs n E S o) pc lv (.int v :: .ref (ad 1) :: st) := j_putf hc (w' := WD ad cs n (eG E 12 v) S o) (K := RX1) (T := TX1) (N := 2) uw1 tyX1 tyX1_ok nmX1 1 rfl rfl 0 (by decide) wt_28 rfl (Or.inl rfl) (ty := .int) rfl rfl rfl (Nat.le_of_ble_eq_true rfl) rfl hdg kk
theorem gf_X4_74 (hc : CX p l e R s m args below meth c D cs sa A cc nL RX4 ret) (hdg : decode cc pc = .ok (.getfield 74, 3)) (kk : J p l e R s m args below meth c D A nL cells slots Q (WD ad cs n E S o) (pc + 3) lv (.int (E.1 12) :: st)) : J p l e R s m args below meth c D A nL cells slots Q (WD ad cs n E S o) pc lv (.ref (ad 1) :: st) := j_getf hc (K := RX1) (T := TX1) (N := 2) uw1 1 rfl rfl 0 (by decide) wt_29 rfl rfl hdg kk
theorem pf_X4_74 (hc : CX p l e R s m args below meth c D cs sa A cc nL RX4 ret) {v : Int32} (hdg : decode cc pc = .ok (.putfield 74, 3)) (kk : J p l e R s m args below meth c D A nL cells slots Q (WD ad cs n (eG E 12 v) S o) (pc + 3) lv st) : J p l e R s m args below meth c D A nL cells slots Q (WD ad cs n E S o) pc lv (.int v :: .ref (ad 1) :: st) := j_putf hc (w' := WD ad cs n (eG E 12 v) S o) (K := RX1) (T := TX1) (N := 2) uw1 tyX1 tyX1_ok nmX1 1 rfl rfl 0 (by decide) wt_29 rfl (Or.inl rfl) (ty := .int) rfl rfl rfl (Nat.le_of_ble_eq_true rfl) rfl hdg kk
theorem gf_X1_13 (hc : CX p l e R s m args below meth c D cs sa A cc nL RX1 ret) (hdg : decode cc pc = .ok (.getfield 13, 3)) (kk : J p l e R s m args below meth c D A nL cells slots Q (WD ad cs n E S o) (pc + 3) lv (.ref (ad 2) :: st)) : J p l e R s m args below meth c D A nL cells slots Q (WD ad cs n E S o) pc lv (.ref (ad 1) :: st) := j_getf hc (K := RX1) (T := TX1) (N := 2) uw1 1 rfl rfl 1 (by decide) wt_30 rfl rfl hdg kk
theorem gf_X3_9 (hc : CX p l e R s m args below meth c D cs sa A cc nL RX3 ret) {i : Nat} (hi : i < 4) (hdg : decode cc pc = .ok (.getfield 9, 3)) (kk : J p l e R s m args below meth c D A nL cells slots Q (WD ad cs n E S o) (pc + 3) lv (.ref (ad (5 + 2 * i)) :: st)) : J p l e R s m args below meth c D A nL cells slots Q (WD ad cs n E S o) pc lv (.ref (ad (4 + 2 * i)) :: st) := j_getf hc (K := RX3) (T := TX3) (N := 2) uw3 (4 + 2 * i) (wd_gap hi) rfl 0 (by decide) wt_46 rfl rfl hdg kk
theorem gf_X3_15 (hc : CX p l e R s m args below meth c D cs sa A cc nL RX3 ret) {i : Nat} (hi : i < 4) (hdg : decode cc pc = .ok (.getfield 15, 3)) (kk : J p l e R s m args below meth c D A nL cells slots Q (WD ad cs n E S o) (pc + 3) lv (.int (E.1 (14 + i)) :: st)) : J p l e R s m args below meth c D A nL cells slots Q (WD ad cs n E S o) pc lv (.ref (ad (4 + 2 * i)) :: st) := j_getf hc (K := RX3) (T := TX3) (N := 2) uw3 (4 + 2 * i) (wd_gap hi) rfl 1 (by decide) wt_47 rfl rfl hdg kk
theorem pf_X3_15 (hc : CX p l e R s m args below meth c D cs sa A cc nL RX3 ret) {i : Nat} (hi : i < 4) {v : Int32} (hdg : decode cc pc = .ok (.putfield 15, 3)) (kk : J p l e R s m args below meth c D A nL cells slots Q (WD ad cs n (eG E (14 + i) v) S o) (pc + 3) lv st) : J p l e R s m args below meth c D A nL cells slots Q (WD ad cs n E S o) pc lv (.int v :: .ref (ad (4 + 2 * i)) :: st) := j_putf hc (w' := WD ad cs n (eG E (14 + i) v) S o) (K := RX3) (T := TX3) (N := 2) uw3 tyX3 tyX3_ok nmX3 (4 + 2 * i) (wd_gap hi) rfl 1 (by decide) wt_47 rfl (Or.inl rfl) (ty := .int) rfl rfl rfl (Nat.le_of_ble_eq_true rfl) (ws_gc hi) hdg kk
theorem gf_X4_101 (hc : CX p l e R s m args below meth c D cs sa A cc nL RX4 ret) {i : Nat} (hi : i < 4) (hdg : decode cc pc = .ok (.getfield 101, 3)) (kk : J p l e R s m args below meth c D A nL cells slots Q (WD ad cs n E S o) (pc + 3) lv (.int (E.1 (14 + i)) :: st)) : J p l e R s m args below meth c D A nL cells slots Q (WD ad cs n E S o) pc lv (.ref (ad (4 + 2 * i)) :: st) := j_getf hc (K := RX3) (T := TX3) (N := 2) uw3 (4 + 2 * i) (wd_gap hi) rfl 1 (by decide) wt_48 rfl rfl hdg kk
theorem pf_X4_101 (hc : CX p l e R s m args below meth c D cs sa A cc nL RX4 ret) {i : Nat} (hi : i < 4) {v : Int32} (hdg : decode cc pc = .ok (.putfield 101, 3)) (kk : J p l e R s m args below meth c D A nL cells slots Q (WD ad cs n (eG E (14 + i) v) S o) (pc + 3) lv st) : J p l e R s m args below meth c D A nL cells slots Q (WD ad cs n E S o) pc lv (.int v :: .ref (ad (4 + 2 * i)) :: st) := j_putf hc (w' := WD ad cs n (eG E (14 + i) v) S o) (K := RX3) (T := TX3) (N := 2) uw3 tyX3 tyX3_ok nmX3 (4 + 2 * i) (wd_gap hi) rfl 1 (by decide) wt_48 rfl (Or.inl rfl) (ty := .int) rfl rfl rfl (Nat.le_of_ble_eq_true rfl) (ws_gc hi) hdg kk
theorem gf_X2_9 (hc : CX p l e R s m args below meth c D cs sa A cc nL RX2 ret) (hdg : decode cc pc = .ok (.getfield 9, 3)) (kk : J p l e R s m args below meth c D A nL cells slots Q (WD ad cs n E S o) (pc + 3) lv (.ref (ad 14) :: st)) : J p l e R s m args below meth c D A nL cells slots Q (WD ad cs n E S o) pc lv (.ref (ad 13) :: st) := j_getf hc (K := RX2) (T := TX2) (N := 2) uw2 13 rfl rfl 0 (by decide) wt_69 rfl rfl hdg kk
theorem gf_X2_15 (hc : CX p l e R s m args below meth c D cs sa A cc nL RX2 ret) (hdg : decode cc pc = .ok (.getfield 15, 3)) (kk : J p l e R s m args below meth c D A nL cells slots Q (WD ad cs n E S o) (pc + 3) lv (.int (E.1 13) :: st)) : J p l e R s m args below meth c D A nL cells slots Q (WD ad cs n E S o) pc lv (.ref (ad 13) :: st) := j_getf hc (K := RX2) (T := TX2) (N := 2) uw2 13 rfl rfl 1 (by decide) wt_70 rfl rfl hdg kk
theorem pf_X2_15 (hc : CX p l e R s m args below meth c D cs sa A cc nL RX2 ret) {v : Int32} (hdg : decode cc pc = .ok (.putfield 15, 3)) (kk : J p l e R s m args below meth c D A nL cells slots Q (WD ad cs n (eG E 13 v) S o) (pc + 3) lv st) : J p l e R s m args below meth c D A nL cells slots Q (WD ad cs n E S o) pc lv (.int v :: .ref (ad 13) :: st) := j_putf hc (w' := WD ad cs n (eG E 13 v) S o) (K := RX2) (T := TX2) (N := 2) uw2 tyX2 tyX2_ok nmX2 13 rfl rfl 1 (by decide) wt_70 rfl (Or.inl rfl) (ty := .int) rfl rfl rfl (Nat.le_of_ble_eq_true rfl) rfl hdg kk
theorem gf_X4_206 (hc : CX p l e R s m args below meth c D cs sa A cc nL RX4 ret) (hdg : decode cc pc = .ok (.getfield 206, 3)) (kk : J p l e R s m args below meth c D A nL cells slots Q (WD ad cs n E S o) (pc + 3) lv (.int (E.1 13) :: st)) : J p l e R s m args below meth c D A nL cells slots Q (WD ad cs n E S o) pc lv (.ref (ad 13) :: st) := j_getf hc (K := RX2) (T := TX2) (N := 2) uw2 13 rfl rfl 1 (by decide) wt_71 rfl rfl hdg kk
theorem pf_X4_206 (hc : CX p l e R s m args below meth c D cs sa A cc nL RX4 ret) {v : Int32} (hdg : decode cc pc = .ok (.putfield 206, 3)) (kk : J p l e R s m args below meth c D A nL cells slots Q (WD ad cs n (eG E 13 v) S o) (pc + 3) lv st) : J p l e R s m args below meth c D A nL cells slots Q (WD ad cs n E S o) pc lv (.int v :: .ref (ad 13) :: st) := j_putf hc (w' := WD ad cs n (eG E 13 v) S o) (K := RX2) (T := TX2) (N := 2) uw2 tyX2 tyX2_ok nmX2 13 rfl rfl 1 (by decide) wt_71 rfl (Or.inl rfl) (ty := .int) rfl rfl rfl (Nat.le_of_ble_eq_true rfl) rfl hdg kk
theorem gf_X4_10 (hc : CX p l e R s m args below meth c D cs sa A cc nL RX4 ret) (hdg : decode cc pc = .ok (.getfield 10, 3)) (kk : J p l e R s m args below meth c D A nL cells slots Q (WD ad cs n E S o) (pc + 3) lv (.ref (ad 1) :: st)) : J p l e R s m args below meth c D A nL cells slots Q (WD ad cs n E S o) pc lv (.ref (ad 0) :: st) := j_getf hc (K := RX4) (T := TX4) (N := 12) uw4 0 rfl rfl 0 (by decide) wt_77 rfl rfl hdg kk
theorem gf_X4_34 (hc : CX p l e R s m args below meth c D cs sa A cc nL RX4 ret) (hdg : decode cc pc = .ok (.getfield 34, 3)) (kk : J p l e R s m args below meth c D A nL cells slots Q (WD ad cs n E S o) (pc + 3) lv (.ref (ad 3) :: st)) : J p l e R s m args below meth c D A nL cells slots Q (WD ad cs n E S o) pc lv (.ref (ad 0) :: st) := j_getf hc (K := RX4) (T := TX4) (N := 12) uw4 0 rfl rfl 1 (by decide) wt_78 rfl rfl hdg kk
theorem gf_X4_40 (hc : CX p l e R s m args below meth c D cs sa A cc nL RX4 ret) (hdg : decode cc pc = .ok (.getfield 40, 3)) (kk : J p l e R s m args below meth c D A nL cells slots Q (WD ad cs n E S o) (pc + 3) lv (.ref (ad 12) :: st)) : J p l e R s m args below meth c D A nL cells slots Q (WD ad cs n E S o) pc lv (.ref (ad 0) :: st) := j_getf hc (K := RX4) (T := TX4) (N := 12) uw4 0 rfl rfl 2 (by decide) wt_79 rfl rfl hdg kk
theorem gf_X4_47 (hc : CX p l e R s m args below meth c D cs sa A cc nL RX4 ret) (hdg : decode cc pc = .ok (.getfield 47, 3)) (kk : J p l e R s m args below meth c D A nL cells slots Q (WD ad cs n E S o) (pc + 3) lv (.ref (ad 13) :: st)) : J p l e R s m args below meth c D A nL cells slots Q (WD ad cs n E S o) pc lv (.ref (ad 0) :: st) := j_getf hc (K := RX4) (T := TX4) (N := 12) uw4 0 rfl rfl 3 (by decide) wt_80 rfl rfl hdg kk
theorem gf_X4_112 (hc : CX p l e R s m args below meth c D cs sa A cc nL RX4 ret) (hdg : decode cc pc = .ok (.getfield 112, 3)) (kk : J p l e R s m args below meth c D A nL cells slots Q (WD ad cs n E S o) (pc + 3) lv (.int (E.1 4) :: st)) : J p l e R s m args below meth c D A nL cells slots Q (WD ad cs n E S o) pc lv (.ref (ad 0) :: st) := j_getf hc (K := RX4) (T := TX4) (N := 12) uw4 0 rfl rfl 4 (by decide) wt_81 rfl rfl hdg kk
theorem pf_X4_112 (hc : CX p l e R s m args below meth c D cs sa A cc nL RX4 ret) {v : Int32} (hdg : decode cc pc = .ok (.putfield 112, 3)) (kk : J p l e R s m args below meth c D A nL cells slots Q (WD ad cs n (eG E 4 v) S o) (pc + 3) lv st) : J p l e R s m args below meth c D A nL cells slots Q (WD ad cs n E S o) pc lv (.int v :: .ref (ad 0) :: st) := j_putf hc (w' := WD ad cs n (eG E 4 v) S o) (K := RX4) (T := TX4) (N := 12) uw4 tyX4 tyX4_ok nmX4 0 rfl rfl 4 (by decide) wt_81 rfl (Or.inl rfl) (ty := .int) rfl rfl rfl (Nat.le_of_ble_eq_true rfl) rfl hdg kk
theorem gf_X4_83 (hc : CX p l e R s m args below meth c D cs sa A cc nL RX4 ret) (hdg : decode cc pc = .ok (.getfield 83, 3)) (kk : J p l e R s m args below meth c D A nL cells slots Q (WD ad cs n E S o) (pc + 3) lv (.int (E.1 5) :: st)) : J p l e R s m args below meth c D A nL cells slots Q (WD ad cs n E S o) pc lv (.ref (ad 0) :: st) := j_getf hc (K := RX4) (T := TX4) (N := 12) uw4 0 rfl rfl 5 (by decide) wt_82 rfl rfl hdg kk
theorem pf_X4_83 (hc : CX p l e R s m args below meth c D cs sa A cc nL RX4 ret) {v : Int32} (hdg : decode cc pc = .ok (.putfield 83, 3)) (kk : J p l e R s m args below meth c D A nL cells slots Q (WD ad cs n (eG E 5 v) S o) (pc + 3) lv st) : J p l e R s m args below meth c D A nL cells slots Q (WD ad cs n E S o) pc lv (.int v :: .ref (ad 0) :: st) := j_putf hc (w' := WD ad cs n (eG E 5 v) S o) (K := RX4) (T := TX4) (N := 12) uw4 tyX4 tyX4_ok nmX4 0 rfl rfl 5 (by decide) wt_82 rfl (Or.inl rfl) (ty := .int) rfl rfl rfl (Nat.le_of_ble_eq_true rfl) rfl hdg kk
theorem gf_X4_51 (hc : CX p l e R s m args below meth c D cs sa A cc nL RX4 ret) (hdg : decode cc pc = .ok (.getfield 51, 3)) (kk : J p l e R s m args below meth c D A nL cells slots Q (WD ad cs n E S o) (pc + 3) lv (.int (E.1 6) :: st)) : J p l e R s m args below meth c D A nL cells slots Q (WD ad cs n E S o) pc lv (.ref (ad 0) :: st) := j_getf hc (K := RX4) (T := TX4) (N := 12) uw4 0 rfl rfl 6 (by decide) wt_83 rfl rfl hdg kk
theorem pf_X4_51 (hc : CX p l e R s m args below meth c D cs sa A cc nL RX4 ret) {v : Int32} (hdg : decode cc pc = .ok (.putfield 51, 3)) (kk : J p l e R s m args below meth c D A nL cells slots Q (WD ad cs n (eG E 6 v) S o) (pc + 3) lv st) : J p l e R s m args below meth c D A nL cells slots Q (WD ad cs n E S o) pc lv (.int v :: .ref (ad 0) :: st) := j_putf hc (w' := WD ad cs n (eG E 6 v) S o) (K := RX4) (T := TX4) (N := 12) uw4 tyX4 tyX4_ok nmX4 0 rfl rfl 6 (by decide) wt_83 rfl (Or.inl rfl) (ty := .int) rfl rfl rfl (Nat.le_of_ble_eq_true rfl) rfl hdg kk
theorem gf_X4_55 (hc : CX p l e R s m args below meth c D cs sa A cc nL RX4 ret) (hdg : decode cc pc = .ok (.getfield 55, 3)) (kk : J p l e R s m args below meth c D A nL cells slots Q (WD ad cs n E S o) (pc + 3) lv (.int (E.1 7) :: st)) : J p l e R s m args below meth c D A nL cells slots Q (WD ad cs n E S o) pc lv (.ref (ad 0) :: st) := j_getf hc (K := RX4) (T := TX4) (N := 12) uw4 0 rfl rfl 7 (by decide) wt_84 rfl rfl hdg kk
theorem pf_X4_55 (hc : CX p l e R s m args below meth c D cs sa A cc nL RX4 ret) {v : Int32} (hdg : decode cc pc = .ok (.putfield 55, 3)) (kk : J p l e R s m args below meth c D A nL cells slots Q (WD ad cs n (eG E 7 v) S o) (pc + 3) lv st) : J p l e R s m args below meth c D A nL cells slots Q (WD ad cs n E S o) pc lv (.int v :: .ref (ad 0) :: st) := j_putf hc (w' := WD ad cs n (eG E 7 v) S o) (K := RX4) (T := TX4) (N := 12) uw4 tyX4 tyX4_ok nmX4 0 rfl rfl 7 (by decide) wt_84 rfl (Or.inl rfl) (ty := .int) rfl rfl rfl (Nat.le_of_ble_eq_true rfl) rfl hdg kk
theorem gf_X4_119 (hc : CX p l e R s m args below meth c D cs sa A cc nL RX4 ret) (hdg : decode cc pc = .ok (.getfield 119, 3)) (kk : J p l e R s m args below meth c D A nL cells slots Q (WD ad cs n E S o) (pc + 3) lv (.int (E.1 8) :: st)) : J p l e R s m args below meth c D A nL cells slots Q (WD ad cs n E S o) pc lv (.ref (ad 0) :: st) := j_getf hc (K := RX4) (T := TX4) (N := 12) uw4 0 rfl rfl 8 (by decide) wt_85 rfl rfl hdg kk
theorem pf_X4_119 (hc : CX p l e R s m args below meth c D cs sa A cc nL RX4 ret) {v : Int32} (hdg : decode cc pc = .ok (.putfield 119, 3)) (kk : J p l e R s m args below meth c D A nL cells slots Q (WD ad cs n (eG E 8 v) S o) (pc + 3) lv st) : J p l e R s m args below meth c D A nL cells slots Q (WD ad cs n E S o) pc lv (.int v :: .ref (ad 0) :: st) := j_putf hc (w' := WD ad cs n (eG E 8 v) S o) (K := RX4) (T := TX4) (N := 12) uw4 tyX4 tyX4_ok nmX4 0 rfl rfl 8 (by decide) wt_85 rfl (Or.inl rfl) (ty := .int) rfl rfl rfl (Nat.le_of_ble_eq_true rfl) rfl hdg kk
theorem gf_X4_197 (hc : CX p l e R s m args below meth c D cs sa A cc nL RX4 ret) (hdg : decode cc pc = .ok (.getfield 197, 3)) (kk : J p l e R s m args below meth c D A nL cells slots Q (WD ad cs n E S o) (pc + 3) lv (.int (E.1 9) :: st)) : J p l e R s m args below meth c D A nL cells slots Q (WD ad cs n E S o) pc lv (.ref (ad 0) :: st) := j_getf hc (K := RX4) (T := TX4) (N := 12) uw4 0 rfl rfl 9 (by decide) wt_86 rfl rfl hdg kk
theorem pf_X4_197 (hc : CX p l e R s m args below meth c D cs sa A cc nL RX4 ret) {v : Int32} (hdg : decode cc pc = .ok (.putfield 197, 3)) (kk : J p l e R s m args below meth c D A nL cells slots Q (WD ad cs n (eG E 9 v) S o) (pc + 3) lv st) : J p l e R s m args below meth c D A nL cells slots Q (WD ad cs n E S o) pc lv (.int v :: .ref (ad 0) :: st) := j_putf hc (w' := WD ad cs n (eG E 9 v) S o) (K := RX4) (T := TX4) (N := 12) uw4 tyX4 tyX4_ok nmX4 0 rfl rfl 9 (by decide) wt_86 rfl (Or.inl rfl) (ty := .int) rfl rfl rfl (Nat.le_of_ble_eq_true rfl) rfl hdg kk
theorem gf_X4_200 (hc : CX p l e R s m args below meth c D cs sa A cc nL RX4 ret) (hdg : decode cc pc = .ok (.getfield 200, 3)) (kk : J p l e R s m args below meth c D A nL cells slots Q (WD ad cs n E S o) (pc + 3) lv (.int (E.1 10) :: st)) : J p l e R s m args below meth c D A nL cells slots Q (WD ad cs n E S o) pc lv (.ref (ad 0) :: st) := j_getf hc (K := RX4) (T := TX4) (N := 12) uw4 0 rfl rfl 10 (by decide) wt_87 rfl rfl hdg kk
theorem pf_X4_200 (hc : CX p l e R s m args below meth c D cs sa A cc nL RX4 ret) {v : Int32} (hdg : decode cc pc = .ok (.putfield 200, 3)) (kk : J p l e R s m args below meth c D A nL cells slots Q (WD ad cs n (eG E 10 v) S o) (pc + 3) lv st) : J p l e R s m args below meth c D A nL cells slots Q (WD ad cs n E S o) pc lv (.int v :: .ref (ad 0) :: st) := j_putf hc (w' := WD ad cs n (eG E 10 v) S o) (K := RX4) (T := TX4) (N := 12) uw4 tyX4 tyX4_ok nmX4 0 rfl rfl 10 (by decide) wt_87 rfl (Or.inl rfl) (ty := .int) rfl rfl rfl (Nat.le_of_ble_eq_true rfl) rfl hdg kk
theorem gf_X4_203 (hc : CX p l e R s m args below meth c D cs sa A cc nL RX4 ret) (hdg : decode cc pc = .ok (.getfield 203, 3)) (kk : J p l e R s m args below meth c D A nL cells slots Q (WD ad cs n E S o) (pc + 3) lv (.int (E.1 11) :: st)) : J p l e R s m args below meth c D A nL cells slots Q (WD ad cs n E S o) pc lv (.ref (ad 0) :: st) := j_getf hc (K := RX4) (T := TX4) (N := 12) uw4 0 rfl rfl 11 (by decide) wt_88 rfl rfl hdg kk
theorem pf_X4_203 (hc : CX p l e R s m args below meth c D cs sa A cc nL RX4 ret) {v : Int32} (hdg : decode cc pc = .ok (.putfield 203, 3)) (kk : J p l e R s m args below meth c D A nL cells slots Q (WD ad cs n (eG E 11 v) S o) (pc + 3) lv st) : J p l e R s m args below meth c D A nL cells slots Q (WD ad cs n E S o) pc lv (.int v :: .ref (ad 0) :: st) := j_putf hc (w' := WD ad cs n (eG E 11 v) S o) (K := RX4) (T := TX4) (N := 12) uw4 tyX4 tyX4_ok nmX4 0 rfl rfl 11 (by decide) wt_88 rfl (Or.inl rfl) (ty := .int) rfl rfl rfl (Nat.le_of_ble_eq_true rfl) rfl hdg kk
theorem gf_X4_231 (hc : CX p l e R s m args below meth c D cs sa A cc nL RX4 ret) {b : Nat} (hb : b < n) (hdg : decode cc pc = .ok (.getfield 231, 3)) (kk : J p l e R s m args below meth c D A nL cells slots Q (WD ad cs n E S o) (pc + 3) lv (.int (E.2.1 0 b) :: st)) : J p l e R s m args below meth c D A nL cells slots Q (WD ad cs n E S o) pc lv (.ref (ad (24 + 2 * b)) :: st) := j_getf hc (K := RX0) (T := TX0) (N := 11) uw0 (24 + 2 * b) (wd_bill hb) rfl 0 (by decide) wt_254 rfl rfl hdg kk
theorem gf_X4_184 (hc : CX p l e R s m args below meth c D cs sa A cc nL RX4 ret) {b : Nat} (hb : b < n) (hdg : decode cc pc = .ok (.getfield 184, 3)) (kk : J p l e R s m args below meth c D A nL cells slots Q (WD ad cs n E S o) (pc + 3) lv (.int (E.2.1 1 b) :: st)) : J p l e R s m args below meth c D A nL cells slots Q (WD ad cs n E S o) pc lv (.ref (ad (24 + 2 * b)) :: st) := j_getf hc (K := RX0) (T := TX0) (N := 11) uw0 (24 + 2 * b) (wd_bill hb) rfl 1 (by decide) wt_256 rfl rfl hdg kk
theorem gf_X4_178 (hc : CX p l e R s m args below meth c D cs sa A cc nL RX4 ret) {b : Nat} (hb : b < n) (hdg : decode cc pc = .ok (.getfield 178, 3)) (kk : J p l e R s m args below meth c D A nL cells slots Q (WD ad cs n E S o) (pc + 3) lv (.ref (ad (25 + 2 * b)) :: st)) : J p l e R s m args below meth c D A nL cells slots Q (WD ad cs n E S o) pc lv (.ref (ad (24 + 2 * b)) :: st) := j_getf hc (K := RX0) (T := TX0) (N := 11) uw0 (24 + 2 * b) (wd_bill hb) rfl 2 (by decide) wt_258 rfl rfl hdg kk
theorem gf_X4_138 (hc : CX p l e R s m args below meth c D cs sa A cc nL RX4 ret) {b : Nat} (hb : b < n) (hdg : decode cc pc = .ok (.getfield 138, 3)) (kk : J p l e R s m args below meth c D A nL cells slots Q (WD ad cs n E S o) (pc + 3) lv (.int (E.2.1 3 b) :: st)) : J p l e R s m args below meth c D A nL cells slots Q (WD ad cs n E S o) pc lv (.ref (ad (24 + 2 * b)) :: st) := j_getf hc (K := RX0) (T := TX0) (N := 11) uw0 (24 + 2 * b) (wd_bill hb) rfl 3 (by decide) wt_260 rfl rfl hdg kk
theorem pf_X4_138 (hc : CX p l e R s m args below meth c D cs sa A cc nL RX4 ret) {b : Nat} (hb : b < n) {v : Int32} (hdg : decode cc pc = .ok (.putfield 138, 3)) (kk : J p l e R s m args below meth c D A nL cells slots Q (WD ad cs n (eV E 3 b v) S o) (pc + 3) lv st) : J p l e R s m args below meth c D A nL cells slots Q (WD ad cs n E S o) pc lv (.int v :: .ref (ad (24 + 2 * b)) :: st) := j_putf hc (w' := WD ad cs n (eV E 3 b v) S o) (K := RX0) (T := TX0) (N := 11) uw0 tyX0 tyX0_ok nmX0 (24 + 2 * b) (wd_bill hb) rfl 3 (by decide) wt_260 rfl (Or.inl rfl) (ty := .int) rfl rfl rfl (Nat.le_of_ble_eq_true rfl) (ws_b3 hb) hdg kk
theorem gf_X4_133 (hc : CX p l e R s m args below meth c D cs sa A cc nL RX4 ret) {b : Nat} (hb : b < n) (hdg : decode cc pc = .ok (.getfield 133, 3)) (kk : J p l e R s m args below meth c D A nL cells slots Q (WD ad cs n E S o) (pc + 3) lv (.int (E.2.1 4 b) :: st)) : J p l e R s m args below meth c D A nL cells slots Q (WD ad cs n E S o) pc lv (.ref (ad (24 + 2 * b)) :: st) := j_getf hc (K := RX0) (T := TX0) (N := 11) uw0 (24 + 2 * b) (wd_bill hb) rfl 4 (by decide) wt_261 rfl rfl hdg kk
theorem pf_X4_133 (hc : CX p l e R s m args below meth c D cs sa A cc nL RX4 ret) {b : Nat} (hb : b < n) {v : Int32} (hdg : decode cc pc = .ok (.putfield 133, 3)) (kk : J p l e R s m args below meth c D A nL cells slots Q (WD ad cs n (eV E 4 b v) S o) (pc + 3) lv st) : J p l e R s m args below meth c D A nL cells slots Q (WD ad cs n E S o) pc lv (.int v :: .ref (ad (24 + 2 * b)) :: st) := j_putf hc (w' := WD ad cs n (eV E 4 b v) S o) (K := RX0) (T := TX0) (N := 11) uw0 tyX0 tyX0_ok nmX0 (24 + 2 * b) (wd_bill hb) rfl 4 (by decide) wt_261 rfl (Or.inl rfl) (ty := .int) rfl rfl rfl (Nat.le_of_ble_eq_true rfl) (ws_b4 hb) hdg kk
theorem gf_X4_158 (hc : CX p l e R s m args below meth c D cs sa A cc nL RX4 ret) {b : Nat} (hb : b < n) (hdg : decode cc pc = .ok (.getfield 158, 3)) (kk : J p l e R s m args below meth c D A nL cells slots Q (WD ad cs n E S o) (pc + 3) lv (.int (E.2.1 5 b) :: st)) : J p l e R s m args below meth c D A nL cells slots Q (WD ad cs n E S o) pc lv (.ref (ad (24 + 2 * b)) :: st) := j_getf hc (K := RX0) (T := TX0) (N := 11) uw0 (24 + 2 * b) (wd_bill hb) rfl 5 (by decide) wt_262 rfl rfl hdg kk
theorem pf_X4_158 (hc : CX p l e R s m args below meth c D cs sa A cc nL RX4 ret) {b : Nat} (hb : b < n) {v : Int32} (hdg : decode cc pc = .ok (.putfield 158, 3)) (kk : J p l e R s m args below meth c D A nL cells slots Q (WD ad cs n (eV E 5 b v) S o) (pc + 3) lv st) : J p l e R s m args below meth c D A nL cells slots Q (WD ad cs n E S o) pc lv (.int v :: .ref (ad (24 + 2 * b)) :: st) := j_putf hc (w' := WD ad cs n (eV E 5 b v) S o) (K := RX0) (T := TX0) (N := 11) uw0 tyX0 tyX0_ok nmX0 (24 + 2 * b) (wd_bill hb) rfl 5 (by decide) wt_262 rfl (Or.inl rfl) (ty := .int) rfl rfl rfl (Nat.le_of_ble_eq_true rfl) (ws_b5 hb) hdg kk
theorem gf_X4_175 (hc : CX p l e R s m args below meth c D cs sa A cc nL RX4 ret) {b : Nat} (hb : b < n) (hdg : decode cc pc = .ok (.getfield 175, 3)) (kk : J p l e R s m args below meth c D A nL cells slots Q (WD ad cs n E S o) (pc + 3) lv (.int (E.2.1 6 b) :: st)) : J p l e R s m args below meth c D A nL cells slots Q (WD ad cs n E S o) pc lv (.ref (ad (24 + 2 * b)) :: st) := j_getf hc (K := RX0) (T := TX0) (N := 11) uw0 (24 + 2 * b) (wd_bill hb) rfl 6 (by decide) wt_263 rfl rfl hdg kk
theorem pf_X4_175 (hc : CX p l e R s m args below meth c D cs sa A cc nL RX4 ret) {b : Nat} (hb : b < n) {v : Int32} (hdg : decode cc pc = .ok (.putfield 175, 3)) (kk : J p l e R s m args below meth c D A nL cells slots Q (WD ad cs n (eV E 6 b v) S o) (pc + 3) lv st) : J p l e R s m args below meth c D A nL cells slots Q (WD ad cs n E S o) pc lv (.int v :: .ref (ad (24 + 2 * b)) :: st) := j_putf hc (w' := WD ad cs n (eV E 6 b v) S o) (K := RX0) (T := TX0) (N := 11) uw0 tyX0 tyX0_ok nmX0 (24 + 2 * b) (wd_bill hb) rfl 6 (by decide) wt_263 rfl (Or.inl rfl) (ty := .int) rfl rfl rfl (Nat.le_of_ble_eq_true rfl) (ws_b6 hb) hdg kk
theorem gf_X4_150 (hc : CX p l e R s m args below meth c D cs sa A cc nL RX4 ret) {b : Nat} (hb : b < n) (hdg : decode cc pc = .ok (.getfield 150, 3)) (kk : J p l e R s m args below meth c D A nL cells slots Q (WD ad cs n E S o) (pc + 3) lv (.int (E.2.1 7 b) :: st)) : J p l e R s m args below meth c D A nL cells slots Q (WD ad cs n E S o) pc lv (.ref (ad (24 + 2 * b)) :: st) := j_getf hc (K := RX0) (T := TX0) (N := 11) uw0 (24 + 2 * b) (wd_bill hb) rfl 7 (by decide) wt_264 rfl rfl hdg kk
theorem pf_X4_150 (hc : CX p l e R s m args below meth c D cs sa A cc nL RX4 ret) {b : Nat} (hb : b < n) {v : Int32} (hdg : decode cc pc = .ok (.putfield 150, 3)) (kk : J p l e R s m args below meth c D A nL cells slots Q (WD ad cs n (eV E 7 b v) S o) (pc + 3) lv st) : J p l e R s m args below meth c D A nL cells slots Q (WD ad cs n E S o) pc lv (.int v :: .ref (ad (24 + 2 * b)) :: st) := j_putf hc (w' := WD ad cs n (eV E 7 b v) S o) (K := RX0) (T := TX0) (N := 11) uw0 tyX0 tyX0_ok nmX0 (24 + 2 * b) (wd_bill hb) rfl 7 (by decide) wt_264 rfl (Or.inl rfl) (ty := .int) rfl rfl rfl (Nat.le_of_ble_eq_true rfl) (ws_b7 hb) hdg kk
theorem gf_X4_181 (hc : CX p l e R s m args below meth c D cs sa A cc nL RX4 ret) {b : Nat} (hb : b < n) (hdg : decode cc pc = .ok (.getfield 181, 3)) (kk : J p l e R s m args below meth c D A nL cells slots Q (WD ad cs n E S o) (pc + 3) lv (.int (E.2.1 8 b) :: st)) : J p l e R s m args below meth c D A nL cells slots Q (WD ad cs n E S o) pc lv (.ref (ad (24 + 2 * b)) :: st) := j_getf hc (K := RX0) (T := TX0) (N := 11) uw0 (24 + 2 * b) (wd_bill hb) rfl 8 (by decide) wt_265 rfl rfl hdg kk
theorem pf_X4_181 (hc : CX p l e R s m args below meth c D cs sa A cc nL RX4 ret) {b : Nat} (hb : b < n) {v : Int32} (hdg : decode cc pc = .ok (.putfield 181, 3)) (kk : J p l e R s m args below meth c D A nL cells slots Q (WD ad cs n (eV E 8 b v) S o) (pc + 3) lv st) : J p l e R s m args below meth c D A nL cells slots Q (WD ad cs n E S o) pc lv (.int v :: .ref (ad (24 + 2 * b)) :: st) := j_putf hc (w' := WD ad cs n (eV E 8 b v) S o) (K := RX0) (T := TX0) (N := 11) uw0 tyX0 tyX0_ok nmX0 (24 + 2 * b) (wd_bill hb) rfl 8 (by decide) wt_265 rfl (Or.inl rfl) (ty := .int) rfl rfl rfl (Nat.le_of_ble_eq_true rfl) (ws_b8 hb) hdg kk
theorem gf_X4_155 (hc : CX p l e R s m args below meth c D cs sa A cc nL RX4 ret) {b : Nat} (hb : b < n) (hdg : decode cc pc = .ok (.getfield 155, 3)) (kk : J p l e R s m args below meth c D A nL cells slots Q (WD ad cs n E S o) (pc + 3) lv (.int (E.2.1 9 b) :: st)) : J p l e R s m args below meth c D A nL cells slots Q (WD ad cs n E S o) pc lv (.ref (ad (24 + 2 * b)) :: st) := j_getf hc (K := RX0) (T := TX0) (N := 11) uw0 (24 + 2 * b) (wd_bill hb) rfl 9 (by decide) wt_266 rfl rfl hdg kk
theorem pf_X4_155 (hc : CX p l e R s m args below meth c D cs sa A cc nL RX4 ret) {b : Nat} (hb : b < n) {v : Int32} (hdg : decode cc pc = .ok (.putfield 155, 3)) (kk : J p l e R s m args below meth c D A nL cells slots Q (WD ad cs n (eV E 9 b v) S o) (pc + 3) lv st) : J p l e R s m args below meth c D A nL cells slots Q (WD ad cs n E S o) pc lv (.int v :: .ref (ad (24 + 2 * b)) :: st) := j_putf hc (w' := WD ad cs n (eV E 9 b v) S o) (K := RX0) (T := TX0) (N := 11) uw0 tyX0 tyX0_ok nmX0 (24 + 2 * b) (wd_bill hb) rfl 9 (by decide) wt_266 rfl (Or.inl rfl) (ty := .int) rfl rfl rfl (Nat.le_of_ble_eq_true rfl) (ws_b9 hb) hdg kk
theorem gf_X4_161 (hc : CX p l e R s m args below meth c D cs sa A cc nL RX4 ret) {b : Nat} (hb : b < n) (hdg : decode cc pc = .ok (.getfield 161, 3)) (kk : J p l e R s m args below meth c D A nL cells slots Q (WD ad cs n E S o) (pc + 3) lv (.int (E.2.1 10 b) :: st)) : J p l e R s m args below meth c D A nL cells slots Q (WD ad cs n E S o) pc lv (.ref (ad (24 + 2 * b)) :: st) := j_getf hc (K := RX0) (T := TX0) (N := 11) uw0 (24 + 2 * b) (wd_bill hb) rfl 10 (by decide) wt_267 rfl rfl hdg kk
theorem pf_X4_161 (hc : CX p l e R s m args below meth c D cs sa A cc nL RX4 ret) {b : Nat} (hb : b < n) {v : Int32} (hdg : decode cc pc = .ok (.putfield 161, 3)) (kk : J p l e R s m args below meth c D A nL cells slots Q (WD ad cs n (eV E 10 b v) S o) (pc + 3) lv st) : J p l e R s m args below meth c D A nL cells slots Q (WD ad cs n E S o) pc lv (.int v :: .ref (ad (24 + 2 * b)) :: st) := j_putf hc (w' := WD ad cs n (eV E 10 b v) S o) (K := RX0) (T := TX0) (N := 11) uw0 tyX0 tyX0_ok nmX0 (24 + 2 * b) (wd_bill hb) rfl 10 (by decide) wt_267 rfl (Or.inl rfl) (ty := .int) rfl rfl rfl (Nat.le_of_ble_eq_true rfl) (ws_b10 hb) hdg kk
variable {own : String}
theorem al_hol (hc : CX p l e R s m args below meth c D cs sa A cc nL own ret)  {k : Int32} (hin : vp_in k 485) (hdg : decode cc pc = .ok (.laload, 1)) (kk : J p l e R s m args below meth c D A nL cells slots Q (WD ad cs n E S o) (pc + 1) lv (.long (E.2.2 k.toNatClampNeg) :: st)) : J p l e R s m args below meth c D A nL cells slots Q (WD ad cs n E S o) pc lv (.int k :: .ref (ad 2) :: st) := j_laload hc 2 rfl hin hdg kk
theorem as_hol (hc : CX p l e R s m args below meth c D cs sa A cc nL own ret)  {k : Int32} {x : Int64} (hin : vp_in k 485) (hdg : decode cc pc = .ok (.lastore, 1)) (kk : J p l e R s m args below meth c D A nL cells slots Q (WD ad cs n (eH E k.toNatClampNeg x) S o) (pc + 1) lv st) : J p l e R s m args below meth c D A nL cells slots Q (WD ad cs n E S o) pc lv (.long x :: .int k :: .ref (ad 2) :: st) := j_lastore hc 2 rfl hin rfl hdg kk
theorem al_gap (hc : CX p l e R s m args below meth c D cs sa A cc nL own ret) {i : Nat} (hi : i < 4) {k : Int32} (hin : vp_in k 6) (hdg : decode cc pc = .ok (.iaload, 1)) (kk : J p l e R s m args below meth c D A nL cells slots Q (WD ad cs n E S o) (pc + 1) lv (.int (E.2.1 (20 + i) k.toNatClampNeg) :: st)) : J p l e R s m args below meth c D A nL cells slots Q (WD ad cs n E S o) pc lv (.int k :: .ref (ad (5 + 2 * i)) :: st) := j_iaload hc (5 + 2 * i) (wd_gapd hi) hin hdg kk
theorem as_gap (hc : CX p l e R s m args below meth c D cs sa A cc nL own ret) {i : Nat} (hi : i < 4) {k : Int32} {x : Int32} (hin : vp_in k 6) (hdg : decode cc pc = .ok (.iastore, 1)) (kk : J p l e R s m args below meth c D A nL cells slots Q (WD ad cs n (eV E (20 + i) k.toNatClampNeg x) S o) (pc + 1) lv st) : J p l e R s m args below meth c D A nL cells slots Q (WD ad cs n E S o) pc lv (.int x :: .int k :: .ref (ad (5 + 2 * i)) :: st) := j_iastore hc (5 + 2 * i) (wd_gapd hi) hin (ws_gd hi) hdg kk
theorem al_codes (hc : CX p l e R s m args below meth c D cs sa A cc nL own ret)  {k : Int32} (hin : vp_in k 400) (hdg : decode cc pc = .ok (.iaload, 1)) (kk : J p l e R s m args below meth c D A nL cells slots Q (WD ad cs n E S o) (pc + 1) lv (.int (E.2.1 30 k.toNatClampNeg) :: st)) : J p l e R s m args below meth c D A nL cells slots Q (WD ad cs n E S o) pc lv (.int k :: .ref (ad 14) :: st) := j_iaload hc 14 rfl hin hdg kk
theorem as_codes (hc : CX p l e R s m args below meth c D cs sa A cc nL own ret)  {k : Int32} {x : Int32} (hin : vp_in k 400) (hdg : decode cc pc = .ok (.iastore, 1)) (kk : J p l e R s m args below meth c D A nL cells slots Q (WD ad cs n (eV E 30 k.toNatClampNeg x) S o) (pc + 1) lv st) : J p l e R s m args below meth c D A nL cells slots Q (WD ad cs n E S o) pc lv (.int x :: .int k :: .ref (ad 14) :: st) := j_iastore hc 14 rfl hin ws_cd hdg kk
theorem al_fails (hc : CX p l e R s m args below meth c D cs sa A cc nL own ret) {b : Nat} (hb : b < n) {k : Int32} (hin : vp_in k 4) (hdg : decode cc pc = .ok (.iaload, 1)) (kk : J p l e R s m args below meth c D A nL cells slots Q (WD ad cs n E S o) (pc + 1) lv (.int (E.2.1 (40 + b) k.toNatClampNeg) :: st)) : J p l e R s m args below meth c D A nL cells slots Q (WD ad cs n E S o) pc lv (.int k :: .ref (ad (25 + 2 * b)) :: st) := j_iaload hc (25 + 2 * b) (wd_fail hb) hin hdg kk
theorem as_fails (hc : CX p l e R s m args below meth c D cs sa A cc nL own ret) {b : Nat} (hb : b < n) {k : Int32} {x : Int32} (hin : vp_in k 4) (hdg : decode cc pc = .ok (.iastore, 1)) (kk : J p l e R s m args below meth c D A nL cells slots Q (WD ad cs n (eV E (40 + b) k.toNatClampNeg x) S o) (pc + 1) lv st) : J p l e R s m args below meth c D A nL cells slots Q (WD ad cs n E S o) pc lv (.int x :: .int k :: .ref (ad (25 + 2 * b)) :: st) := j_iastore hc (25 + 2 * b) (wd_fail hb) hin (ws_f hb) hdg kk
theorem al_ln (hc : CX p l e R s m args below meth c D cs sa A cc nL own ret)  {k : Int32} (hin : vp_in k 9) (hdg : decode cc pc = .ok (.iaload, 1)) (kk : J p l e R s m args below meth c D A nL cells slots Q (WD ad cs n E S o) (pc + 1) lv (.int (S 0 k.toNatClampNeg) :: st)) : J p l e R s m args below meth c D A nL cells slots Q (WD ad cs n E S o) pc lv (.int k :: .ref (ad 15) :: st) := j_iaload hc 15 rfl hin hdg kk
theorem as_ln (hc : CX p l e R s m args below meth c D cs sa A cc nL own ret)  {k : Int32} {x : Int32} (hin : vp_in k 9) (hdg : decode cc pc = .ok (.iastore, 1)) (kk : J p l e R s m args below meth c D A nL cells slots Q (WD ad cs n E (mA S 0 k.toNatClampNeg x) o) (pc + 1) lv st) : J p l e R s m args below meth c D A nL cells slots Q (WD ad cs n E S o) pc lv (.int x :: .int k :: .ref (ad 15) :: st) := j_iastore hc 15 rfl hin rfl hdg kk
theorem al_lw (hc : CX p l e R s m args below meth c D cs sa A cc nL own ret)  {k : Int32} (hin : vp_in k 64) (hdg : decode cc pc = .ok (.iaload, 1)) (kk : J p l e R s m args below meth c D A nL cells slots Q (WD ad cs n E S o) (pc + 1) lv (.int (S 1 k.toNatClampNeg) :: st)) : J p l e R s m args below meth c D A nL cells slots Q (WD ad cs n E S o) pc lv (.int k :: .ref (ad 16) :: st) := j_iaload hc 16 rfl hin hdg kk
theorem as_lw (hc : CX p l e R s m args below meth c D cs sa A cc nL own ret)  {k : Int32} {x : Int32} (hin : vp_in k 64) (hdg : decode cc pc = .ok (.iastore, 1)) (kk : J p l e R s m args below meth c D A nL cells slots Q (WD ad cs n E (mA S 1 k.toNatClampNeg x) o) (pc + 1) lv st) : J p l e R s m args below meth c D A nL cells slots Q (WD ad cs n E S o) pc lv (.int x :: .int k :: .ref (ad 16) :: st) := j_iastore hc 16 rfl hin rfl hdg kk
theorem al_lg (hc : CX p l e R s m args below meth c D cs sa A cc nL own ret)  {k : Int32} (hin : vp_in k 30) (hdg : decode cc pc = .ok (.iaload, 1)) (kk : J p l e R s m args below meth c D A nL cells slots Q (WD ad cs n E S o) (pc + 1) lv (.int (S 2 k.toNatClampNeg) :: st)) : J p l e R s m args below meth c D A nL cells slots Q (WD ad cs n E S o) pc lv (.int k :: .ref (ad 17) :: st) := j_iaload hc 17 rfl hin hdg kk
theorem as_lg (hc : CX p l e R s m args below meth c D cs sa A cc nL own ret)  {k : Int32} {x : Int32} (hin : vp_in k 30) (hdg : decode cc pc = .ok (.iastore, 1)) (kk : J p l e R s m args below meth c D A nL cells slots Q (WD ad cs n E (mA S 2 k.toNatClampNeg x) o) (pc + 1) lv st) : J p l e R s m args below meth c D A nL cells slots Q (WD ad cs n E S o) pc lv (.int x :: .int k :: .ref (ad 17) :: st) := j_iastore hc 17 rfl hin rfl hdg kk
theorem al_lq (hc : CX p l e R s m args below meth c D cs sa A cc nL own ret)  {k : Int32} (hin : vp_in k 5) (hdg : decode cc pc = .ok (.iaload, 1)) (kk : J p l e R s m args below meth c D A nL cells slots Q (WD ad cs n E S o) (pc + 1) lv (.int (S 3 k.toNatClampNeg) :: st)) : J p l e R s m args below meth c D A nL cells slots Q (WD ad cs n E S o) pc lv (.int k :: .ref (ad 18) :: st) := j_iaload hc 18 rfl hin hdg kk
theorem as_lq (hc : CX p l e R s m args below meth c D cs sa A cc nL own ret)  {k : Int32} {x : Int32} (hin : vp_in k 5) (hdg : decode cc pc = .ok (.iastore, 1)) (kk : J p l e R s m args below meth c D A nL cells slots Q (WD ad cs n E (mA S 3 k.toNatClampNeg x) o) (pc + 1) lv st) : J p l e R s m args below meth c D A nL cells slots Q (WD ad cs n E S o) pc lv (.int x :: .int k :: .ref (ad 18) :: st) := j_iastore hc 18 rfl hin rfl hdg kk
theorem al_lb (hc : CX p l e R s m args below meth c D cs sa A cc nL own ret)  {k : Int32} (hin : vp_in k 36) (hdg : decode cc pc = .ok (.iaload, 1)) (kk : J p l e R s m args below meth c D A nL cells slots Q (WD ad cs n E S o) (pc + 1) lv (.int (S 4 k.toNatClampNeg) :: st)) : J p l e R s m args below meth c D A nL cells slots Q (WD ad cs n E S o) pc lv (.int k :: .ref (ad 19) :: st) := j_iaload hc 19 rfl hin hdg kk
theorem as_lb (hc : CX p l e R s m args below meth c D cs sa A cc nL own ret)  {k : Int32} {x : Int32} (hin : vp_in k 36) (hdg : decode cc pc = .ok (.iastore, 1)) (kk : J p l e R s m args below meth c D A nL cells slots Q (WD ad cs n E (mA S 4 k.toNatClampNeg x) o) (pc + 1) lv st) : J p l e R s m args below meth c D A nL cells slots Q (WD ad cs n E S o) pc lv (.int x :: .int k :: .ref (ad 19) :: st) := j_iastore hc 19 rfl hin rfl hdg kk
theorem al_lc (hc : CX p l e R s m args below meth c D cs sa A cc nL own ret)  {k : Int32} (hin : vp_in k 48) (hdg : decode cc pc = .ok (.iaload, 1)) (kk : J p l e R s m args below meth c D A nL cells slots Q (WD ad cs n E S o) (pc + 1) lv (.int (S 5 k.toNatClampNeg) :: st)) : J p l e R s m args below meth c D A nL cells slots Q (WD ad cs n E S o) pc lv (.int k :: .ref (ad 20) :: st) := j_iaload hc 20 rfl hin hdg kk
theorem as_lc (hc : CX p l e R s m args below meth c D cs sa A cc nL own ret)  {k : Int32} {x : Int32} (hin : vp_in k 48) (hdg : decode cc pc = .ok (.iastore, 1)) (kk : J p l e R s m args below meth c D A nL cells slots Q (WD ad cs n E (mA S 5 k.toNatClampNeg x) o) (pc + 1) lv st) : J p l e R s m args below meth c D A nL cells slots Q (WD ad cs n E S o) pc lv (.int x :: .int k :: .ref (ad 20) :: st) := j_iastore hc 20 rfl hin rfl hdg kk
theorem al_lf (hc : CX p l e R s m args below meth c D cs sa A cc nL own ret)  {k : Int32} (hin : vp_in k 60) (hdg : decode cc pc = .ok (.iaload, 1)) (kk : J p l e R s m args below meth c D A nL cells slots Q (WD ad cs n E S o) (pc + 1) lv (.int (S 6 k.toNatClampNeg) :: st)) : J p l e R s m args below meth c D A nL cells slots Q (WD ad cs n E S o) pc lv (.int k :: .ref (ad 21) :: st) := j_iaload hc 21 rfl hin hdg kk
theorem as_lf (hc : CX p l e R s m args below meth c D cs sa A cc nL own ret)  {k : Int32} {x : Int32} (hin : vp_in k 60) (hdg : decode cc pc = .ok (.iastore, 1)) (kk : J p l e R s m args below meth c D A nL cells slots Q (WD ad cs n E (mA S 6 k.toNatClampNeg x) o) (pc + 1) lv st) : J p l e R s m args below meth c D A nL cells slots Q (WD ad cs n E S o) pc lv (.int x :: .int k :: .ref (ad 21) :: st) := j_iastore hc 21 rfl hin rfl hdg kk
theorem al_lk (hc : CX p l e R s m args below meth c D cs sa A cc nL own ret)  {k : Int32} (hin : vp_in k 36) (hdg : decode cc pc = .ok (.iaload, 1)) (kk : J p l e R s m args below meth c D A nL cells slots Q (WD ad cs n E S o) (pc + 1) lv (.int (S 7 k.toNatClampNeg) :: st)) : J p l e R s m args below meth c D A nL cells slots Q (WD ad cs n E S o) pc lv (.int k :: .ref (ad 22) :: st) := j_iaload hc 22 rfl hin hdg kk
theorem as_lk (hc : CX p l e R s m args below meth c D cs sa A cc nL own ret)  {k : Int32} {x : Int32} (hin : vp_in k 36) (hdg : decode cc pc = .ok (.iastore, 1)) (kk : J p l e R s m args below meth c D A nL cells slots Q (WD ad cs n E (mA S 7 k.toNatClampNeg x) o) (pc + 1) lv st) : J p l e R s m args below meth c D A nL cells slots Q (WD ad cs n E S o) pc lv (.int x :: .int k :: .ref (ad 22) :: st) := j_iastore hc 22 rfl hin rfl hdg kk
theorem al_le (hc : CX p l e R s m args below meth c D cs sa A cc nL own ret)  {k : Int32} (hin : vp_in k 60) (hdg : decode cc pc = .ok (.iaload, 1)) (kk : J p l e R s m args below meth c D A nL cells slots Q (WD ad cs n E S o) (pc + 1) lv (.int (S 8 k.toNatClampNeg) :: st)) : J p l e R s m args below meth c D A nL cells slots Q (WD ad cs n E S o) pc lv (.int k :: .ref (ad 23) :: st) := j_iaload hc 23 rfl hin hdg kk
theorem as_le (hc : CX p l e R s m args below meth c D cs sa A cc nL own ret)  {k : Int32} {x : Int32} (hin : vp_in k 60) (hdg : decode cc pc = .ok (.iastore, 1)) (kk : J p l e R s m args below meth c D A nL cells slots Q (WD ad cs n E (mA S 8 k.toNatClampNeg x) o) (pc + 1) lv st) : J p l e R s m args below meth c D A nL cells slots Q (WD ad cs n E S o) pc lv (.int x :: .int k :: .ref (ad 23) :: st) := j_iastore hc 23 rfl hin rfl hdg kk
theorem al_gaps (hc : CX p l e R s m args below meth c D cs sa A cc nL own ret) {i : Nat} (hi : i < 4) {k : Int32} (hk : k = nI i) (hdg : decode cc pc = .ok (.aaload, 1)) (kk : J p l e R s m args below meth c D A nL cells slots Q (WD ad cs n E S o) (pc + 1) lv (.ref (ad (4 + 2 * i)) :: st)) : J p l e R s m args below meth c D A nL cells slots Q (WD ad cs n E S o) pc lv (.int k :: .ref (ad 3) :: st) := by
  subst hk
  exact j_aaload hc 3 4 rfl rfl (vp_in_nI hi (by decide)) (by rw [nI_clamp (by omega), gpf, if_pos hi]; rfl) hdg kk
theorem al_row (hc : CX p l e R s m args below meth c D cs sa A cc nL own ret) {b : Nat} (hb : b < n) (hn : n ≤ 30) {k : Int32} (hk : k = nI b) (hdg : decode cc pc = .ok (.aaload, 1)) (kk : J p l e R s m args below meth c D A nL cells slots Q (WD ad cs n E S o) (pc + 1) lv (.ref (ad (24 + 2 * b)) :: st)) : J p l e R s m args below meth c D A nL cells slots Q (WD ad cs n E S o) pc lv (.int k :: .ref (ad 12) :: st) := by
  subst hk
  exact j_aaload hc 12 3 rfl rfl (vp_in_nI (by omega) (by decide)) (by rw [nI_clamp (by omega), brf, if_pos hb]; rfl) hdg kk
theorem al_rowN (hc : CX p l e R s m args below meth c D cs sa A cc nL own ret) {b : Nat} (hb : ¬ b < n) (hn : b < 30) {k : Int32} (hk : k = nI b) (hdg : decode cc pc = .ok (.aaload, 1)) (kk : J p l e R s m args below meth c D A nL cells slots Q (WD ad cs n E S o) (pc + 1) lv (.null :: st)) : J p l e R s m args below meth c D A nL cells slots Q (WD ad cs n E S o) pc lv (.int k :: .ref (ad 12) :: st) := by
  subst hk
  exact j_aaload hc 12 3 rfl rfl (vp_in_nI hn (by decide)) (by rw [nI_clamp (by omega), brf, if_neg hb]; rfl) hdg kk
theorem ln_hol (hc : CX p l e R s m args below meth c D cs sa A cc nL own ret)  (hdg : decode cc pc = .ok (.arraylength, 1)) (kk : J p l e R s m args below meth c D A nL cells slots Q (WD ad cs n E S o) (pc + 1) lv (.int 485 :: st)) : J p l e R s m args below meth c D A nL cells slots Q (WD ad cs n E S o) pc lv (.ref (ad 2) :: st) := j_alen hc 2 1 rfl rfl rfl hdg kk
theorem ln_gap (hc : CX p l e R s m args below meth c D cs sa A cc nL own ret) {i : Nat} (hi : i < 4) (hdg : decode cc pc = .ok (.arraylength, 1)) (kk : J p l e R s m args below meth c D A nL cells slots Q (WD ad cs n E S o) (pc + 1) lv (.int 6 :: st)) : J p l e R s m args below meth c D A nL cells slots Q (WD ad cs n E S o) pc lv (.ref (ad (5 + 2 * i)) :: st) := j_alen hc (5 + 2 * i) 0 (wd_gapd hi) rfl rfl hdg kk
theorem ln_row (hc : CX p l e R s m args below meth c D cs sa A cc nL own ret)  (hdg : decode cc pc = .ok (.arraylength, 1)) (kk : J p l e R s m args below meth c D A nL cells slots Q (WD ad cs n E S o) (pc + 1) lv (.int 30 :: st)) : J p l e R s m args below meth c D A nL cells slots Q (WD ad cs n E S o) pc lv (.ref (ad 12) :: st) := j_alen hc 12 3 rfl rfl rfl hdg kk
end GP
/-- a room by its depth -/
abbrev RM (k mc ms : Nat) : Room := { frames := k, cells := mc, slots := ms, locals := 30 * k }
theorem ic_L_103 : IC RL 103 yX4_init cX4_init 1 0 := ⟨wt_16, wt_17, wt_1, wt_18, rfl, by decide, by decide, by decide +kernel⟩
theorem ic_X4_9 : IC RX4 9 yX1_init cX1_init 1 0 := ⟨wt_24, wt_25, wt_2, wt_26, rfl, by decide, by decide, by decide +kernel⟩
theorem ic_X4_22 : IC RX4 22 yX3_init cX3_init 3 1 := ⟨wt_42, wt_43, wt_3, wt_44, rfl, by decide, by decide, by decide +kernel⟩
theorem ic_X4_46 : IC RX4 46 yX2_init cX2_init 1 0 := ⟨wt_65, wt_66, wt_4, wt_67, rfl, by decide, by decide, by decide +kernel⟩
theorem vc_L_120 : VC RL 120 RX4 yX4_addHoliday cX4_addHoliday 3 (Option.some Jvm.ClassFile.FieldType.boolean) 1 := ⟨wt_114, wt_115, wt_116, wt_1, wt_117, rfl, by decide, by decide, by decide +kernel⟩
theorem sc_X4_86 : SC RX4 86 yX4_checkRange cX4_checkRange 3 (Option.none : Option Jvm.ClassFile.FieldType) 3 := ⟨wt_118, wt_119, wt_1, wt_120, by decide, by decide, by decide +kernel⟩
theorem vc_X4_90 : VC RX4 90 RX1 yX1_isHoliday cX1_isHoliday 3 (Option.some Jvm.ClassFile.FieldType.boolean) 1 := ⟨wt_189, wt_190, wt_191, wt_2, wt_192, rfl, by decide, by decide, by decide +kernel⟩
theorem vc_X4_94 : VC RX4 94 RX1 yX1_keepHoliday cX1_keepHoliday 3 (Option.none : Option Jvm.ClassFile.FieldType) 1 := ⟨wt_193, wt_194, wt_195, wt_2, wt_196, rfl, by decide, by decide, by decide +kernel⟩
theorem vc_L_123 : VC RL 123 RX4 yX4_clearGaps cX4_clearGaps 4 (Option.some Jvm.ClassFile.FieldType.int) 1 := ⟨wt_197, wt_198, wt_199, wt_1, wt_200, rfl, by decide, by decide, by decide +kernel⟩
theorem sc_X4_98 : SC RX4 98 yX4_indexOfReason cX4_indexOfReason 1 (Option.some Jvm.ClassFile.FieldType.int) 1 := ⟨wt_201, wt_202, wt_1, wt_203, by decide, by decide, by decide +kernel⟩
theorem vc_L_126 : VC RL 126 RX4 yX4_setTimes cX4_setTimes 4 (Option.some Jvm.ClassFile.FieldType.int) 2 := ⟨wt_220, wt_221, wt_222, wt_1, wt_223, rfl, by decide, by decide, by decide +kernel⟩
theorem vc_L_109 : VC RL 109 RX4 yX4_bill cX4_bill 5 (Option.some Jvm.ClassFile.FieldType.int) 2 := ⟨wt_224, wt_225, wt_226, wt_1, wt_227, rfl, by decide, by decide, by decide +kernel⟩
theorem sc_X4_109 : SC RX4 109 yX4_checkAccount cX4_checkAccount 1 (Option.none : Option Jvm.ClassFile.FieldType) 1 := ⟨wt_228, wt_229, wt_1, wt_230, by decide, by decide, by decide +kernel⟩
theorem ic_X4_117 : IC RX4 117 yX0_init cX0_init 4 3 := ⟨wt_249, wt_250, wt_12, wt_251, rfl, by decide, by decide, by decide +kernel⟩
theorem vc_X4_122 : VC RX4 122 RX1 yX1_firstChargingFrom cX1_firstChargingFrom 4 (Option.some Jvm.ClassFile.FieldType.int) 1 := ⟨wt_291, wt_292, wt_293, wt_2, wt_294, rfl, by decide, by decide, by decide +kernel⟩
theorem vc_X1_27 : VC RX1 27 RX1 yX1_allowsCharging cX1_allowsCharging 3 (Option.some Jvm.ClassFile.FieldType.boolean) 1 := ⟨wt_295, wt_296, wt_297, wt_2, wt_298, rfl, by decide, by decide, by decide +kernel⟩
theorem sc_X1_17 : SC RX1 17 yJ9_floorMod_7cf53 cJ9_floorMod_7cf53 3 (Option.some Jvm.ClassFile.FieldType.int) 2 := ⟨wt_299, wt_300, wt_9, wt_301, by decide, by decide, by decide +kernel⟩
theorem vc_X1_23 : VC RX1 23 RX1 yX1_isHoliday cX1_isHoliday 3 (Option.some Jvm.ClassFile.FieldType.boolean) 1 := ⟨wt_302, wt_190, wt_191, wt_2, wt_192, rfl, by decide, by decide, by decide +kernel⟩
theorem vc_X4_125 : VC RX4 125 RX4 yX4_enter cX4_enter 4 (Option.none : Option Jvm.ClassFile.FieldType) 3 := ⟨wt_303, wt_305, wts_1, wt_1, wt_306, rfl, by decide, by decide, by decide +kernel⟩
theorem vc_X4_234 : VC RX4 234 RX2 yX2_add cX2_add 4 (Option.none : Option Jvm.ClassFile.FieldType) 3 := ⟨wt_307, wt_308, wt_309, wt_4, wt_310, rfl, by decide, by decide, by decide +kernel⟩
theorem sc_X2_19 : SC RX2 19 yJ9_floorMod_7cf53 cJ9_floorMod_7cf53 3 (Option.some Jvm.ClassFile.FieldType.int) 2 := ⟨wt_311, wt_300, wt_9, wt_301, by decide, by decide, by decide +kernel⟩
theorem vc_L_133 : VC RL 133 RX4 yX4_pass cX4_pass 4 (Option.some Jvm.ClassFile.FieldType.int) 1 := ⟨wt_312, wt_313, wt_314, wt_1, wt_315, rfl, by decide, by decide, by decide +kernel⟩
theorem vc_X4_164 : VC RX4 164 RX4 yX4_failUnansweredTries cX4_failUnansweredTries 3 (Option.none : Option Jvm.ClassFile.FieldType) 0 := ⟨wt_316, wt_318, wts_2, wt_1, wt_319, rfl, by decide, by decide, by decide +kernel⟩
theorem vc_X4_145 : VC RX4 145 RX4 yX4_fail cX4_fail 5 (Option.none : Option Jvm.ClassFile.FieldType) 2 := ⟨wt_320, wt_322, wts_3, wt_1, wt_323, rfl, by decide, by decide, by decide +kernel⟩
theorem vc_X4_237 : VC RX4 237 RX3 yX3_daysBehind cX3_daysBehind 3 (Option.some Jvm.ClassFile.FieldType.int) 1 := ⟨wt_324, wt_325, wt_326, wt_3, wt_327, rfl, by decide, by decide, by decide +kernel⟩
theorem vc_X4_167 : VC RX4 167 RX4 yX4_lookAtBills cX4_lookAtBills 4 (Option.some Jvm.ClassFile.FieldType.int) 0 := ⟨wt_328, wt_330, wts_4, wt_1, wt_331, rfl, by decide, by decide, by decide +kernel⟩
theorem vc_X4_240 : VC RX4 240 RX4 yX4_lookAt cX4_lookAt 2 (Option.some Jvm.ClassFile.FieldType.boolean) 1 := ⟨wt_332, wt_334, wts_5, wt_1, wt_335, rfl, by decide, by decide, by decide +kernel⟩
theorem vc_X4_244 : VC RX4 244 RX4 yX4_beginTry cX4_beginTry 2 (Option.some Jvm.ClassFile.FieldType.boolean) 1 := ⟨wt_336, wt_338, wts_6, wt_1, wt_339, rfl, by decide, by decide, by decide +kernel⟩
theorem vc_X4_172 : VC RX4 172 RX1 yX1_allowsCharging cX1_allowsCharging 3 (Option.some Jvm.ClassFile.FieldType.boolean) 1 := ⟨wt_340, wt_296, wt_297, wt_2, wt_298, rfl, by decide, by decide, by decide +kernel⟩
theorem vc_X4_247 : VC RX4 247 RX4 yX4_breakPromise cX4_breakPromise 2 (Option.none : Option Jvm.ClassFile.FieldType) 1 := ⟨wt_341, wt_343, wts_7, wt_1, wt_344, rfl, by decide, by decide, by decide +kernel⟩
theorem sc_L_13 : SC RL 13 yL_from cL_from 4 (Option.some Jvm.ClassFile.FieldType.int) 3 := ⟨wt_345, wt_346, wt_0, wt_347, by decide, by decide, by decide +kernel⟩
theorem sc_L_7 : SC RL 7 yL_charges cL_charges 5 (Option.some Jvm.ClassFile.FieldType.boolean) 3 := ⟨wt_348, wt_349, wt_0, wt_350, by decide, by decide, by decide +kernel⟩
theorem sc_L_17 : SC RL 17 yL_enters cL_enters 5 (Option.none : Option Jvm.ClassFile.FieldType) 5 := ⟨wt_351, wt_352, wt_0, wt_353, by decide, by decide, by decide +kernel⟩
theorem sc_L_21 : SC RL 21 yL_fails cL_fails 11 (Option.none : Option Jvm.ClassFile.FieldType) 9 := ⟨wt_354, wt_355, wt_0, wt_356, by decide, by decide, by decide +kernel⟩
theorem sc_L_129 : SC RL 129 yL_passes cL_passes 12 (Option.some Jvm.ClassFile.FieldType.int) 9 := ⟨wt_357, wt_358, wt_0, wt_359, by decide, by decide, by decide +kernel⟩
theorem sc_L_116 : SC RL 116 yL_pays cL_pays 6 (Option.some Jvm.ClassFile.FieldType.int) 6 := ⟨wt_360, wt_361, wt_0, wt_362, by decide, by decide, by decide +kernel⟩
theorem vc_L_25 : VC RL 25 RX4 yX4_outcome cX4_outcome 4 (Option.some Jvm.ClassFile.FieldType.int) 2 := ⟨wt_367, wt_368, wt_369, wt_1, wt_370, rfl, by decide, by decide, by decide +kernel⟩
theorem vc_X4_129 : VC RX4 129 RX4 yX4_findBill cX4_findBill 3 (Option.some (Jvm.ClassFile.FieldType.object "CollectionsEngine$Bill")) 1 := ⟨wt_371, wt_373, wts_8, wt_1, wt_374, rfl, by decide, by decide, by decide +kernel⟩
theorem vc_X4_141 : VC RX4 141 RX4 yX4_takePayment cX4_takePayment 3 (Option.none : Option Jvm.ClassFile.FieldType) 2 := ⟨wt_377, wt_379, wts_9, wt_1, wt_380, rfl, by decide, by decide, by decide +kernel⟩
theorem vc_L_31 : VC RL 31 RX4 yX4_pay cX4_pay 4 (Option.some Jvm.ClassFile.FieldType.int) 2 := ⟨wt_381, wt_382, wt_383, wt_1, wt_384, rfl, by decide, by decide, by decide +kernel⟩
theorem vc_L_34 : VC RL 34 RX4 yX4_promise cX4_promise 5 (Option.some Jvm.ClassFile.FieldType.int) 2 := ⟨wt_386, wt_387, wt_388, wt_1, wt_389, rfl, by decide, by decide, by decide +kernel⟩
theorem vc_L_37 : VC RL 37 RX4 yX4_addGap cX4_addGap 4 (Option.some Jvm.ClassFile.FieldType.int) 2 := ⟨wt_391, wt_392, wt_393, wt_1, wt_394, rfl, by decide, by decide, by decide +kernel⟩
theorem vc_X4_106 : VC RX4 106 RX3 yX3_append cX3_append 2 (Option.none : Option Jvm.ClassFile.FieldType) 1 := ⟨wt_396, wt_397, wt_398, wt_3, wt_399, rfl, by decide, by decide, by decide +kernel⟩
theorem vc_L_40 : VC RL 40 RX4 yX4_setWeekday cX4_setWeekday 4 (Option.some Jvm.ClassFile.FieldType.int) 2 := ⟨wt_400, wt_401, wt_402, wt_1, wt_403, rfl, by decide, by decide, by decide +kernel⟩
theorem vc_X4_65 : VC RX4 65 RX1 yX1_weekdaysWith cX1_weekdaysWith 4 (Option.some Jvm.ClassFile.FieldType.int) 2 := ⟨wt_405, wt_406, wt_407, wt_2, wt_408, rfl, by decide, by decide, by decide +kernel⟩
theorem sc_X4_77 : SC RX4 77 yJ6_bitCount_0f7a4 cJ6_bitCount_0f7a4 1 (Option.some Jvm.ClassFile.FieldType.int) 1 := ⟨wt_410, wt_411, wt_13, wt_412, by decide, by decide, by decide +kernel⟩
theorem sc_L_104 : SC RL 104 yL_isEngine cL_isEngine 16 (Option.some Jvm.ClassFile.FieldType.boolean) 9 := ⟨wt_416, wt_417, wt_0, wt_418, by decide, by decide, by decide +kernel⟩
theorem vc_L_46 : VC RL 46 RX4 yX4_today cX4_today 1 (Option.some Jvm.ClassFile.FieldType.int) 0 := ⟨wt_419, wt_420, wt_421, wt_1, wt_422, rfl, by decide, by decide, by decide +kernel⟩
theorem vc_L_50 : VC RL 50 RX4 yX4_bills cX4_bills 1 (Option.some Jvm.ClassFile.FieldType.int) 0 := ⟨wt_423, wt_424, wt_425, wt_1, wt_426, rfl, by decide, by decide, by decide +kernel⟩
theorem vc_L_53 : VC RL 53 RX4 yX4_paid cX4_paid 1 (Option.some Jvm.ClassFile.FieldType.int) 0 := ⟨wt_427, wt_428, wt_429, wt_1, wt_430, rfl, by decide, by decide, by decide +kernel⟩
theorem vc_L_56 : VC RL 56 RX4 yX4_writtenOff cX4_writtenOff 1 (Option.some Jvm.ClassFile.FieldType.int) 0 := ⟨wt_431, wt_432, wt_433, wt_1, wt_434, rfl, by decide, by decide, by decide +kernel⟩
theorem vc_L_59 : VC RL 59 RX4 yX4_broughtBack cX4_broughtBack 1 (Option.some Jvm.ClassFile.FieldType.int) 0 := ⟨wt_435, wt_436, wt_437, wt_1, wt_438, rfl, by decide, by decide, by decide +kernel⟩
theorem vc_L_62 : VC RL 62 RX4 yX4_events cX4_events 1 (Option.some Jvm.ClassFile.FieldType.int) 0 := ⟨wt_439, wt_440, wt_441, wt_1, wt_442, rfl, by decide, by decide, by decide +kernel⟩
theorem vc_L_65 : VC RL 65 RX4 yX4_isCharging cX4_isCharging 2 (Option.some Jvm.ClassFile.FieldType.boolean) 1 := ⟨wt_443, wt_444, wt_445, wt_1, wt_446, rfl, by decide, by decide, by decide +kernel⟩
theorem vc_L_69 : VC RL 69 RX4 yX4_service cX4_service 5 (Option.some Jvm.ClassFile.FieldType.int) 1 := ⟨wt_448, wt_449, wt_450, wt_1, wt_451, rfl, by decide, by decide, by decide +kernel⟩
theorem sc_X4_187 : SC RX4 187 yX4_serviceWith cX4_serviceWith 2 (Option.some Jvm.ClassFile.FieldType.int) 1 := ⟨wt_452, wt_453, wt_1, wt_454, by decide, by decide, by decide +kernel⟩
theorem sc_X4_191 : SC RX4 191 yJ9_min_7cf53 cJ9_min_7cf53 2 (Option.some Jvm.ClassFile.FieldType.int) 2 := ⟨wt_455, wt_456, wt_9, wt_457, by decide, by decide, by decide +kernel⟩
theorem vc_L_73 : VC RL 73 RX4 yX4_leftIn cX4_leftIn 6 (Option.some Jvm.ClassFile.FieldType.int) 2 := ⟨wt_458, wt_459, wt_460, wt_1, wt_461, rfl, by decide, by decide, by decide +kernel⟩
theorem vc_L_76 : VC RL 76 RX4 yX4_stateOf cX4_stateOf 2 (Option.some Jvm.ClassFile.FieldType.int) 1 := ⟨wt_462, wt_463, wt_464, wt_1, wt_465, rfl, by decide, by decide, by decide +kernel⟩
theorem vc_L_79 : VC RL 79 RX4 yX4_left cX4_left 2 (Option.some Jvm.ClassFile.FieldType.int) 1 := ⟨wt_466, wt_467, wt_468, wt_1, wt_469, rfl, by decide, by decide, by decide +kernel⟩
theorem vc_L_82 : VC RL 82 RX4 yX4_tries cX4_tries 2 (Option.some Jvm.ClassFile.FieldType.int) 1 := ⟨wt_470, wt_471, wt_472, wt_1, wt_473, rfl, by decide, by decide, by decide +kernel⟩
theorem vc_L_85 : VC RL 85 RX4 yX4_broken cX4_broken 2 (Option.some Jvm.ClassFile.FieldType.int) 1 := ⟨wt_474, wt_475, wt_476, wt_1, wt_477, rfl, by decide, by decide, by decide +kernel⟩
theorem vc_L_88 : VC RL 88 RX4 yX4_waitsFor cX4_waitsFor 2 (Option.some Jvm.ClassFile.FieldType.int) 1 := ⟨wt_478, wt_479, wt_480, wt_1, wt_481, rfl, by decide, by decide, by decide +kernel⟩
theorem vc_L_91 : VC RL 91 RX4 yX4_failures cX4_failures 4 (Option.some Jvm.ClassFile.FieldType.int) 2 := ⟨wt_482, wt_483, wt_484, wt_1, wt_485, rfl, by decide, by decide, by decide +kernel⟩
theorem vc_L_94 : VC RL 94 RX4 yX4_event cX4_event 2 (Option.some Jvm.ClassFile.FieldType.int) 1 := ⟨wt_486, wt_487, wt_488, wt_1, wt_489, rfl, by decide, by decide, by decide +kernel⟩
theorem vc_X4_209 : VC RX4 209 RX2 yX2_told cX2_told 1 (Option.some Jvm.ClassFile.FieldType.int) 0 := ⟨wt_490, wt_491, wt_492, wt_4, wt_493, rfl, by decide, by decide, by decide +kernel⟩
theorem sc_X2_25 : SC RX2 25 yJ9_min_7cf53 cJ9_min_7cf53 2 (Option.some Jvm.ClassFile.FieldType.int) 2 := ⟨wt_494, wt_456, wt_9, wt_457, by decide, by decide, by decide +kernel⟩
theorem vc_X4_214 : VC RX4 214 RX2 yX2_codeAt cX2_codeAt 2 (Option.some Jvm.ClassFile.FieldType.int) 1 := ⟨wt_496, wt_497, wt_498, wt_4, wt_499, rfl, by decide, by decide, by decide +kernel⟩
theorem vc_L_97 : VC RL 97 RX4 yX4_stateAt cX4_stateAt 3 (Option.some Jvm.ClassFile.FieldType.int) 2 := ⟨wt_500, wt_501, wt_502, wt_1, wt_503, rfl, by decide, by decide, by decide +kernel⟩
theorem vc_X4_217 : VC RX4 217 RX2 yX2_lastStateOf cX2_lastStateOf 7 (Option.some Jvm.ClassFile.FieldType.int) 2 := ⟨wt_504, wt_505, wt_506, wt_4, wt_507, rfl, by decide, by decide, by decide +kernel⟩
theorem vc_X2_28 : VC RX2 28 RX2 yX2_told cX2_told 1 (Option.some Jvm.ClassFile.FieldType.int) 0 := ⟨wt_508, wt_491, wt_492, wt_4, wt_493, rfl, by decide, by decide, by decide +kernel⟩
theorem vc_X2_32 : VC RX2 32 RX2 yX2_codeAt cX2_codeAt 2 (Option.some Jvm.ClassFile.FieldType.int) 1 := ⟨wt_509, wt_497, wt_498, wt_4, wt_499, rfl, by decide, by decide, by decide +kernel⟩
theorem vc_L_100 : VC RL 100 RX4 yX4_billed cX4_billed 1 (Option.some Jvm.ClassFile.FieldType.int) 0 := ⟨wt_510, wt_511, wt_512, wt_1, wt_513, rfl, by decide, by decide, by decide +kernel⟩
end
section
section R5
variable {p : Program} {l : Launch} {e : Env} {R : Room} {s : State} {m : MethodId} {args : Array Value} {below : List Frame} {meth : Method} {c : Code} {D : va_G} {cs : Nat → ClassId} {sa : Nat → Nat} {A : Nat → Prop} {cc : ByteArray} {nL : Nat} {own : String} {ret : Option FieldType} {cells slots : Nat} {Q : State → Prop} {w : va_W} {pc : Nat} {lv : List (Nat × Value)} {st : List Value}
theorem j_inc (hc : CX p l e R s m args below meth c D cs sa A cc nL own ret) {i : Nat} {n : Int} {x z : Int32} (hdg : decode cc pc = .ok (.iinc i n, 3)) (hg : lgt lv i = some (.int x)) (hz : Int32.ofInt n = z) (hn : Nat.blt i nL = true) (k : J p l e R s m args below meth c D A nL cells slots Q w (pc + 3) (lst lv i (.int (x + z))) st) : J p l e R s m args below meth c D A nL cells slots Q w pc lv st := j_iinc hc hdg hg (by rw [hz]) hn k
theorem j_ldcw (hc : CX p l e R s m args below meth c D cs sa A cc nL own ret) {index : Nat} {v : Int32} (hm : Cond.constant own index v ∈ WT) (hdg : decode cc pc = .ok (.ldc_w index, 3)) (k : J p l e R s m args below meth c D A nL cells slots Q w (pc + 3) lv (.int v :: st)) : J p l e R s m args below meth c D A nL cells slots Q w pc lv st := fun H locs ls hP hD hS hl => lv_ldcw hc.1.1 hc.1.2.1 hc.1.2.2.2.1 (hc.1.2.2.2.2 _ hm) hdg (k H locs ls hP hD hS hl)
def exN : List String := ["java/lang/RuntimeException", "java/lang/Exception"]
def exB : List Cond := nwD.map (fun x => .declares x) ++ nwC.map (fun x => .castable x x)
theorem j_throwS (hc : CX p l e R s m args below meth c D cs sa A cc nL RX4 ret) {mc0 ms0 : Nat} {w0 : va_W} {r0 : Rs} (ho : ∀ x ∈ c.exceptionTable.toList, False) {cls tx : String} {ik is ic : Nat} (hfit : Bundle.fit cls = true) (hs : (is, tx) ∈ strs) (hk : Cond.classLink RX4 ik cls ∈ WT) (hini : Cond.initialized cls ∈ WT)
    (hg : ∀ w ∈ (vx_atS RX4 ic cls exN).filter goodWord, w ∈ WT) (hb : ∀ w ∈ (vx_atS RX4 ic cls exN).filter (fun w => !goodWord w), w ∈ exB) (hot : ∀ w ∈ Cond.classLink RX4 ik cls :: Cond.initialized cls :: vx_atS RX4 ic cls exN, vx_ot w = true)
    (d0 : decode cc pc = .ok (.new ik, 3)) (d3 : decode cc (pc + 3) = .ok (.dup, 1)) (d4 : decode cc (pc + 4) = .ok (.ldc is, 2)) (d6 : decode cc (pc + 6) = .ok (.invokespecial ic, 3)) (d9 : decode cc (pc + 9) = .ok (.athrow, 1))
    (hf : 5 < R.frames) (hlo : (st.map fun v => v.category).sum + 82 ≤ R.locals) (hrc : cells + 1 ≤ R.cells) (hrs : slots + 6 ≤ R.slots) (h1 : cells + 1 ≤ mc0) (h2 : slots + 6 ≤ ms0) (hr : r0.1 = some cls ∧ w = w0) : J p l e R s m args below meth c D A nL cells slots (QE below args s D A mc0 ms0 w0 r0) w pc lv st := fun H locs ls hP hD hS hl => by
  obtain ⟨hr, rfl⟩ := hr
  obtain ⟨z1, z2, z3, z4, z5, z6⟩ := hc.2.2.2.2.2.1
  have hB : ∀ w ∈ exB, w.before args s = true := fun w hw => by
    rcases List.mem_append.mp hw with h | h
    · obtain ⟨x, hx, rfl⟩ := List.mem_map.mp h
      exact va_Nw.use rfl (z3 x hx)
    · obtain ⟨x, hx, rfl⟩ := List.mem_map.mp h
      exact va_Nw.use rfl (z4 x hx)
  refine vx_throwS (names := exN) hc.1.1 hc.1.2.1 hc.2.2.2.2.2.2 hc.1.2.2.2.1 hfit (by decide) (hc.1.2.2.2.2 _ hk) (hc.1.2.2.2.2 _ hini) (z5 _ hs) (vx_hat (fun w h => hc.1.2.2.2.2 _ (hg w h)) hb hB) hot z1 z2 hS (hl.1.trans hc.1.2.2.1.symm) d0 d3 d4 d6 d9 (fun x hx => (ho x hx).elim) hf hlo hrc hrs hc.2.2.1 (fun t ht hz hk2 => ?_) hS.2.2 h1 h2
  have hP2 : va_P D vwCl w t.heap := hP.kept fun k q hq => hk2 _ (vx_lt hP hq)
  exact ⟨⟨hr, hP2, hD⟩, Nat.le_trans hS.1 hz, fun q h1 h2 => (hk2 q (Nat.lt_of_lt_of_le h1 hS.1)).trans (hS.2.1 q h1 h2)⟩
theorem xg_62 : ∀ w ∈ (vx_atS RX4 62 xIO exN).filter goodWord, w ∈ WT := by decide +kernel
theorem xb_62 : ∀ w ∈ (vx_atS RX4 62 xIO exN).filter (fun w => !goodWord w), w ∈ exB := by decide +kernel
theorem xo_62 : ∀ w ∈ Cond.classLink RX4 58 xIO :: Cond.initialized xIO :: vx_atS RX4 62 xIO exN, vx_ot w = true := by decide +kernel
theorem j_thr_62 (hc : CX p l e R s m args below meth c D cs sa A cc nL RX4 ret) {mc0 ms0 : Nat} {w0 : va_W} {r0 : Rs} (ho : ∀ x ∈ c.exceptionTable.toList, False) (is : Nat) {tx : String} (hs : (is, tx) ∈ strs) (d0 : decode cc pc = .ok (.new 58, 3)) (d3 : decode cc (pc + 3) = .ok (.dup, 1)) (d4 : decode cc (pc + 4) = .ok (.ldc is, 2)) (d6 : decode cc (pc + 6) = .ok (.invokespecial 62, 3)) (d9 : decode cc (pc + 9) = .ok (.athrow, 1))
    (hf : 5 < R.frames) (hlo : (st.map fun v => v.category).sum + 82 ≤ R.locals) (hrc : cells + 1 ≤ R.cells) (hrs : slots + 6 ≤ R.slots) (h1 : cells + 1 ≤ mc0) (h2 : slots + 6 ≤ ms0) (hr : r0.1 = some xIO ∧ w = w0) : J p l e R s m args below meth c D A nL cells slots (QE below args s D A mc0 ms0 w0 r0) w pc lv st :=
  j_throwS hc ho (by decide) hs wt_204 wt_10 xg_62 xb_62 xo_62 d0 d3 d4 d6 d9 hf hlo hrc hrs h1 h2 hr
theorem xg_73 : ∀ w ∈ (vx_atS RX4 73 xIS exN).filter goodWord, w ∈ WT := by decide +kernel
theorem xb_73 : ∀ w ∈ (vx_atS RX4 73 xIS exN).filter (fun w => !goodWord w), w ∈ exB := by decide +kernel
theorem xo_73 : ∀ w ∈ Cond.classLink RX4 69 xIS :: Cond.initialized xIS :: vx_atS RX4 73 xIS exN, vx_ot w = true := by decide +kernel
theorem j_thr_73 (hc : CX p l e R s m args below meth c D cs sa A cc nL RX4 ret) {mc0 ms0 : Nat} {w0 : va_W} {r0 : Rs} (ho : ∀ x ∈ c.exceptionTable.toList, False) (is : Nat) {tx : String} (hs : (is, tx) ∈ strs) (d0 : decode cc pc = .ok (.new 69, 3)) (d3 : decode cc (pc + 3) = .ok (.dup, 1)) (d4 : decode cc (pc + 4) = .ok (.ldc is, 2)) (d6 : decode cc (pc + 6) = .ok (.invokespecial 73, 3)) (d9 : decode cc (pc + 9) = .ok (.athrow, 1))
    (hf : 5 < R.frames) (hlo : (st.map fun v => v.category).sum + 82 ≤ R.locals) (hrc : cells + 1 ≤ R.cells) (hrs : slots + 6 ≤ R.slots) (h1 : cells + 1 ≤ mc0) (h2 : slots + 6 ≤ ms0) (hr : r0.1 = some xIS ∧ w = w0) : J p l e R s m args below meth c D A nL cells slots (QE below args s D A mc0 ms0 w0 r0) w pc lv st :=
  j_throwS hc ho (by decide) hs wt_232 wt_11 xg_73 xb_73 xo_73 d0 d3 d4 d6 d9 hf hlo hrc hrs h1 h2 hr
theorem xg_224 : ∀ w ∈ (vx_atS RX4 224 xIA exN).filter goodWord, w ∈ WT := by decide +kernel
theorem xb_224 : ∀ w ∈ (vx_atS RX4 224 xIA exN).filter (fun w => !goodWord w), w ∈ exB := by decide +kernel
theorem xo_224 : ∀ w ∈ Cond.classLink RX4 220 xIA :: Cond.initialized xIA :: vx_atS RX4 224 xIA exN, vx_ot w = true := by decide +kernel
theorem j_thr_224 (hc : CX p l e R s m args below meth c D cs sa A cc nL RX4 ret) {mc0 ms0 : Nat} {w0 : va_W} {r0 : Rs} (ho : ∀ x ∈ c.exceptionTable.toList, False) (is : Nat) {tx : String} (hs : (is, tx) ∈ strs) (d0 : decode cc pc = .ok (.new 220, 3)) (d3 : decode cc (pc + 3) = .ok (.dup, 1)) (d4 : decode cc (pc + 4) = .ok (.ldc is, 2)) (d6 : decode cc (pc + 6) = .ok (.invokespecial 224, 3)) (d9 : decode cc (pc + 9) = .ok (.athrow, 1))
    (hf : 5 < R.frames) (hlo : (st.map fun v => v.category).sum + 82 ≤ R.locals) (hrc : cells + 1 ≤ R.cells) (hrs : slots + 6 ≤ R.slots) (h1 : cells + 1 ≤ mc0) (h2 : slots + 6 ≤ ms0) (hr : r0.1 = some xIA ∧ w = w0) : J p l e R s m args below meth c D A nL cells slots (QE below args s D A mc0 ms0 w0 r0) w pc lv st :=
  j_throwS hc ho (by decide) hs wt_121 wt_8 xg_224 xb_224 xo_224 d0 d3 d4 d6 d9 hf hlo hrc hrs h1 h2 hr
theorem j_min_X4_191 (hc : CX p l e R s m args below meth c D cs sa A cc nL RX4 ret) {x y : Int32} (hfr : 1 ≤ R.frames) (hlo : (st.map fun v => v.category).sum + 13 ≤ R.locals) (hrc : cells ≤ R.cells) (hrs : slots ≤ R.slots) (hdg : decode cc pc = .ok (.invokestatic 191, 3)) (k : J p l e R s m args below meth c D A nL cells slots Q w (pc + 3) lv (.int (if y < x then y else x) :: st)) : J p l e R s m args below meth c D A nL cells slots Q w pc lv (.int y :: .int x :: st) := fun H locs ls hP hD hS hl => va_mmin hc.1.1 hc.1.2.1 (hc.1.2.2.1.trans hl.1.symm) hc.1.2.2.2.1 (hc.1.2.2.2.2 _ wt_455) (hc.1.2.2.2.2 _ wt_456) (hc.1.2.2.2.2 _ wt_9) (hc.1.2.2.2.2 _ wt_457) hfr hlo hrc hrs hdg (k H locs ls hP hD hS hl)
theorem j_min_X2_25 (hc : CX p l e R s m args below meth c D cs sa A cc nL RX2 ret) {x y : Int32} (hfr : 1 ≤ R.frames) (hlo : (st.map fun v => v.category).sum + 13 ≤ R.locals) (hrc : cells ≤ R.cells) (hrs : slots ≤ R.slots) (hdg : decode cc pc = .ok (.invokestatic 25, 3)) (k : J p l e R s m args below meth c D A nL cells slots Q w (pc + 3) lv (.int (if y < x then y else x) :: st)) : J p l e R s m args below meth c D A nL cells slots Q w pc lv (.int y :: .int x :: st) := fun H locs ls hP hD hS hl => va_mmin hc.1.1 hc.1.2.1 (hc.1.2.2.1.trans hl.1.symm) hc.1.2.2.2.1 (hc.1.2.2.2.2 _ wt_494) (hc.1.2.2.2.2 _ wt_456) (hc.1.2.2.2.2 _ wt_9) (hc.1.2.2.2.2 _ wt_457) hfr hlo hrc hrs hdg (k H locs ls hP hD hS hl)
variable {ad : Nat → Nat} {n : Nat} {E : ES} {S : MS} {o : Nat → Int64}
theorem al_gapsp (hc : CX p l e R s m args below meth c D cs sa A cc nL own ret) {k : Int32} (hin : vp_in k 4) (hdg : decode cc pc = .ok (.aaload, 1)) (kk : J p l e R s m args below meth c D A nL cells slots Q (WD ad cs n E S o) (pc + 1) lv (.ref (ad (4 + 2 * k.toNatClampNeg)) :: st)) : J p l e R s m args below meth c D A nL cells slots Q (WD ad cs n E S o) pc lv (.int k :: .ref (ad 3) :: st) := by
  obtain ⟨j, hj, rfl⟩ := vp_in_of hin (by decide)
  rw [nI_clamp (by omega)] at kk
  exact al_gaps hc hj rfl hdg kk
theorem al_rowp (hc : CX p l e R s m args below meth c D cs sa A cc nL own ret) (hn : n ≤ 30) {k : Int32} (hin : vp_in k 30) (hb : k.toNatClampNeg < n) (hdg : decode cc pc = .ok (.aaload, 1)) (kk : J p l e R s m args below meth c D A nL cells slots Q (WD ad cs n E S o) (pc + 1) lv (.ref (ad (24 + 2 * k.toNatClampNeg)) :: st)) : J p l e R s m args below meth c D A nL cells slots Q (WD ad cs n E S o) pc lv (.int k :: .ref (ad 12) :: st) := by
  obtain ⟨j, hj, rfl⟩ := vp_in_of hin (by decide)
  rw [nI_clamp (by omega)] at kk hb
  exact al_row hc hb hn rfl hdg kk
theorem al_rowNp (hc : CX p l e R s m args below meth c D cs sa A cc nL own ret) {k : Int32} (hin : vp_in k 30) (hb : ¬ k.toNatClampNeg < n) (hdg : decode cc pc = .ok (.aaload, 1)) (kk : J p l e R s m args below meth c D A nL cells slots Q (WD ad cs n E S o) (pc + 1) lv (.null :: st)) : J p l e R s m args below meth c D A nL cells slots Q (WD ad cs n E S o) pc lv (.int k :: .ref (ad 12) :: st) := by
  obtain ⟨j, hj, rfl⟩ := vp_in_of hin (by decide)
  rw [nI_clamp (by omega)] at hb
  exact al_rowN hc hb hj rfl hdg kk
end R5
theorem vpi {k N : Int32} {n : Nat} (h0 : ¬ k < 0) (h1 : ¬ N ≤ k) (hN : N.toInt = n) : vp_in k n := by
  rw [vp_in_iff]
  rw [Int32.lt_iff_toInt_lt] at h0
  rw [Int32.le_iff_toInt_le] at h1
  have : (0 : Int32).toInt = 0 := by decide
  omega
theorem i32_le (a b : Int32) : a ≤ b ↔ a.toInt ≤ b.toInt := Int32.le_iff_toInt_le
theorem i32_lt (a b : Int32) : a < b ↔ a.toInt < b.toInt := Int32.lt_iff_toInt_lt
theorem i32_b (a : Int32) : -2147483648 ≤ a.toInt ∧ a.toInt < 2147483648 := ⟨by have := Int32.le_toInt a; simpa using this, by have := Int32.toInt_lt a; simpa using this⟩
theorem i32_sub {a b : Int32} (h1 : -2147483648 ≤ a.toInt - b.toInt) (h2 : a.toInt - b.toInt < 2147483648) : (a - b).toInt = a.toInt - b.toInt := by
  rw [Int32.toInt_sub]; exact Int.bmod_eq_of_le (by simpa using h1) (by simpa using h2)
theorem i32_add {a b : Int32} (h1 : -2147483648 ≤ a.toInt + b.toInt) (h2 : a.toInt + b.toInt < 2147483648) : (a + b).toInt = a.toInt + b.toInt := by
  rw [Int32.toInt_add]; exact Int.bmod_eq_of_le (by simpa using h1) (by simpa using h2)
theorem i32_inc {a : Int32} (h : a.toInt < 2147483647) : (a + 1).toInt = a.toInt + 1 := by
  have e1 : (1 : Int32).toInt = 1 := by decide
  have := i32_b a
  rw [i32_add (by omega) (by omega), e1]
/-- Math.floorMod -/
def fmod (x y : Int32) : Int32 := if 0 ≤ x ^^^ y then x - x / y * y else if x - x / y * y = 0 then x - x / y * y else x - x / y * y + y
/-- thrown, answered, the state behind it -/
abbrev ER : Type := Option String × Int32 × ES
def ck (t : Option String) (E : ES) (k : ER) : ER := match t with
  | some x => (some x, 0, E)
  | none => k
theorem ck_none {t : Option String} {E : ES} {k : ER} (h : t = none) : ck t E k = k := by rw [h]; rfl
theorem ck_some {t : Option String} {E : ES} {k : ER} {x : String} (h : t = some x) : ck t E k = (some x, 0, E) := by rw [h]; rfl
def e_rng (p a b : Int32) : Option String := if p < a then some xIA else if p ≤ b then none else some xIA
def e_acc (p : Int32) : Option String := if p < 0 then some xIO else if p < 8 then none else some xIO
def e_rsn (p : Int32) : Option String := if p < 1 then some xIO else if p ≤ 4 then none else some xIO
def e_fb (n : Nat) (p : Int32) : Option String := if p < 0 then some xIO else if 30 ≤ p then some xIO else if p.toNatClampNeg < n then none else some xIO
def e_hol (E : ES) (d : Int32) : Int32 := if d >>> ((6 : Int32) &&& 31) < 0 then 0 else if 485 ≤ d >>> ((6 : Int32) &&& 31) then 0 else if lg_cmp (((E.2.2 (d >>> ((6 : Int32) &&& 31)).toNatClampNeg).toUInt64 >>> ((d &&& 63).toInt64.toUInt64 &&& Int64.toUInt64 63)).toInt64 &&& 1) 1 = 0 then 1 else 0
def e_khol (E : ES) (d : Int32) : ES := if d >>> ((6 : Int32) &&& 31) < 0 then E else if 485 ≤ d >>> ((6 : Int32) &&& 31) then E else eH E (d >>> ((6 : Int32) &&& 31)).toNatClampNeg (E.2.2 (d >>> ((6 : Int32) &&& 31)).toNatClampNeg ||| ((1 : Int64) <<< ((d &&& 63).toInt64 &&& 63)))
def e_chg (E : ES) (d : Int32) : Int32 := if E.1 12 &&& ((1 : Int32) <<< (fmod d 7 &&& 31)) = 0 then 0 else if e_hol E d = 0 then 1 else 0
def e_fcf (E : ES) : Nat → Int32 → Int32
  | 0, d => d
  | k + 1, d => if e_chg E d = 0 then e_fcf E k (d + 1) else d
def e_ww (E : ES) (k : Int32) (f : Int32) : Int32 := if f = 0 then E.1 12 &&& (((1 : Int32) <<< (k &&& 31)) ^^^ (-1)) else E.1 12 ||| ((1 : Int32) <<< (k &&& 31))
def e_add (E : ES) (d b s : Int32) : ES := eG (eV E 30 (fmod (E.1 13) 400).toNatClampNeg (1000 * d + 10 * b + s)) 13 (E.1 13 + 1)
def e_told (E : ES) : Int32 := if 400 < E.1 13 then 400 else E.1 13
def e_cda (E : ES) (k : Int32) : Int32 := E.2.1 30 (fmod (E.1 13 - 1 - k) 400).toNatClampNeg
/-- the search through the told events, k of them left, the next one at the place i -/
def e_lso (E : ES) (b d : Int32) : Nat → Int32 → Int32
  | 0, _ => -1
  | k + 1, i => if (e_cda E i - e_cda E i / 1000 * 1000) / 10 = b then (if d < e_cda E i / 1000 then e_lso E b d k (i + 1) else e_cda E i - e_cda E i / 10 * 10) else e_lso E b d k (i + 1)
def e_app (E : ES) (i : Nat) (v : Int32) : ES := if E.1 (14 + i) < 0 then E else if 6 ≤ E.1 (14 + i) then E else eG (eV E (20 + i) (E.1 (14 + i)).toNatClampNeg v) (14 + i) (E.1 (14 + i) + 1)
def e_db (E : ES) (i : Nat) (k : Int32) : Int32 := if k < 1 then 0 else if E.1 (14 + i) < k then 0 else if 6 < k then 0 else E.2.1 (20 + i) (k - 1).toNatClampNeg
def e_enter (E : ES) (b : Nat) (s wd : Int32) : ES := e_add (eV (eV E 4 b s) 5 b wd) (E.1 5) (E.2.1 0 b) s
def e_take (E : ES) (b : Nat) (v : Int32) : ES :=
  let E1 := eV E 3 b (E.2.1 3 b - v)
  let E2 := eG E1 9 (E1.1 9 + v)
  let E3 := if E2.2.1 4 b = 5 then eG E2 11 (E2.1 11 + v) else E2
  if E3.2.1 3 b = 0 then e_enter E3 b 6 (-1) else E3
def e_fail (E : ES) (b : Nat) (r : Int32) : ES :=
  let i := (r - 1).toNatClampNeg
  let E1 := eV E (40 + b) i (E.2.1 (40 + b) i + 1)
  let g := e_db E1 i (E1.2.1 (40 + b) i)
  if g = 0 then e_enter E1 b 2 (E1.1 5 + E1.1 6) else e_enter E1 b 0 (e_fcf E1 1000 (E1.1 5 + g))
def e_bp (E : ES) (b : Nat) : ES :=
  let E1 := eV E 8 b (E.2.1 8 b + 1)
  if E1.2.1 9 b = 0 then e_enter E1 b 0 (e_fcf E1 1000 (E1.1 5 + 1)) else e_enter E1 b (E1.2.1 9 b) (E1.1 5 + E1.2.1 10 b)
def e_bt (E : ES) (b : Nat) : Int32 × ES := if e_chg E (E.1 5) = 0 then (0, eV E 5 b (e_fcf E 1000 (E.1 5 + 1))) else (1, e_enter (eV E 6 b (E.2.1 6 b + 1)) b 1 (-1))
def e_look (E : ES) (b : Nat) : Int32 × ES :=
  if E.2.1 4 b = 0 then (if E.1 5 < E.2.1 5 b then (0, E) else e_bt E b)
  else if E.2.1 5 b = E.1 5 then (if E.2.1 4 b = 2 then (0, e_enter E b 3 (E.1 5 + E.1 7)) else if E.2.1 4 b = 3 then (0, e_enter (eG E 10 (E.1 10 + E.2.1 3 b)) b 5 (-1)) else if E.2.1 4 b = 4 then (0, e_bp E b) else (0, E))
  else (0, E)
def e_fut (n : Nat) : Nat → Nat → ES → ES
  | 0, _, E => E
  | k + 1, i, E => e_fut n k (i + 1) (if i < n then (if E.2.1 4 i = 1 then e_fail E i 4 else E) else E)
def e_lab (n : Nat) : Nat → Nat → Int32 → ES → Int32 × ES
  | 0, _, c, E => (c, E)
  | k + 1, i, c, E => if i < n then e_lab n k (i + 1) (if (e_look E i).1 = 0 then c else c + 1) (e_look E i).2 else e_lab n k (i + 1) c E
def e_sw (E : ES) (b : Nat) : Int32 := if E.2.1 4 b = 3 then 0 else if E.2.1 4 b = 5 then 0 else if E.2.1 4 b = 4 then (if E.2.1 4 b = 2 then 1 else if E.2.1 9 b = 0 then 2 else 1) else if E.2.1 4 b = 2 then 1 else 2
end
section
theorem xor_neg (x y : Int32) : (x ^^^ y).toInt < 0 ↔ ¬ (x.toInt < 0 ↔ y.toInt < 0) := by
  have h : ∀ z : Int32, z.toInt < 0 ↔ z.toBitVec.msb = true := fun z => by
    rw [BitVec.msb_eq_toInt, decide_eq_true_eq]; rfl
  rw [h, h, h, Int32.toBitVec_xor, BitVec.msb_xor]
  cases x.toBitVec.msb <;> cases y.toBitVec.msb <;> simp
theorem fmod_fmv {x m : Int32} (hm : 0 < m.toInt) : fmod x m = fmv x m := by
  have z0 : (0 : Int32).toInt = 0 := by decide
  have hx := xor_neg x m
  have hr := rem_toInt x m
  obtain ⟨b1, b2⟩ := tmod_bounds (a := x.toInt) hm
  unfold fmod fmv fmOf
  simp only [i32_le, z0, ← Int32.toInt_inj, hr]
  by_cases h : x.toInt < 0
  · have h1 : ¬ 0 ≤ (x ^^^ m).toInt := by have := hx.mpr (by omega); omega
    rw [if_neg h1]
    have h2 : x.toInt.tmod m.toInt ≤ 0 := by
      have := Int.tmod_nonneg (a := - x.toInt) m.toInt (by omega)
      rw [Int.neg_tmod] at this; omega
    by_cases h3 : x.toInt.tmod m.toInt = 0
    · rw [if_pos h3, if_pos (by omega)]
    · rw [if_neg h3, if_neg (by omega)]
  · have h1 : 0 ≤ (x ^^^ m).toInt := by
      have := fun z => hx.mp z
      omega
    have h2 := Int.tmod_nonneg (a := x.toInt) m.toInt (by omega)
    rw [if_pos h1, if_pos h2]
theorem fmod_in {x m : Int32} {k : Nat} (hm : m.toInt = k) (hk : 0 < k) : vp_in (fmod x m) k := by
  rw [fmod_fmv (by omega), vp_in_iff]
  have := fmv_bounds (a := x) (m := m) (by omega)
  omega
set_option maxRecDepth 100000 in
set_option maxHeartbeats 4000000 in
theorem c_J9_floorMod_7cf53 {l : Launch} {D : va_G} {cs : Nat → ClassId} {sa : Nat → Nat} (hl : l.stackTraces = false)  {w : va_W} {x y : Int32} (hy : ¬ y = 0) : CM l D cs sa yJ9_floorMod_7cf53 cJ9_floorMod_7cf53 3 (Option.some Jvm.ClassFile.FieldType.int) (RM 0 0 0) 0 0 [.int x, .int y] w (none, some (.int (fmod x y)), w) := by
  refine CM.ofF RJ9 hl (by decide +kernel) rfl (Nat.le_of_ble_eq_true rfl) ?_
  intro p e s m args below meth c A hc ho hmn
  refine j_iload_n hc dJ9_floorMod_7cf53_0 rfl ?_
  refine j_iload_n hc dJ9_floorMod_7cf53_1 rfl ?_
  refine j_irem hc dJ9_floorMod_7cf53_2 hy ?_
  refine j_istore_n hc dJ9_floorMod_7cf53_3 rfl ?_
  refine j_iload_n hc dJ9_floorMod_7cf53_4 rfl ?_
  refine j_iload_n hc dJ9_floorMod_7cf53_5 rfl ?_
  refine j_ixor hc dJ9_floorMod_7cf53_6 ?_
  refine j_if_ge hc 18 dJ9_floorMod_7cf53_7 (by decide) (fun h7 => ?_) (fun h7 => ?_)
  · -- if_pos h7
    refine j_iload_n hc dJ9_floorMod_7cf53_18 rfl ?_
    exact j_iret hc rfl (by decide) (by decide) (by simp only [fmod, if_pos h7] <;> rfl) dJ9_floorMod_7cf53_19
  · -- if_neg h7
    refine j_iload_n hc dJ9_floorMod_7cf53_10 rfl ?_
    refine j_if_eq hc 18 dJ9_floorMod_7cf53_11 (by decide) (fun h11 => ?_) (fun h11 => ?_)
    · -- if_pos h11
      refine j_iload_n hc dJ9_floorMod_7cf53_18 rfl ?_
      exact j_iret hc rfl (by decide) (by decide) (by simp only [fmod, if_neg h7, if_pos h11] <;> rfl) dJ9_floorMod_7cf53_19
    · -- if_neg h11
      refine j_iload_n hc dJ9_floorMod_7cf53_14 rfl ?_
      refine j_iload_n hc dJ9_floorMod_7cf53_15 rfl ?_
      refine j_iadd hc dJ9_floorMod_7cf53_16 ?_
      exact j_iret hc rfl (by decide) (by decide) (by simp only [fmod, if_neg h7, if_neg h11] <;> rfl) dJ9_floorMod_7cf53_17
set_option maxRecDepth 100000 in
set_option maxHeartbeats 4000000 in
theorem c_X1_weekdaysWith {l : Launch} {D : va_G} {cs : Nat → ClassId} {sa : Nat → Nat} (hl : l.stackTraces = false)  {ad : Nat → Nat} {n : Nat} {E : ES} {S : MS} {o : Nat → Int64} {k f : Int32} : CM l D cs sa yX1_weekdaysWith cX1_weekdaysWith 4 (Option.some Jvm.ClassFile.FieldType.int) (RM 0 0 0) 0 0 [.ref (ad 1), .int k, .int f] (WD ad cs n E S o) (none, some (.int (e_ww E k f)), (WD ad cs n E S o)) := by
  refine CM.of RX1 hl (by decide +kernel) rfl (Nat.le_of_ble_eq_true rfl) ?_
  intro p e s m args below meth c A hc ho hmn
  refine j_iconst hc (v := 1) dX1_weekdaysWith_0 (by decide) ?_
  refine j_iload_n hc dX1_weekdaysWith_1 rfl ?_
  refine j_ishl hc dX1_weekdaysWith_2 ?_
  refine j_istore_n hc dX1_weekdaysWith_3 rfl ?_
  refine j_iload_n hc dX1_weekdaysWith_4 rfl ?_
  refine j_if_eq hc 17 dX1_weekdaysWith_5 (by decide) (fun h5 => ?_) (fun h5 => ?_)
  · -- if_pos h5
    refine j_aload_n hc dX1_weekdaysWith_17 rfl ?_
    refine gf_X1_9 hc dX1_weekdaysWith_18 ?_
    refine j_iload_n hc dX1_weekdaysWith_21 rfl ?_
    refine j_iconst hc (v := -1) dX1_weekdaysWith_22 (by decide) ?_
    refine j_ixor hc dX1_weekdaysWith_23 ?_
    refine j_iand hc dX1_weekdaysWith_24 ?_
    exact j_iret hc rfl (by decide) (by decide) (by simp only [e_ww, if_pos h5] <;> rfl) dX1_weekdaysWith_25
  · -- if_neg h5
    refine j_aload_n hc dX1_weekdaysWith_8 rfl ?_
    refine gf_X1_9 hc dX1_weekdaysWith_9 ?_
    refine j_iload_n hc dX1_weekdaysWith_12 rfl ?_
    refine j_ior hc dX1_weekdaysWith_13 ?_
    refine j_goto hc 25 dX1_weekdaysWith_14 (by decide) ?_
    exact j_iret hc rfl (by decide) (by decide) (by simp only [e_ww, if_neg h5] <;> rfl) dX1_weekdaysWith_25
set_option maxRecDepth 100000 in
set_option maxHeartbeats 4000000 in
theorem c_X1_isHoliday {l : Launch} {D : va_G} {cs : Nat → ClassId} {sa : Nat → Nat} (hl : l.stackTraces = false)  {ad : Nat → Nat} {n : Nat} {E : ES} {S : MS} {o : Nat → Int64} {d : Int32} : CM l D cs sa yX1_isHoliday cX1_isHoliday 3 (Option.some Jvm.ClassFile.FieldType.boolean) (RM 0 0 0) 0 0 [.ref (ad 1), .int d] (WD ad cs n E S o) (none, some (.int (e_hol E d)), (WD ad cs n E S o)) := by
  refine CM.of RX1 hl (by decide +kernel) rfl (Nat.le_of_ble_eq_true rfl) ?_
  intro p e s m args below meth c A hc ho hmn
  refine j_iload_n hc dX1_isHoliday_0 rfl ?_
  refine j_bipush hc (v := 6) dX1_isHoliday_1 (by decide) ?_
  refine j_ishr hc dX1_isHoliday_3 ?_
  refine j_istore_n hc dX1_isHoliday_4 rfl ?_
  refine j_iload_n hc dX1_isHoliday_5 rfl ?_
  refine j_if_lt hc 40 dX1_isHoliday_6 (by decide) (fun h6 => ?_) (fun h6 => ?_)
  · -- if_pos h6
    refine j_iconst hc (v := 0) dX1_isHoliday_40 (by decide) ?_
    exact j_zret hc rfl rfl (by decide) (by decide) (by simp only [e_hol, if_pos h6] <;> rfl) dX1_isHoliday_41
  · -- if_neg h6
    refine j_iload_n hc dX1_isHoliday_9 rfl ?_
    refine j_aload_n hc dX1_isHoliday_10 rfl ?_
    refine gf_X1_13 hc dX1_isHoliday_11 ?_
    refine ln_hol hc dX1_isHoliday_14 ?_
    refine j_icmp_ge hc 40 dX1_isHoliday_15 (by decide) (fun h15 => ?_) (fun h15 => ?_)
    · -- if_pos h15
      refine j_iconst hc (v := 0) dX1_isHoliday_40 (by decide) ?_
      exact j_zret hc rfl rfl (by decide) (by decide) (by simp only [e_hol, if_neg h6, if_pos h15] <;> rfl) dX1_isHoliday_41
    · -- if_neg h15
      refine j_aload_n hc dX1_isHoliday_18 rfl ?_
      refine gf_X1_13 hc dX1_isHoliday_19 ?_
      refine j_iload_n hc dX1_isHoliday_22 rfl ?_
      refine al_hol hc (vpi (n := 485) h6 h15 (by decide)) dX1_isHoliday_23 ?_
      refine j_iload_n hc dX1_isHoliday_24 rfl ?_
      refine j_bipush hc (v := 63) dX1_isHoliday_25 (by decide) ?_
      refine j_iand hc dX1_isHoliday_27 ?_
      refine j_lushr hc dX1_isHoliday_28 ?_
      refine j_lconst hc (v := 1) dX1_isHoliday_29 (by decide) ?_
      refine j_land hc dX1_isHoliday_30 ?_
      refine j_lconst hc (v := 1) dX1_isHoliday_31 (by decide) ?_
      refine j_lcmp hc dX1_isHoliday_32 ?_
      refine j_if_ne hc 40 dX1_isHoliday_33 (by decide) (fun h33 => ?_) (fun h33 => ?_)
      · -- if_neg h33
        refine j_iconst hc (v := 0) dX1_isHoliday_40 (by decide) ?_
        exact j_zret hc rfl rfl (by decide) (by decide) (by simp only [e_hol, if_neg h6, if_neg h15, if_neg h33] <;> rfl) dX1_isHoliday_41
      · -- if_pos h33
        refine j_iconst hc (v := 1) dX1_isHoliday_36 (by decide) ?_
        refine j_goto hc 41 dX1_isHoliday_37 (by decide) ?_
        exact j_zret hc rfl rfl (by decide) (by decide) (by simp only [e_hol, if_neg h6, if_neg h15, if_pos h33] <;> rfl) dX1_isHoliday_41
set_option maxRecDepth 100000 in
set_option maxHeartbeats 4000000 in
theorem c_X1_keepHoliday {l : Launch} {D : va_G} {cs : Nat → ClassId} {sa : Nat → Nat} (hl : l.stackTraces = false)  {ad : Nat → Nat} {n : Nat} {E : ES} {S : MS} {o : Nat → Int64} {d : Int32} : CM l D cs sa yX1_keepHoliday cX1_keepHoliday 3 (Option.none : Option Jvm.ClassFile.FieldType) (RM 0 0 0) 0 0 [.ref (ad 1), .int d] (WD ad cs n E S o) (none, none, WD ad cs n (e_khol E d) S o) := by
  refine CM.of RX1 hl (by decide +kernel) rfl (Nat.le_of_ble_eq_true rfl) ?_
  intro p e s m args below meth c A hc ho hmn
  refine j_iload_n hc dX1_keepHoliday_0 rfl ?_
  refine j_bipush hc (v := 6) dX1_keepHoliday_1 (by decide) ?_
  refine j_ishr hc dX1_keepHoliday_3 ?_
  refine j_istore_n hc dX1_keepHoliday_4 rfl ?_
  refine j_iload_n hc dX1_keepHoliday_5 rfl ?_
  refine j_if_lt hc 33 dX1_keepHoliday_6 (by decide) (fun h6 => ?_) (fun h6 => ?_)
  · -- if_pos h6
    exact j_vret hc rfl (by decide) (by decide) (by simp only [e_khol, if_pos h6] <;> rfl) dX1_keepHoliday_33
  · -- if_neg h6
    refine j_iload_n hc dX1_keepHoliday_9 rfl ?_
    refine j_aload_n hc dX1_keepHoliday_10 rfl ?_
    refine gf_X1_13 hc dX1_keepHoliday_11 ?_
    refine ln_hol hc dX1_keepHoliday_14 ?_
    refine j_icmp_ge hc 33 dX1_keepHoliday_15 (by decide) (fun h15 => ?_) (fun h15 => ?_)
    · -- if_pos h15
      exact j_vret hc rfl (by decide) (by decide) (by simp only [e_khol, if_neg h6, if_pos h15] <;> rfl) dX1_keepHoliday_33
    · -- if_neg h15
      refine j_aload_n hc dX1_keepHoliday_18 rfl ?_
      refine gf_X1_13 hc dX1_keepHoliday_19 ?_
      refine j_iload_n hc dX1_keepHoliday_22 rfl ?_
      refine j_dup2 hc dX1_keepHoliday_23 rfl rfl ?_
      refine al_hol hc (vpi (n := 485) h6 h15 (by decide)) dX1_keepHoliday_24 ?_
      refine j_lconst hc (v := 1) dX1_keepHoliday_25 (by decide) ?_
      refine j_iload_n hc dX1_keepHoliday_26 rfl ?_
      refine j_bipush hc (v := 63) dX1_keepHoliday_27 (by decide) ?_
      refine j_iand hc dX1_keepHoliday_29 ?_
      refine j_lshl hc dX1_keepHoliday_30 ?_
      refine j_lor hc dX1_keepHoliday_31 ?_
      refine as_hol hc (vpi (n := 485) h6 h15 (by decide)) dX1_keepHoliday_32 ?_
      exact j_vret hc rfl (by decide) (by decide) (by simp only [e_khol, if_neg h6, if_neg h15] <;> rfl) dX1_keepHoliday_33
set_option maxRecDepth 100000 in
set_option maxHeartbeats 4000000 in
theorem c_X1_allowsCharging {l : Launch} {D : va_G} {cs : Nat → ClassId} {sa : Nat → Nat} (hl : l.stackTraces = false)  {ad : Nat → Nat} {n : Nat} {E : ES} {S : MS} {o : Nat → Int64} {d : Int32} : CM l D cs sa yX1_allowsCharging cX1_allowsCharging 3 (Option.some Jvm.ClassFile.FieldType.boolean) (RM 1 0 0) 0 0 [.ref (ad 1), .int d] (WD ad cs n E S o) (none, some (.int (e_chg E d)), (WD ad cs n E S o)) := by
  refine CM.of RX1 hl (by decide +kernel) rfl (Nat.le_of_ble_eq_true rfl) ?_
  intro p e s m args below meth c A hc ho hmn
  refine j_iconst hc (v := 1) dX1_allowsCharging_0 (by decide) ?_
  refine j_iload_n hc dX1_allowsCharging_1 rfl ?_
  refine j_bipush hc (v := 7) dX1_allowsCharging_2 (by decide) ?_
  refine j_callS hc ho (c_J9_floorMod_7cf53 (y := 7) hl (by decide)) sc_X1_17 rfl ⟨rfl, rfl, by decide, by decide⟩ rfl (Nat.le_of_ble_eq_true rfl) ⟨by decide, by decide⟩ dX1_allowsCharging_4 ⟨by decide, by decide⟩ (fun _ h => by cases h) (fun hr4 => ?_)
  refine j_ishl hc dX1_allowsCharging_7 ?_
  refine j_istore_n hc dX1_allowsCharging_8 rfl ?_
  refine j_aload_n hc dX1_allowsCharging_9 rfl ?_
  refine gf_X1_9 hc dX1_allowsCharging_10 ?_
  refine j_iload_n hc dX1_allowsCharging_13 rfl ?_
  refine j_iand hc dX1_allowsCharging_14 ?_
  refine j_if_eq hc 30 dX1_allowsCharging_15 (by decide) (fun h15 => ?_) (fun h15 => ?_)
  · -- if_pos h15
    refine j_iconst hc (v := 0) dX1_allowsCharging_30 (by decide) ?_
    exact j_zret hc rfl rfl (by decide) (by decide) (by simp only [e_chg, if_pos h15] <;> rfl) dX1_allowsCharging_31
  · -- if_neg h15
    refine j_aload_n hc dX1_allowsCharging_18 rfl ?_
    refine j_iload_n hc dX1_allowsCharging_19 rfl ?_
    refine j_callV hc ho (c_X1_isHoliday hl) vc_X1_23 rfl ⟨rfl, rfl, by decide, by decide⟩ 1 rfl rfl rfl (Nat.le_of_ble_eq_true rfl) ⟨by decide, by decide⟩ dX1_allowsCharging_20 ⟨by decide, by decide⟩ (fun _ h => by cases h) (fun hr20 => ?_)
    refine j_if_ne hc 30 dX1_allowsCharging_23 (by decide) (fun h23 => ?_) (fun h23 => ?_)
    · -- if_neg h23
      refine j_iconst hc (v := 0) dX1_allowsCharging_30 (by decide) ?_
      exact j_zret hc rfl rfl (by decide) (by decide) (by simp only [e_chg, if_neg h15, if_neg h23] <;> rfl) dX1_allowsCharging_31
    · -- if_pos h23
      refine j_iconst hc (v := 1) dX1_allowsCharging_26 (by decide) ?_
      refine j_goto hc 31 dX1_allowsCharging_27 (by decide) ?_
      exact j_zret hc rfl rfl (by decide) (by decide) (by simp only [e_chg, if_neg h15, if_pos h23] <;> rfl) dX1_allowsCharging_31
set_option maxRecDepth 100000 in
set_option maxHeartbeats 4000000 in
theorem c_X1_firstChargingFrom {l : Launch} {D : va_G} {cs : Nat → ClassId} {sa : Nat → Nat} (hl : l.stackTraces = false)  {ad : Nat → Nat} {n : Nat} {E : ES} {S : MS} {o : Nat → Int64} {d : Int32} : CM l D cs sa yX1_firstChargingFrom cX1_firstChargingFrom 4 (Option.some Jvm.ClassFile.FieldType.int) (RM 2 0 0) 0 0 [.ref (ad 1), .int d] (WD ad cs n E S o) (none, some (.int (e_fcf E 1000 d)), (WD ad cs n E S o)) := by
  refine CM.of RX1 hl (by decide +kernel) rfl (Nat.le_of_ble_eq_true rfl) ?_
  intro p e s m args below meth c A hc ho hmn
  have loop : ∀ (k i : Nat) (d0 : Int32), i + k = 1000 → e_fcf E 1000 d = e_fcf E k d0 → J p l e (RM 2 0 0) s m args below meth c D A 4 0 0 (QE below args s D A 0 0 (WD ad cs n E S o) (none, some (.int (e_fcf E 1000 d)), WD ad cs n E S o)) (WD ad cs n E S o) 4 [(0, .ref (ad 1)), (2, .int d0), (3, .int (nI i))] [] := by
    intro k
    induction k with
    | zero =>
      intro i d0 hi hd
      refine j_iload_n hc dX1_firstChargingFrom_4 rfl ?_
      refine j_sipush hc (v := 1000) dX1_firstChargingFrom_5 (by decide) ?_
      refine j_icmp_ge hc 28 dX1_firstChargingFrom_8 (by decide) (fun h8 => ?_) (fun h8 => by exact absurd h8 (fun z => z (nI_le (a := 1000) (by omega) (by omega))))
      refine j_iload_n hc dX1_firstChargingFrom_28 rfl ?_
      exact j_iret hc rfl (by decide) (by decide) (by rw [hd]; rfl) dX1_firstChargingFrom_29
    | succ k ih =>
      intro i d0 hi hd
      refine j_iload_n hc dX1_firstChargingFrom_4 rfl ?_
      refine j_sipush hc (v := 1000) dX1_firstChargingFrom_5 (by decide) ?_
      refine j_icmp_ge hc 28 dX1_firstChargingFrom_8 (by decide) (fun h8 => by exact absurd h8 (nI_ge (b := 1000) (by omega) (by omega))) (fun h8 => ?_)
      refine j_aload_n hc dX1_firstChargingFrom_11 rfl ?_
      refine j_iload_n hc dX1_firstChargingFrom_12 rfl ?_
      refine j_callV hc ho (c_X1_allowsCharging hl) vc_X1_27 rfl ⟨rfl, rfl, by decide, by decide⟩ 1 rfl rfl rfl (Nat.le_of_ble_eq_true rfl) ⟨by decide, by decide⟩ dX1_firstChargingFrom_13 ⟨by decide, by decide⟩ (fun _ h => by cases h) (fun hr13 => ?_)
      refine j_if_ne hc 28 dX1_firstChargingFrom_16 (by decide) (fun h16 => ?_) (fun h16 => ?_)
      · -- if_neg h16
        refine j_iload_n hc dX1_firstChargingFrom_28 rfl ?_
        exact j_iret hc rfl (by decide) (by decide) (by rw [hd]; simp only [e_fcf, if_neg h8, if_neg h16]) dX1_firstChargingFrom_29
      · -- if_pos h16
        refine j_inc hc dX1_firstChargingFrom_19 rfl (z := 1) (by decide) rfl ?_
        refine j_inc hc dX1_firstChargingFrom_22 rfl (z := 1) (by decide) rfl ?_
        refine j_goto hc 4 dX1_firstChargingFrom_25 (by decide) ?_
        refine j_lv [(0, .ref (ad 1)), (2, .int (d0 + 1)), (3, .int (nI i + 1))] ⟨rfl, rfl, rfl, trivial⟩ ?_
        rw [nI_1]
        exact ih (i + 1) (d0 + 1) (by omega) (by rw [hd]; simp only [e_fcf, if_neg h8, if_pos h16])
  refine j_iload_n hc dX1_firstChargingFrom_0 rfl ?_
  refine j_istore_n hc dX1_firstChargingFrom_1 rfl ?_
  refine j_iconst hc (v := 0) dX1_firstChargingFrom_2 (by decide) ?_
  refine j_istore_n hc dX1_firstChargingFrom_3 rfl ?_
  refine j_lv [(0, .ref (ad 1)), (2, .int d), (3, .int (nI 0))] ⟨rfl, rfl, rfl, trivial⟩ ?_
  exact loop 1000 0 d rfl rfl
set_option maxRecDepth 100000 in
set_option maxHeartbeats 4000000 in
theorem c_X2_add {l : Launch} {D : va_G} {cs : Nat → ClassId} {sa : Nat → Nat} (hl : l.stackTraces = false)  {ad : Nat → Nat} {n : Nat} {E : ES} {S : MS} {o : Nat → Int64} {d b s0 : Int32} : CM l D cs sa yX2_add cX2_add 4 (Option.none : Option Jvm.ClassFile.FieldType) (RM 1 0 0) 0 0 [.ref (ad 13), .int d, .int b, .int s0] (WD ad cs n E S o) (none, none, WD ad cs n (e_add E d b s0) S o) := by
  refine CM.of RX2 hl (by decide +kernel) rfl (Nat.le_of_ble_eq_true rfl) ?_
  intro p e s m args below meth c A hc ho hmn
  refine j_aload_n hc dX2_add_0 rfl ?_
  refine gf_X2_9 hc dX2_add_1 ?_
  refine j_aload_n hc dX2_add_4 rfl ?_
  refine gf_X2_15 hc dX2_add_5 ?_
  refine j_sipush hc (v := 400) dX2_add_8 (by decide) ?_
  refine j_callS hc ho (c_J9_floorMod_7cf53 (y := 400) hl (by decide)) sc_X2_19 rfl ⟨rfl, rfl, by decide, by decide⟩ rfl (Nat.le_of_ble_eq_true rfl) ⟨by decide, by decide⟩ dX2_add_11 ⟨by decide, by decide⟩ (fun _ h => by cases h) (fun hr11 => ?_)
  refine j_sipush hc (v := 1000) dX2_add_14 (by decide) ?_
  refine j_iload_n hc dX2_add_17 rfl ?_
  refine j_imul hc dX2_add_18 ?_
  refine j_bipush hc (v := 10) dX2_add_19 (by decide) ?_
  refine j_iload_n hc dX2_add_21 rfl ?_
  refine j_imul hc dX2_add_22 ?_
  refine j_iadd hc dX2_add_23 ?_
  refine j_iload_n hc dX2_add_24 rfl ?_
  refine j_iadd hc dX2_add_25 ?_
  refine as_codes hc (fmod_in (by decide) (by decide)) dX2_add_26 ?_
  refine j_aload_n hc dX2_add_27 rfl ?_
  refine j_dup hc dX2_add_28 rfl ?_
  refine gf_X2_15 hc dX2_add_29 ?_
  refine j_iconst hc (v := 1) dX2_add_32 (by decide) ?_
  refine j_iadd hc dX2_add_33 ?_
  refine pf_X2_15 hc dX2_add_34 ?_
  exact j_vret hc rfl (by decide) (by decide) (rfl) dX2_add_37
set_option maxRecDepth 100000 in
set_option maxHeartbeats 4000000 in
theorem c_X2_told {l : Launch} {D : va_G} {cs : Nat → ClassId} {sa : Nat → Nat} (hl : l.stackTraces = false)  {ad : Nat → Nat} {n : Nat} {E : ES} {S : MS} {o : Nat → Int64} : CM l D cs sa yX2_told cX2_told 1 (Option.some Jvm.ClassFile.FieldType.int) (RM 1 0 0) 0 0 [.ref (ad 13)] (WD ad cs n E S o) (none, some (.int (e_told E)), (WD ad cs n E S o)) := by
  refine CM.of RX2 hl (by decide +kernel) rfl (Nat.le_of_ble_eq_true rfl) ?_
  intro p e s m args below meth c A hc ho hmn
  refine j_aload_n hc dX2_told_0 rfl ?_
  refine gf_X2_15 hc dX2_told_1 ?_
  refine j_sipush hc (v := 400) dX2_told_4 (by decide) ?_
  refine j_min_X2_25 hc (by decide) (Nat.le_of_ble_eq_true rfl) (by decide) (by decide) dX2_told_7 ?_
  exact j_iret hc rfl (by decide) (by decide) rfl dX2_told_10
set_option maxRecDepth 100000 in
set_option maxHeartbeats 4000000 in
theorem c_X2_codeAt {l : Launch} {D : va_G} {cs : Nat → ClassId} {sa : Nat → Nat} (hl : l.stackTraces = false)  {ad : Nat → Nat} {n : Nat} {E : ES} {S : MS} {o : Nat → Int64} {k : Int32} : CM l D cs sa yX2_codeAt cX2_codeAt 2 (Option.some Jvm.ClassFile.FieldType.int) (RM 1 0 0) 0 0 [.ref (ad 13), .int k] (WD ad cs n E S o) (none, some (.int (e_cda E k)), (WD ad cs n E S o)) := by
  refine CM.of RX2 hl (by decide +kernel) rfl (Nat.le_of_ble_eq_true rfl) ?_
  intro p e s m args below meth c A hc ho hmn
  refine j_aload_n hc dX2_codeAt_0 rfl ?_
  refine gf_X2_9 hc dX2_codeAt_1 ?_
  refine j_aload_n hc dX2_codeAt_4 rfl ?_
  refine gf_X2_15 hc dX2_codeAt_5 ?_
  refine j_iconst hc (v := 1) dX2_codeAt_8 (by decide) ?_
  refine j_isub hc dX2_codeAt_9 ?_
  refine j_iload_n hc dX2_codeAt_10 rfl ?_
  refine j_isub hc dX2_codeAt_11 ?_
  refine j_sipush hc (v := 400) dX2_codeAt_12 (by decide) ?_
  refine j_callS hc ho (c_J9_floorMod_7cf53 (y := 400) hl (by decide)) sc_X2_19 rfl ⟨rfl, rfl, by decide, by decide⟩ rfl (Nat.le_of_ble_eq_true rfl) ⟨by decide, by decide⟩ dX2_codeAt_15 ⟨by decide, by decide⟩ (fun _ h => by cases h) (fun hr15 => ?_)
  refine al_codes hc (fmod_in (by decide) (by decide)) dX2_codeAt_18 ?_
  exact j_iret hc rfl (by decide) (by decide) (rfl) dX2_codeAt_19
set_option maxRecDepth 100000 in
set_option maxHeartbeats 4000000 in
theorem c_X2_lastStateOf {l : Launch} {D : va_G} {cs : Nat → ClassId} {sa : Nat → Nat} (hl : l.stackTraces = false)  {ad : Nat → Nat} {n : Nat} {E : ES} {S : MS} {o : Nat → Int64} {b d : Int32} (hE : 0 ≤ (e_told E).toInt) : CM l D cs sa yX2_lastStateOf cX2_lastStateOf 7 (Option.some Jvm.ClassFile.FieldType.int) (RM 2 0 0) 0 0 [.ref (ad 13), .int b, .int d] (WD ad cs n E S o) (none, some (.int (e_lso E b d (e_told E).toNatClampNeg 0)), WD ad cs n E S o) := by
  refine CM.of RX2 hl (by decide +kernel) rfl (Nat.le_of_ble_eq_true rfl) ?_
  intro p e s m args below meth c A hc ho hmn
  have loop : ∀ (k : Nat) (i : Int32), 0 ≤ i.toInt → i.toInt + k = (e_told E).toInt → e_lso E b d (e_told E).toNatClampNeg 0 = e_lso E b d k i → J p l e (RM 2 0 0) s m args below meth c D A 7 0 0 (QE below args s D A 0 0 (WD ad cs n E S o) (none, some (.int (e_lso E b d (e_told E).toNatClampNeg 0)), WD ad cs n E S o)) (WD ad cs n E S o) 8 [(0, .ref (ad 13)), (1, .int b), (2, .int d), (3, .int (e_told E)), (4, .int i)] [] := by
    intro k
    induction k with
    | zero =>
      intro i h0 hi hd
      refine j_iload hc dX2_lastStateOf_8 rfl ?_
      refine j_iload_n hc dX2_lastStateOf_10 rfl ?_
      refine j_icmp_ge hc 69 dX2_lastStateOf_11 (by decide) (fun h11 => ?_) (fun h11 => by exact absurd h11 (fun z => z (by rw [i32_le]; omega)))
      refine j_iconst hc (v := -1) dX2_lastStateOf_69 (by decide) ?_
      exact j_iret hc rfl (by decide) (by decide) (by rw [hd]; rfl) dX2_lastStateOf_70
    | succ k ih =>
      intro i h0 hi hd
      have hb := i32_b (e_told E)
      have hi1 : (i + 1).toInt = i.toInt + 1 := i32_inc (by omega)
      refine j_iload hc dX2_lastStateOf_8 rfl ?_
      refine j_iload_n hc dX2_lastStateOf_10 rfl ?_
      refine j_icmp_ge hc 69 dX2_lastStateOf_11 (by decide) (fun h11 => by exact absurd h11 (by rw [i32_le]; omega)) (fun h11 => ?_)
      refine j_aload_n hc dX2_lastStateOf_14 rfl ?_
      refine j_iload hc dX2_lastStateOf_15 rfl ?_
      refine j_callV hc ho (c_X2_codeAt hl) vc_X2_32 rfl ⟨rfl, rfl, by decide, by decide⟩ 13 rfl rfl rfl (Nat.le_of_ble_eq_true rfl) ⟨by decide, by decide⟩ dX2_lastStateOf_17 ⟨by decide, by decide⟩ (fun _ h => by cases h) (fun hr17 => ?_)
      refine j_istore hc dX2_lastStateOf_20 rfl ?_
      refine j_iload hc dX2_lastStateOf_22 rfl ?_
      refine j_sipush hc (v := 1000) dX2_lastStateOf_24 (by decide) ?_
      refine j_irem hc dX2_lastStateOf_27 (by decide) ?_
      refine j_bipush hc (v := 10) dX2_lastStateOf_28 (by decide) ?_
      refine j_idiv hc dX2_lastStateOf_30 (by decide) ?_
      refine j_iload_n hc dX2_lastStateOf_31 rfl ?_
      refine j_icmp_ne hc 39 dX2_lastStateOf_32 (by decide) (fun h32 => ?_) (fun h32 => ?_)
      · -- if_neg h32
        refine j_iconst hc (v := 0) dX2_lastStateOf_39 (by decide) ?_
        refine j_istore hc dX2_lastStateOf_40 rfl ?_
        refine j_iload hc dX2_lastStateOf_42 rfl ?_
        refine j_if_eq hc 63 dX2_lastStateOf_44 (by decide) (fun h44 => ?_) (fun h44 => by exact absurd (show ¬ (0 : Int32) = (0 : Int32) from h44) (by decide))
        refine j_inc hc dX2_lastStateOf_63 rfl (z := 1) (by decide) rfl ?_
        refine j_goto hc 8 dX2_lastStateOf_66 (by decide) ?_
        refine j_lv [(0, .ref (ad 13)), (1, .int b), (2, .int d), (3, .int (e_told E)), (4, .int (i + 1))] ⟨rfl, rfl, rfl, rfl, rfl, trivial⟩ ?_
        exact ih (i + 1) (by omega) (by omega) (by rw [hd]; simp only [e_lso, if_neg h11, if_neg h32])
      · -- if_pos h32
        refine j_iconst hc (v := 1) dX2_lastStateOf_35 (by decide) ?_
        refine j_goto hc 40 dX2_lastStateOf_36 (by decide) ?_
        refine j_istore hc dX2_lastStateOf_40 rfl ?_
        refine j_iload hc dX2_lastStateOf_42 rfl ?_
        refine j_if_eq hc 63 dX2_lastStateOf_44 (by decide) (fun h44 => by exact absurd (show (1 : Int32) = (0 : Int32) from h44) (by decide)) (fun h44 => ?_)
        refine j_iload hc dX2_lastStateOf_47 rfl ?_
        refine j_sipush hc (v := 1000) dX2_lastStateOf_49 (by decide) ?_
        refine j_idiv hc dX2_lastStateOf_52 (by decide) ?_
        refine j_iload_n hc dX2_lastStateOf_53 rfl ?_
        refine j_icmp_gt hc 63 dX2_lastStateOf_54 (by decide) (fun h54 => ?_) (fun h54 => ?_)
        · -- if_pos h54
          refine j_inc hc dX2_lastStateOf_63 rfl (z := 1) (by decide) rfl ?_
          refine j_goto hc 8 dX2_lastStateOf_66 (by decide) ?_
          refine j_lv [(0, .ref (ad 13)), (1, .int b), (2, .int d), (3, .int (e_told E)), (4, .int (i + 1))] ⟨rfl, rfl, rfl, rfl, rfl, trivial⟩ ?_
          exact ih (i + 1) (by omega) (by omega) (by rw [hd]; simp only [e_lso, if_neg h11, if_pos h32, if_pos h54])
        · -- if_neg h54
          refine j_iload hc dX2_lastStateOf_57 rfl ?_
          refine j_bipush hc (v := 10) dX2_lastStateOf_59 (by decide) ?_
          refine j_irem hc dX2_lastStateOf_61 (by decide) ?_
          exact j_iret hc rfl (by decide) (by decide) (by rw [hd]; simp only [e_lso, if_neg h11, if_pos h32, if_neg h54]) dX2_lastStateOf_62
  refine j_aload_n hc dX2_lastStateOf_0 rfl ?_
  refine j_callV hc ho (c_X2_told hl) vc_X2_28 rfl ⟨rfl, rfl, by decide, by decide⟩ 13 rfl rfl rfl (Nat.le_of_ble_eq_true rfl) ⟨by decide, by decide⟩ dX2_lastStateOf_1 ⟨by decide, by decide⟩ (fun _ h => by cases h) (fun hr1 => ?_)
  refine j_istore_n hc dX2_lastStateOf_4 rfl ?_
  refine j_iconst hc (v := 0) dX2_lastStateOf_5 (by decide) ?_
  refine j_istore hc dX2_lastStateOf_6 rfl ?_
  refine j_lv [(0, .ref (ad 13)), (1, .int b), (2, .int d), (3, .int (e_told E)), (4, .int 0)] ⟨rfl, rfl, rfl, rfl, rfl, trivial⟩ ?_
  exact loop (e_told E).toNatClampNeg 0 (by decide) (by rw [show (0 : Int32).toInt = 0 by decide]; show 0 + ((e_told E).toInt.toNat : Int) = _; omega) rfl
set_option maxRecDepth 100000 in
set_option maxHeartbeats 4000000 in
theorem c_X3_append {l : Launch} {D : va_G} {cs : Nat → ClassId} {sa : Nat → Nat} (hl : l.stackTraces = false)  {ad : Nat → Nat} {n : Nat} {E : ES} {S : MS} {o : Nat → Int64} {i : Nat} (hi : i < 4) {v : Int32} : CM l D cs sa yX3_append cX3_append 2 (Option.none : Option Jvm.ClassFile.FieldType) (RM 0 0 0) 0 0 [.ref (ad (4 + 2 * i)), .int v] (WD ad cs n E S o) (none, none, WD ad cs n (e_app E i v) S o) := by
  refine CM.of RX3 hl (by decide +kernel) rfl (Nat.le_of_ble_eq_true rfl) ?_
  intro p e s m args below meth c A hc ho hmn
  refine j_aload_n hc dX3_append_0 rfl ?_
  refine gf_X3_15 hc hi dX3_append_1 ?_
  refine j_if_lt hc 39 dX3_append_4 (by decide) (fun h4 => ?_) (fun h4 => ?_)
  · -- if_pos h4
    exact j_vret hc rfl (by decide) (by decide) (by simp only [e_app, if_pos h4] <;> rfl) dX3_append_39
  · -- if_neg h4
    refine j_aload_n hc dX3_append_7 rfl ?_
    refine gf_X3_15 hc hi dX3_append_8 ?_
    refine j_aload_n hc dX3_append_11 rfl ?_
    refine gf_X3_9 hc hi dX3_append_12 ?_
    refine ln_gap hc hi dX3_append_15 ?_
    refine j_icmp_ge hc 39 dX3_append_16 (by decide) (fun h16 => ?_) (fun h16 => ?_)
    · -- if_pos h16
      exact j_vret hc rfl (by decide) (by decide) (by simp only [e_app, if_neg h4, if_pos h16] <;> rfl) dX3_append_39
    · -- if_neg h16
      refine j_aload_n hc dX3_append_19 rfl ?_
      refine gf_X3_9 hc hi dX3_append_20 ?_
      refine j_aload_n hc dX3_append_23 rfl ?_
      refine gf_X3_15 hc hi dX3_append_24 ?_
      refine j_iload_n hc dX3_append_27 rfl ?_
      refine as_gap hc hi (vpi (n := 6) h4 h16 (by decide)) dX3_append_28 ?_
      refine j_aload_n hc dX3_append_29 rfl ?_
      refine j_dup hc dX3_append_30 rfl ?_
      refine gf_X3_15 hc hi dX3_append_31 ?_
      refine j_iconst hc (v := 1) dX3_append_34 (by decide) ?_
      refine j_iadd hc dX3_append_35 ?_
      refine pf_X3_15 hc hi dX3_append_36 ?_
      exact j_vret hc rfl (by decide) (by decide) (by simp only [e_app, if_neg h4, if_neg h16] <;> rfl) dX3_append_39
theorem vdb {k : Int32} (h1 : ¬ k < 1) (h2 : ¬ 6 < k) : vp_in (k - 1) 6 := by
  rw [i32_lt] at h1 h2
  have e1 : (1 : Int32).toInt = 1 := by decide
  have e6 : (6 : Int32).toInt = 6 := by decide
  rw [vp_in_iff, i32_sub (by omega) (by omega)]
  omega
set_option maxRecDepth 100000 in
set_option maxHeartbeats 4000000 in
theorem c_X3_daysBehind {l : Launch} {D : va_G} {cs : Nat → ClassId} {sa : Nat → Nat} (hl : l.stackTraces = false)  {ad : Nat → Nat} {n : Nat} {E : ES} {S : MS} {o : Nat → Int64} {i : Nat} (hi : i < 4) {k : Int32} : CM l D cs sa yX3_daysBehind cX3_daysBehind 3 (Option.some Jvm.ClassFile.FieldType.int) (RM 0 0 0) 0 0 [.ref (ad (4 + 2 * i)), .int k] (WD ad cs n E S o) (none, some (.int (e_db E i k)), (WD ad cs n E S o)) := by
  refine CM.of RX3 hl (by decide +kernel) rfl (Nat.le_of_ble_eq_true rfl) ?_
  intro p e s m args below meth c A hc ho hmn
  refine j_iload_n hc dX3_daysBehind_0 rfl ?_
  refine j_iconst hc (v := 1) dX3_daysBehind_1 (by decide) ?_
  refine j_icmp_lt hc 26 dX3_daysBehind_2 (by decide) (fun h2 => ?_) (fun h2 => ?_)
  · -- if_pos h2
    refine j_iconst hc (v := 0) dX3_daysBehind_26 (by decide) ?_
    refine j_istore_n hc dX3_daysBehind_27 rfl ?_
    refine j_iload_n hc dX3_daysBehind_28 rfl ?_
    refine j_if_eq hc 43 dX3_daysBehind_29 (by decide) (fun h29 => ?_) (fun h29 => by exact absurd (show ¬ (0 : Int32) = (0 : Int32) from h29) (by decide))
    refine j_iconst hc (v := 0) dX3_daysBehind_43 (by decide) ?_
    exact j_iret hc rfl (by decide) (by decide) (by simp only [e_db, if_pos h2] <;> rfl) dX3_daysBehind_44
  · -- if_neg h2
    refine j_iload_n hc dX3_daysBehind_5 rfl ?_
    refine j_aload_n hc dX3_daysBehind_6 rfl ?_
    refine gf_X3_15 hc hi dX3_daysBehind_7 ?_
    refine j_icmp_gt hc 26 dX3_daysBehind_10 (by decide) (fun h10 => ?_) (fun h10 => ?_)
    · -- if_pos h10
      refine j_iconst hc (v := 0) dX3_daysBehind_26 (by decide) ?_
      refine j_istore_n hc dX3_daysBehind_27 rfl ?_
      refine j_iload_n hc dX3_daysBehind_28 rfl ?_
      refine j_if_eq hc 43 dX3_daysBehind_29 (by decide) (fun h29 => ?_) (fun h29 => by exact absurd (show ¬ (0 : Int32) = (0 : Int32) from h29) (by decide))
      refine j_iconst hc (v := 0) dX3_daysBehind_43 (by decide) ?_
      exact j_iret hc rfl (by decide) (by decide) (by simp only [e_db, if_neg h2, if_pos h10] <;> rfl) dX3_daysBehind_44
    · -- if_neg h10
      refine j_iload_n hc dX3_daysBehind_13 rfl ?_
      refine j_aload_n hc dX3_daysBehind_14 rfl ?_
      refine gf_X3_9 hc hi dX3_daysBehind_15 ?_
      refine ln_gap hc hi dX3_daysBehind_18 ?_
      refine j_icmp_gt hc 26 dX3_daysBehind_19 (by decide) (fun h19 => ?_) (fun h19 => ?_)
      · -- if_pos h19
        refine j_iconst hc (v := 0) dX3_daysBehind_26 (by decide) ?_
        refine j_istore_n hc dX3_daysBehind_27 rfl ?_
        refine j_iload_n hc dX3_daysBehind_28 rfl ?_
        refine j_if_eq hc 43 dX3_daysBehind_29 (by decide) (fun h29 => ?_) (fun h29 => by exact absurd (show ¬ (0 : Int32) = (0 : Int32) from h29) (by decide))
        refine j_iconst hc (v := 0) dX3_daysBehind_43 (by decide) ?_
        exact j_iret hc rfl (by decide) (by decide) (by simp only [e_db, if_neg h2, if_neg h10, if_pos h19] <;> rfl) dX3_daysBehind_44
      · -- if_neg h19
        refine j_iconst hc (v := 1) dX3_daysBehind_22 (by decide) ?_
        refine j_goto hc 27 dX3_daysBehind_23 (by decide) ?_
        refine j_istore_n hc dX3_daysBehind_27 rfl ?_
        refine j_iload_n hc dX3_daysBehind_28 rfl ?_
        refine j_if_eq hc 43 dX3_daysBehind_29 (by decide) (fun h29 => by exact absurd (show (1 : Int32) = (0 : Int32) from h29) (by decide)) (fun h29 => ?_)
        refine j_aload_n hc dX3_daysBehind_32 rfl ?_
        refine gf_X3_9 hc hi dX3_daysBehind_33 ?_
        refine j_iload_n hc dX3_daysBehind_36 rfl ?_
        refine j_iconst hc (v := 1) dX3_daysBehind_37 (by decide) ?_
        refine j_isub hc dX3_daysBehind_38 ?_
        refine al_gap hc hi (vdb h2 h19) dX3_daysBehind_39 ?_
        refine j_goto hc 44 dX3_daysBehind_40 (by decide) ?_
        exact j_iret hc rfl (by decide) (by decide) (by simp only [e_db, if_neg h2, if_neg h10, if_neg h19] <;> rfl) dX3_daysBehind_44
set_option maxRecDepth 100000 in
set_option maxHeartbeats 4000000 in
theorem c_X4_checkRange {l : Launch} {D : va_G} {cs : Nat → ClassId} {sa : Nat → Nat} (hl : l.stackTraces = false)  {w : va_W} {k x y : Int32} : CM l D cs sa yX4_checkRange cX4_checkRange 3 (Option.none : Option Jvm.ClassFile.FieldType) (RM 6 1 6) 1 6 [.int k, .int x, .int y] w (e_rng k x y, none, w) := by
  refine CM.of RX4 hl (by decide +kernel) rfl (Nat.le_of_ble_eq_true rfl) ?_
  intro p e s m args below meth c A hc ho hmn
  refine j_iload_n hc dX4_checkRange_0 rfl ?_
  refine j_iload_n hc dX4_checkRange_1 rfl ?_
  refine j_icmp_lt hc 10 dX4_checkRange_2 (by decide) (fun h2 => ?_) (fun h2 => ?_)
  · -- if_pos h2
    exact j_thr_224 hc ho 222 (tx := "an argument is out of range") (by decide) dX4_checkRange_10 dX4_checkRange_13 dX4_checkRange_14 dX4_checkRange_16 dX4_checkRange_19 (by decide) (Nat.le_of_ble_eq_true rfl) (by decide) (by decide) (by decide) (by decide) ⟨by simp only [e_rng, if_pos h2] <;> rfl, rfl⟩
  · -- if_neg h2
    refine j_iload_n hc dX4_checkRange_5 rfl ?_
    refine j_iload_n hc dX4_checkRange_6 rfl ?_
    refine j_icmp_le hc 20 dX4_checkRange_7 (by decide) (fun h7 => ?_) (fun h7 => ?_)
    · -- if_pos h7
      exact j_vret hc rfl (by decide) (by decide) (by simp only [e_rng, if_neg h2, if_pos h7] <;> rfl) dX4_checkRange_20
    · -- if_neg h7
      exact j_thr_224 hc ho 222 (tx := "an argument is out of range") (by decide) dX4_checkRange_10 dX4_checkRange_13 dX4_checkRange_14 dX4_checkRange_16 dX4_checkRange_19 (by decide) (Nat.le_of_ble_eq_true rfl) (by decide) (by decide) (by decide) (by decide) ⟨by simp only [e_rng, if_neg h2, if_neg h7] <;> rfl, rfl⟩
set_option maxRecDepth 100000 in
set_option maxHeartbeats 4000000 in
theorem c_X4_checkAccount {l : Launch} {D : va_G} {cs : Nat → ClassId} {sa : Nat → Nat} (hl : l.stackTraces = false)  {w : va_W} {k : Int32} : CM l D cs sa yX4_checkAccount cX4_checkAccount 1 (Option.none : Option Jvm.ClassFile.FieldType) (RM 6 1 6) 1 6 [.int k] w (e_acc k, none, w) := by
  refine CM.of RX4 hl (by decide +kernel) rfl (Nat.le_of_ble_eq_true rfl) ?_
  intro p e s m args below meth c A hc ho hmn
  refine j_iload_n hc dX4_checkAccount_0 rfl ?_
  refine j_if_lt hc 10 dX4_checkAccount_1 (by decide) (fun h1 => ?_) (fun h1 => ?_)
  · -- if_pos h1
    exact j_thr_62 hc ho 225 (tx := "no such account") (by decide) dX4_checkAccount_10 dX4_checkAccount_13 dX4_checkAccount_14 dX4_checkAccount_16 dX4_checkAccount_19 (by decide) (Nat.le_of_ble_eq_true rfl) (by decide) (by decide) (by decide) (by decide) ⟨by simp only [e_acc, if_pos h1] <;> rfl, rfl⟩
  · -- if_neg h1
    refine j_iload_n hc dX4_checkAccount_4 rfl ?_
    refine j_bipush hc (v := 8) dX4_checkAccount_5 (by decide) ?_
    refine j_icmp_lt hc 20 dX4_checkAccount_7 (by decide) (fun h7 => ?_) (fun h7 => ?_)
    · -- if_pos h7
      exact j_vret hc rfl (by decide) (by decide) (by simp only [e_acc, if_neg h1, if_pos h7] <;> rfl) dX4_checkAccount_20
    · -- if_neg h7
      exact j_thr_62 hc ho 225 (tx := "no such account") (by decide) dX4_checkAccount_10 dX4_checkAccount_13 dX4_checkAccount_14 dX4_checkAccount_16 dX4_checkAccount_19 (by decide) (Nat.le_of_ble_eq_true rfl) (by decide) (by decide) (by decide) (by decide) ⟨by simp only [e_acc, if_neg h1, if_neg h7] <;> rfl, rfl⟩
set_option maxRecDepth 100000 in
set_option maxHeartbeats 4000000 in
theorem c_X4_indexOfReason {l : Launch} {D : va_G} {cs : Nat → ClassId} {sa : Nat → Nat} (hl : l.stackTraces = false)  {w : va_W} {k : Int32} : CM l D cs sa yX4_indexOfReason cX4_indexOfReason 1 (Option.some Jvm.ClassFile.FieldType.int) (RM 6 1 6) 1 6 [.int k] w (e_rsn k, some (.int (k - 1)), w) := by
  refine CM.of RX4 hl (by decide +kernel) rfl (Nat.le_of_ble_eq_true rfl) ?_
  intro p e s m args below meth c A hc ho hmn
  refine j_iload_n hc dX4_indexOfReason_0 rfl ?_
  refine j_iconst hc (v := 1) dX4_indexOfReason_1 (by decide) ?_
  refine j_icmp_lt hc 10 dX4_indexOfReason_2 (by decide) (fun h2 => ?_) (fun h2 => ?_)
  · -- if_pos h2
    exact j_thr_62 hc ho 227 (tx := "no such reason") (by decide) dX4_indexOfReason_10 dX4_indexOfReason_13 dX4_indexOfReason_14 dX4_indexOfReason_16 dX4_indexOfReason_19 (by decide) (Nat.le_of_ble_eq_true rfl) (by decide) (by decide) (by decide) (by decide) ⟨by simp only [e_rsn, if_pos h2] <;> rfl, rfl⟩
  · -- if_neg h2
    refine j_iload_n hc dX4_indexOfReason_5 rfl ?_
    refine j_iconst hc (v := 4) dX4_indexOfReason_6 (by decide) ?_
    refine j_icmp_le hc 20 dX4_indexOfReason_7 (by decide) (fun h7 => ?_) (fun h7 => ?_)
    · -- if_pos h7
      refine j_iload_n hc dX4_indexOfReason_20 rfl ?_
      refine j_iconst hc (v := 1) dX4_indexOfReason_21 (by decide) ?_
      refine j_isub hc dX4_indexOfReason_22 ?_
      exact j_iret hc rfl (by decide) (by decide) (by simp only [e_rsn, if_neg h2, if_pos h7] <;> rfl) dX4_indexOfReason_23
    · -- if_neg h7
      exact j_thr_62 hc ho 227 (tx := "no such reason") (by decide) dX4_indexOfReason_10 dX4_indexOfReason_13 dX4_indexOfReason_14 dX4_indexOfReason_16 dX4_indexOfReason_19 (by decide) (Nat.le_of_ble_eq_true rfl) (by decide) (by decide) (by decide) (by decide) ⟨by simp only [e_rsn, if_neg h2, if_neg h7] <;> rfl, rfl⟩
set_option maxRecDepth 100000 in
set_option maxHeartbeats 4000000 in
theorem c_X4_indexOfReason_ok {l : Launch} {D : va_G} {cs : Nat → ClassId} {sa : Nat → Nat} (hl : l.stackTraces = false)  {w : va_W} {k : Int32} (hk : e_rsn k = none) : CM l D cs sa yX4_indexOfReason cX4_indexOfReason 1 (Option.some Jvm.ClassFile.FieldType.int) (RM 0 0 0) 0 0 [.int k] w (none, some (.int (k - 1)), w) := by
  refine CM.of RX4 hl (by decide +kernel) rfl (Nat.le_of_ble_eq_true rfl) ?_
  intro p e s m args below meth c A hc ho hmn
  refine j_iload_n hc dX4_indexOfReason_0 rfl ?_
  refine j_iconst hc (v := 1) dX4_indexOfReason_1 (by decide) ?_
  refine j_icmp_lt hc 10 dX4_indexOfReason_2 (by decide) (fun h2 => by simp only [e_rsn, h2, if_true] at hk; cases hk) (fun h2 => ?_)
  refine j_iload_n hc dX4_indexOfReason_5 rfl ?_
  refine j_iconst hc (v := 4) dX4_indexOfReason_6 (by decide) ?_
  refine j_icmp_le hc 20 dX4_indexOfReason_7 (by decide) (fun h7 => ?_) (fun h7 => by rw [e_rsn, if_neg h2, if_neg h7] at hk; cases hk)
  refine j_iload_n hc dX4_indexOfReason_20 rfl ?_
  refine j_iconst hc (v := 1) dX4_indexOfReason_21 (by decide) ?_
  refine j_isub hc dX4_indexOfReason_22 ?_
  exact j_iret hc rfl (by decide) (by decide) (rfl) dX4_indexOfReason_23
set_option maxRecDepth 100000 in
set_option maxHeartbeats 4000000 in
theorem c_X4_findBill {l : Launch} {D : va_G} {cs : Nat → ClassId} {sa : Nat → Nat} (hl : l.stackTraces = false)  {ad : Nat → Nat} {n : Nat} {E : ES} {S : MS} {o : Nat → Int64} (hn30 : n ≤ 30) {k : Int32} : CM l D cs sa yX4_findBill cX4_findBill 3 (Option.some (Jvm.ClassFile.FieldType.object "CollectionsEngine$Bill")) (RM 6 1 6) 1 6 [.ref (ad 0), .int k] (WD ad cs n E S o) (e_fb n k, some (.ref (ad (24 + 2 * k.toNatClampNeg))), WD ad cs n E S o) := by
  refine CM.of RX4 hl (by decide +kernel) rfl (Nat.le_of_ble_eq_true rfl) ?_
  intro p e s m args below meth c A hc ho hmn
  refine j_iload_n hc dX4_findBill_0 rfl ?_
  refine j_if_lt hc 22 dX4_findBill_1 (by decide) (fun h1 => ?_) (fun h1 => ?_)
  · -- if_pos h1
    refine j_null hc dX4_findBill_22 ?_
    refine j_astore_nN hc dX4_findBill_23 rfl ?_
    refine j_aload_nN hc dX4_findBill_24 rfl ?_
    refine j_ifnonnullN hc dX4_findBill_25 ?_
    exact j_thr_62 hc ho 229 (tx := "no such bill") (by decide) dX4_findBill_28 dX4_findBill_31 dX4_findBill_32 dX4_findBill_34 dX4_findBill_37 (by decide) (Nat.le_of_ble_eq_true rfl) (by decide) (by decide) (by decide) (by decide) ⟨by simp only [e_fb, if_pos h1] <;> rfl, rfl⟩
  · -- if_neg h1
    refine j_iload_n hc dX4_findBill_4 rfl ?_
    refine j_aload_n hc dX4_findBill_5 rfl ?_
    refine gf_X4_40 hc dX4_findBill_6 ?_
    refine ln_row hc dX4_findBill_9 ?_
    refine j_icmp_ge hc 22 dX4_findBill_10 (by decide) (fun h10 => ?_) (fun h10 => ?_)
    · -- if_pos h10
      refine j_null hc dX4_findBill_22 ?_
      refine j_astore_nN hc dX4_findBill_23 rfl ?_
      refine j_aload_nN hc dX4_findBill_24 rfl ?_
      refine j_ifnonnullN hc dX4_findBill_25 ?_
      exact j_thr_62 hc ho 229 (tx := "no such bill") (by decide) dX4_findBill_28 dX4_findBill_31 dX4_findBill_32 dX4_findBill_34 dX4_findBill_37 (by decide) (Nat.le_of_ble_eq_true rfl) (by decide) (by decide) (by decide) (by decide) ⟨by simp only [e_fb, if_neg h1, if_pos h10] <;> rfl, rfl⟩
    · -- if_neg h10
      refine j_aload_n hc dX4_findBill_13 rfl ?_
      refine gf_X4_40 hc dX4_findBill_14 ?_
      refine j_iload_n hc dX4_findBill_17 rfl ?_
      by_cases hb : k.toNatClampNeg < n
      · refine al_rowp hc hn30 (vpi (n := 30) h1 h10 (by decide)) hb dX4_findBill_18 ?_
        refine j_goto hc 23 dX4_findBill_19 (by decide) ?_
        refine j_astore_n hc dX4_findBill_23 rfl ?_
        refine j_aload_n hc dX4_findBill_24 rfl ?_
        refine j_ifnonnull hc 38 dX4_findBill_25 (by decide) ?_
        refine j_aload_n hc dX4_findBill_38 rfl ?_
        exact j_aret hc rfl (by decide) (by decide) (by simp only [e_fb, if_neg h1, if_neg h10, if_pos hb] <;> rfl) dX4_findBill_39
      · refine al_rowNp hc (vpi (n := 30) h1 h10 (by decide)) hb dX4_findBill_18 ?_
        refine j_goto hc 23 dX4_findBill_19 (by decide) ?_
        refine j_astore_nN hc dX4_findBill_23 rfl ?_
        refine j_aload_nN hc dX4_findBill_24 rfl ?_
        refine j_ifnonnullN hc dX4_findBill_25 ?_
        exact j_thr_62 hc ho 229 (tx := "no such bill") (by decide) dX4_findBill_28 dX4_findBill_31 dX4_findBill_32 dX4_findBill_34 dX4_findBill_37 (by decide) (Nat.le_of_ble_eq_true rfl) (by decide) (by decide) (by decide) (by decide) ⟨by simp only [e_fb, if_neg h1, if_neg h10, if_neg hb] <;> rfl, rfl⟩
end
section
set_option maxRecDepth 100000 in
set_option maxHeartbeats 4000000 in
theorem c_X4_enter {l : Launch} {D : va_G} {cs : Nat → ClassId} {sa : Nat → Nat} (hl : l.stackTraces = false)  {ad : Nat → Nat} {n : Nat} {E : ES} {S : MS} {o : Nat → Int64} {b : Nat} (hb : b < n) {s0 wd : Int32} : CM l D cs sa yX4_enter cX4_enter 4 (Option.none : Option Jvm.ClassFile.FieldType) (RM 2 0 0) 0 0 [.ref (ad 0), .ref (ad (24 + 2 * b)), .int s0, .int wd] (WD ad cs n E S o) (none, none, WD ad cs n (e_enter E b s0 wd) S o) := by
  refine CM.of RX4 hl (by decide +kernel) rfl (Nat.le_of_ble_eq_true rfl) ?_
  intro p e s m args below meth c A hc ho hmn
  refine j_aload_n hc dX4_enter_0 rfl ?_
  refine j_iload_n hc dX4_enter_1 rfl ?_
  refine pf_X4_133 hc hb dX4_enter_2 ?_
  refine j_aload_n hc dX4_enter_5 rfl ?_
  refine j_iload_n hc dX4_enter_6 rfl ?_
  refine pf_X4_158 hc hb dX4_enter_7 ?_
  refine j_aload_n hc dX4_enter_10 rfl ?_
  refine gf_X4_47 hc dX4_enter_11 ?_
  refine j_aload_n hc dX4_enter_14 rfl ?_
  refine gf_X4_83 hc dX4_enter_15 ?_
  refine j_aload_n hc dX4_enter_18 rfl ?_
  refine gf_X4_231 hc hb dX4_enter_19 ?_
  refine j_iload_n hc dX4_enter_22 rfl ?_
  refine j_callV hc ho (c_X2_add hl) vc_X4_234 rfl ⟨rfl, rfl, by decide, by decide⟩ 13 rfl rfl rfl (Nat.le_of_ble_eq_true rfl) ⟨by decide, by decide⟩ dX4_enter_23 ⟨by decide, by decide⟩ (fun _ h => by cases h) (fun hr23 => ?_)
  exact j_vret hc rfl (by decide) (by decide) (rfl) dX4_enter_26
set_option maxRecDepth 100000 in
set_option maxHeartbeats 4000000 in
theorem c_X4_takePayment {l : Launch} {D : va_G} {cs : Nat → ClassId} {sa : Nat → Nat} (hl : l.stackTraces = false)  {ad : Nat → Nat} {n : Nat} {E : ES} {S : MS} {o : Nat → Int64} {b : Nat} (hb : b < n) {v : Int32} : CM l D cs sa yX4_takePayment cX4_takePayment 3 (Option.none : Option Jvm.ClassFile.FieldType) (RM 3 0 0) 0 0 [.ref (ad 0), .ref (ad (24 + 2 * b)), .int v] (WD ad cs n E S o) (none, none, WD ad cs n (e_take E b v) S o) := by
  refine CM.of RX4 hl (by decide +kernel) rfl (Nat.le_of_ble_eq_true rfl) ?_
  intro p e s m args below meth c A hc ho hmn
  refine j_aload_n hc dX4_takePayment_0 rfl ?_
  refine j_dup hc dX4_takePayment_1 rfl ?_
  refine gf_X4_138 hc hb dX4_takePayment_2 ?_
  refine j_iload_n hc dX4_takePayment_5 rfl ?_
  refine j_isub hc dX4_takePayment_6 ?_
  refine pf_X4_138 hc hb dX4_takePayment_7 ?_
  refine j_aload_n hc dX4_takePayment_10 rfl ?_
  refine j_dup hc dX4_takePayment_11 rfl ?_
  refine gf_X4_197 hc dX4_takePayment_12 ?_
  refine j_iload_n hc dX4_takePayment_15 rfl ?_
  refine j_iadd hc dX4_takePayment_16 ?_
  refine pf_X4_197 hc dX4_takePayment_17 ?_
  refine j_aload_n hc dX4_takePayment_20 rfl ?_
  refine gf_X4_133 hc hb dX4_takePayment_21 ?_
  refine j_iconst hc (v := 5) dX4_takePayment_24 (by decide) ?_
  refine j_icmp_ne hc 38 dX4_takePayment_25 (by decide) (fun h25 => ?_) (fun h25 => ?_)
  · -- if_neg h25
    refine j_aload_n hc dX4_takePayment_38 rfl ?_
    refine gf_X4_138 hc hb dX4_takePayment_39 ?_
    refine j_if_ne hc 53 dX4_takePayment_42 (by decide) (fun h42 => ?_) (fun h42 => ?_)
    · -- if_neg h42
      exact j_vret hc rfl (by decide) (by decide) (by simp only [e_take, if_neg h25, if_neg h42] <;> rfl) dX4_takePayment_53
    · -- if_pos h42
      refine j_aload_n hc dX4_takePayment_45 rfl ?_
      refine j_aload_n hc dX4_takePayment_46 rfl ?_
      refine j_bipush hc (v := 6) dX4_takePayment_47 (by decide) ?_
      refine j_iconst hc (v := -1) dX4_takePayment_49 (by decide) ?_
      refine j_callV hc ho (c_X4_enter hl hb) vc_X4_125 rfl ⟨rfl, rfl, by decide, by decide⟩ 0 rfl rfl rfl (Nat.le_of_ble_eq_true rfl) ⟨by decide, by decide⟩ dX4_takePayment_50 ⟨by decide, by decide⟩ (fun _ h => by cases h) (fun hr50 => ?_)
      exact j_vret hc rfl (by decide) (by decide) (by simp only [e_take, if_neg h25, if_pos h42] <;> rfl) dX4_takePayment_53
  · -- if_pos h25
    refine j_aload_n hc dX4_takePayment_28 rfl ?_
    refine j_dup hc dX4_takePayment_29 rfl ?_
    refine gf_X4_203 hc dX4_takePayment_30 ?_
    refine j_iload_n hc dX4_takePayment_33 rfl ?_
    refine j_iadd hc dX4_takePayment_34 ?_
    refine pf_X4_203 hc dX4_takePayment_35 ?_
    refine j_aload_n hc dX4_takePayment_38 rfl ?_
    refine gf_X4_138 hc hb dX4_takePayment_39 ?_
    refine j_if_ne hc 53 dX4_takePayment_42 (by decide) (fun h42 => ?_) (fun h42 => ?_)
    · -- if_neg h42
      exact j_vret hc rfl (by decide) (by decide) (by simp only [e_take, if_pos h25, if_neg h42] <;> rfl) dX4_takePayment_53
    · -- if_pos h42
      refine j_aload_n hc dX4_takePayment_45 rfl ?_
      refine j_aload_n hc dX4_takePayment_46 rfl ?_
      refine j_bipush hc (v := 6) dX4_takePayment_47 (by decide) ?_
      refine j_iconst hc (v := -1) dX4_takePayment_49 (by decide) ?_
      refine j_callV hc ho (c_X4_enter hl hb) vc_X4_125 rfl ⟨rfl, rfl, by decide, by decide⟩ 0 rfl rfl rfl (Nat.le_of_ble_eq_true rfl) ⟨by decide, by decide⟩ dX4_takePayment_50 ⟨by decide, by decide⟩ (fun _ h => by cases h) (fun hr50 => ?_)
      exact j_vret hc rfl (by decide) (by decide) (by simp only [e_take, if_pos h25, if_pos h42] <;> rfl) dX4_takePayment_53
theorem vrs {k : Int32} (h : e_rsn k = none) : vp_in (k - 1) 4 := by
  have e1 : (1 : Int32).toInt = 1 := by decide
  have e4 : (4 : Int32).toInt = 4 := by decide
  unfold e_rsn at h
  simp only [i32_lt, i32_le] at h
  have h1 : ¬ k.toInt < 1 := fun z => by rw [if_pos (by omega)] at h; cases h
  rw [if_neg (by omega)] at h
  have h2 : k.toInt ≤ 4 := by
    by_cases z : k.toInt ≤ 4
    · exact z
    · rw [if_neg (by omega)] at h; cases h
  rw [vp_in_iff, i32_sub (by omega) (by omega)]
  omega
theorem vrs4 {k : Int32} (h : e_rsn k = none) : (k - 1).toNatClampNeg < 4 := by
  have := vp_in_iff.mp (vrs h)
  show (k - 1).toInt.toNat < 4
  omega
set_option maxRecDepth 100000 in
set_option maxHeartbeats 4000000 in
theorem c_X4_fail {l : Launch} {D : va_G} {cs : Nat → ClassId} {sa : Nat → Nat} (hl : l.stackTraces = false)  {ad : Nat → Nat} {n : Nat} {E : ES} {S : MS} {o : Nat → Int64} {b : Nat} (hb : b < n) {r : Int32} (hr : e_rsn r = none) : CM l D cs sa yX4_fail cX4_fail 5 (Option.none : Option Jvm.ClassFile.FieldType) (RM 3 0 0) 0 0 [.ref (ad 0), .ref (ad (24 + 2 * b)), .int r] (WD ad cs n E S o) (none, none, WD ad cs n (e_fail E b r) S o) := by
  refine CM.of RX4 hl (by decide +kernel) rfl (Nat.le_of_ble_eq_true rfl) ?_
  intro p e s m args below meth c A hc ho hmn
  refine j_iload_n hc dX4_fail_0 rfl ?_
  refine j_callS hc ho (c_X4_indexOfReason_ok hl hr) sc_X4_98 rfl ⟨rfl, rfl, by decide, by decide⟩ rfl (Nat.le_of_ble_eq_true rfl) ⟨by decide, by decide⟩ dX4_fail_1 ⟨by decide, by decide⟩ (fun _ h => by cases h) (fun hr1 => ?_)
  refine j_istore_n hc dX4_fail_4 rfl ?_
  refine j_aload_n hc dX4_fail_5 rfl ?_
  refine gf_X4_178 hc hb dX4_fail_6 ?_
  refine j_iload_n hc dX4_fail_9 rfl ?_
  refine j_dup2 hc dX4_fail_10 rfl rfl ?_
  refine al_fails hc hb (vrs hr) dX4_fail_11 ?_
  refine j_iconst hc (v := 1) dX4_fail_12 (by decide) ?_
  refine j_iadd hc dX4_fail_13 ?_
  refine as_fails hc hb (vrs hr) dX4_fail_14 ?_
  refine j_aload_n hc dX4_fail_15 rfl ?_
  refine gf_X4_34 hc dX4_fail_16 ?_
  refine j_iload_n hc dX4_fail_19 rfl ?_
  refine al_gapsp hc (vrs hr) dX4_fail_20 ?_
  refine j_aload_n hc dX4_fail_21 rfl ?_
  refine gf_X4_178 hc hb dX4_fail_22 ?_
  refine j_iload_n hc dX4_fail_25 rfl ?_
  refine al_fails hc hb (vrs hr) dX4_fail_26 ?_
  refine j_callV hc ho (c_X3_daysBehind hl (vrs4 hr)) vc_X4_237 rfl ⟨rfl, rfl, by decide, by decide⟩ _ (wd_gap (vrs4 hr)) rfl rfl (Nat.le_of_ble_eq_true rfl) ⟨by decide, by decide⟩ dX4_fail_27 ⟨by decide, by decide⟩ (fun _ h => by cases h) (fun hr27 => ?_)
  refine j_istore hc dX4_fail_30 rfl ?_
  refine j_iload hc dX4_fail_32 rfl ?_
  refine j_if_ne hc 55 dX4_fail_34 (by decide) (fun h34 => ?_) (fun h34 => ?_)
  · -- if_neg h34
    refine j_aload_n hc dX4_fail_55 rfl ?_
    refine j_aload_n hc dX4_fail_56 rfl ?_
    refine j_iconst hc (v := 0) dX4_fail_57 (by decide) ?_
    refine j_aload_n hc dX4_fail_58 rfl ?_
    refine gf_X4_10 hc dX4_fail_59 ?_
    refine j_aload_n hc dX4_fail_62 rfl ?_
    refine gf_X4_83 hc dX4_fail_63 ?_
    refine j_iload hc dX4_fail_66 rfl ?_
    refine j_iadd hc dX4_fail_68 ?_
    refine j_callV hc ho (c_X1_firstChargingFrom hl) vc_X4_122 rfl ⟨rfl, rfl, by decide, by decide⟩ 1 rfl rfl rfl (Nat.le_of_ble_eq_true rfl) ⟨by decide, by decide⟩ dX4_fail_69 ⟨by decide, by decide⟩ (fun _ h => by cases h) (fun hr69 => ?_)
    refine j_callV hc ho (c_X4_enter hl hb) vc_X4_125 rfl ⟨rfl, rfl, by decide, by decide⟩ 0 rfl rfl rfl (Nat.le_of_ble_eq_true rfl) ⟨by decide, by decide⟩ dX4_fail_72 ⟨by decide, by decide⟩ (fun _ h => by cases h) (fun hr72 => ?_)
    exact j_vret hc rfl (by decide) (by decide) (by simp only [e_fail, if_neg h34] <;> rfl) dX4_fail_75
  · -- if_pos h34
    refine j_aload_n hc dX4_fail_37 rfl ?_
    refine j_aload_n hc dX4_fail_38 rfl ?_
    refine j_iconst hc (v := 2) dX4_fail_39 (by decide) ?_
    refine j_aload_n hc dX4_fail_40 rfl ?_
    refine gf_X4_83 hc dX4_fail_41 ?_
    refine j_aload_n hc dX4_fail_44 rfl ?_
    refine gf_X4_51 hc dX4_fail_45 ?_
    refine j_iadd hc dX4_fail_48 ?_
    refine j_callV hc ho (c_X4_enter hl hb) vc_X4_125 rfl ⟨rfl, rfl, by decide, by decide⟩ 0 rfl rfl rfl (Nat.le_of_ble_eq_true rfl) ⟨by decide, by decide⟩ dX4_fail_49 ⟨by decide, by decide⟩ (fun _ h => by cases h) (fun hr49 => ?_)
    refine j_goto hc 75 dX4_fail_52 (by decide) ?_
    exact j_vret hc rfl (by decide) (by decide) (by simp only [e_fail, if_pos h34] <;> rfl) dX4_fail_75
set_option maxRecDepth 100000 in
set_option maxHeartbeats 4000000 in
theorem c_X4_breakPromise {l : Launch} {D : va_G} {cs : Nat → ClassId} {sa : Nat → Nat} (hl : l.stackTraces = false)  {ad : Nat → Nat} {n : Nat} {E : ES} {S : MS} {o : Nat → Int64} {b : Nat} (hb : b < n) : CM l D cs sa yX4_breakPromise cX4_breakPromise 2 (Option.none : Option Jvm.ClassFile.FieldType) (RM 3 0 0) 0 0 [.ref (ad 0), .ref (ad (24 + 2 * b))] (WD ad cs n E S o) (none, none, WD ad cs n (e_bp E b) S o) := by
  refine CM.of RX4 hl (by decide +kernel) rfl (Nat.le_of_ble_eq_true rfl) ?_
  intro p e s m args below meth c A hc ho hmn
  refine j_aload_n hc dX4_breakPromise_0 rfl ?_
  refine j_dup hc dX4_breakPromise_1 rfl ?_
  refine gf_X4_181 hc hb dX4_breakPromise_2 ?_
  refine j_iconst hc (v := 1) dX4_breakPromise_5 (by decide) ?_
  refine j_iadd hc dX4_breakPromise_6 ?_
  refine pf_X4_181 hc hb dX4_breakPromise_7 ?_
  refine j_aload_n hc dX4_breakPromise_10 rfl ?_
  refine gf_X4_155 hc hb dX4_breakPromise_11 ?_
  refine j_if_ne hc 39 dX4_breakPromise_14 (by decide) (fun h14 => ?_) (fun h14 => ?_)
  · -- if_neg h14
    refine j_aload_n hc dX4_breakPromise_39 rfl ?_
    refine j_aload_n hc dX4_breakPromise_40 rfl ?_
    refine j_aload_n hc dX4_breakPromise_41 rfl ?_
    refine gf_X4_155 hc hb dX4_breakPromise_42 ?_
    refine j_aload_n hc dX4_breakPromise_45 rfl ?_
    refine gf_X4_83 hc dX4_breakPromise_46 ?_
    refine j_aload_n hc dX4_breakPromise_49 rfl ?_
    refine gf_X4_161 hc hb dX4_breakPromise_50 ?_
    refine j_iadd hc dX4_breakPromise_53 ?_
    refine j_callV hc ho (c_X4_enter hl hb) vc_X4_125 rfl ⟨rfl, rfl, by decide, by decide⟩ 0 rfl rfl rfl (Nat.le_of_ble_eq_true rfl) ⟨by decide, by decide⟩ dX4_breakPromise_54 ⟨by decide, by decide⟩ (fun _ h => by cases h) (fun hr54 => ?_)
    exact j_vret hc rfl (by decide) (by decide) (by simp only [e_bp, if_neg h14] <;> rfl) dX4_breakPromise_57
  · -- if_pos h14
    refine j_aload_n hc dX4_breakPromise_17 rfl ?_
    refine j_aload_n hc dX4_breakPromise_18 rfl ?_
    refine j_iconst hc (v := 0) dX4_breakPromise_19 (by decide) ?_
    refine j_aload_n hc dX4_breakPromise_20 rfl ?_
    refine gf_X4_10 hc dX4_breakPromise_21 ?_
    refine j_aload_n hc dX4_breakPromise_24 rfl ?_
    refine gf_X4_83 hc dX4_breakPromise_25 ?_
    refine j_iconst hc (v := 1) dX4_breakPromise_28 (by decide) ?_
    refine j_iadd hc dX4_breakPromise_29 ?_
    refine j_callV hc ho (c_X1_firstChargingFrom hl) vc_X4_122 rfl ⟨rfl, rfl, by decide, by decide⟩ 1 rfl rfl rfl (Nat.le_of_ble_eq_true rfl) ⟨by decide, by decide⟩ dX4_breakPromise_30 ⟨by decide, by decide⟩ (fun _ h => by cases h) (fun hr30 => ?_)
    refine j_callV hc ho (c_X4_enter hl hb) vc_X4_125 rfl ⟨rfl, rfl, by decide, by decide⟩ 0 rfl rfl rfl (Nat.le_of_ble_eq_true rfl) ⟨by decide, by decide⟩ dX4_breakPromise_33 ⟨by decide, by decide⟩ (fun _ h => by cases h) (fun hr33 => ?_)
    refine j_goto hc 57 dX4_breakPromise_36 (by decide) ?_
    exact j_vret hc rfl (by decide) (by decide) (by simp only [e_bp, if_pos h14] <;> rfl) dX4_breakPromise_57
set_option maxRecDepth 100000 in
set_option maxHeartbeats 4000000 in
theorem c_X4_beginTry {l : Launch} {D : va_G} {cs : Nat → ClassId} {sa : Nat → Nat} (hl : l.stackTraces = false)  {ad : Nat → Nat} {n : Nat} {E : ES} {S : MS} {o : Nat → Int64} {b : Nat} (hb : b < n) : CM l D cs sa yX4_beginTry cX4_beginTry 2 (Option.some Jvm.ClassFile.FieldType.boolean) (RM 3 0 0) 0 0 [.ref (ad 0), .ref (ad (24 + 2 * b))] (WD ad cs n E S o) (none, some (.int (e_bt E b).1), WD ad cs n (e_bt E b).2 S o) := by
  refine CM.of RX4 hl (by decide +kernel) rfl (Nat.le_of_ble_eq_true rfl) ?_
  intro p e s m args below meth c A hc ho hmn
  refine j_aload_n hc dX4_beginTry_0 rfl ?_
  refine gf_X4_10 hc dX4_beginTry_1 ?_
  refine j_aload_n hc dX4_beginTry_4 rfl ?_
  refine gf_X4_83 hc dX4_beginTry_5 ?_
  refine j_callV hc ho (c_X1_allowsCharging hl) vc_X4_172 rfl ⟨rfl, rfl, by decide, by decide⟩ 1 rfl rfl rfl (Nat.le_of_ble_eq_true rfl) ⟨by decide, by decide⟩ dX4_beginTry_8 ⟨by decide, by decide⟩ (fun _ h => by cases h) (fun hr8 => ?_)
  refine j_if_ne hc 33 dX4_beginTry_11 (by decide) (fun h11 => ?_) (fun h11 => ?_)
  · -- if_neg h11
    refine j_aload_n hc dX4_beginTry_33 rfl ?_
    refine j_dup hc dX4_beginTry_34 rfl ?_
    refine gf_X4_175 hc hb dX4_beginTry_35 ?_
    refine j_iconst hc (v := 1) dX4_beginTry_38 (by decide) ?_
    refine j_iadd hc dX4_beginTry_39 ?_
    refine pf_X4_175 hc hb dX4_beginTry_40 ?_
    refine j_aload_n hc dX4_beginTry_43 rfl ?_
    refine j_aload_n hc dX4_beginTry_44 rfl ?_
    refine j_iconst hc (v := 1) dX4_beginTry_45 (by decide) ?_
    refine j_iconst hc (v := -1) dX4_beginTry_46 (by decide) ?_
    refine j_callV hc ho (c_X4_enter hl hb) vc_X4_125 rfl ⟨rfl, rfl, by decide, by decide⟩ 0 rfl rfl rfl (Nat.le_of_ble_eq_true rfl) ⟨by decide, by decide⟩ dX4_beginTry_47 ⟨by decide, by decide⟩ (fun _ h => by cases h) (fun hr47 => ?_)
    refine j_iconst hc (v := 1) dX4_beginTry_50 (by decide) ?_
    exact j_zret hc rfl rfl (by decide) (by decide) (by simp only [e_bt, if_neg h11] <;> rfl) dX4_beginTry_51
  · -- if_pos h11
    refine j_aload_n hc dX4_beginTry_14 rfl ?_
    refine j_aload_n hc dX4_beginTry_15 rfl ?_
    refine gf_X4_10 hc dX4_beginTry_16 ?_
    refine j_aload_n hc dX4_beginTry_19 rfl ?_
    refine gf_X4_83 hc dX4_beginTry_20 ?_
    refine j_iconst hc (v := 1) dX4_beginTry_23 (by decide) ?_
    refine j_iadd hc dX4_beginTry_24 ?_
    refine j_callV hc ho (c_X1_firstChargingFrom hl) vc_X4_122 rfl ⟨rfl, rfl, by decide, by decide⟩ 1 rfl rfl rfl (Nat.le_of_ble_eq_true rfl) ⟨by decide, by decide⟩ dX4_beginTry_25 ⟨by decide, by decide⟩ (fun _ h => by cases h) (fun hr25 => ?_)
    refine pf_X4_158 hc hb dX4_beginTry_28 ?_
    refine j_iconst hc (v := 0) dX4_beginTry_31 (by decide) ?_
    exact j_zret hc rfl rfl (by decide) (by decide) (by simp only [e_bt, if_pos h11] <;> rfl) dX4_beginTry_32
theorem bt_01 (E : ES) (b : Nat) : (e_bt E b).1 = 0 ∨ (e_bt E b).1 = 1 := by
  unfold e_bt
  split
  · exact Or.inl rfl
  · exact Or.inr rfl
theorem look_01 (E : ES) (b : Nat) : (e_look E b).1 = 0 ∨ (e_look E b).1 = 1 := by
  unfold e_look
  split
  · split
    · exact Or.inl rfl
    · exact bt_01 E b
  · split
    · split
      · exact Or.inl rfl
      · split
        · exact Or.inl rfl
        · split <;> exact Or.inl rfl
    · exact Or.inl rfl
set_option maxRecDepth 100000 in
set_option maxHeartbeats 4000000 in
theorem c_X4_lookAt {l : Launch} {D : va_G} {cs : Nat → ClassId} {sa : Nat → Nat} (hl : l.stackTraces = false)  {ad : Nat → Nat} {n : Nat} {E : ES} {S : MS} {o : Nat → Int64} {b : Nat} (hb : b < n) : CM l D cs sa yX4_lookAt cX4_lookAt 2 (Option.some Jvm.ClassFile.FieldType.boolean) (RM 4 0 0) 0 0 [.ref (ad 0), .ref (ad (24 + 2 * b))] (WD ad cs n E S o) (none, some (.int (e_look E b).1), WD ad cs n (e_look E b).2 S o) := by
  refine CM.of RX4 hl (by decide +kernel) rfl (Nat.le_of_ble_eq_true rfl) ?_
  intro p e s m args below meth c A hc ho hmn
  refine j_aload_n hc dX4_lookAt_0 rfl ?_
  refine gf_X4_133 hc hb dX4_lookAt_1 ?_
  refine j_if_ne hc 32 dX4_lookAt_4 (by decide) (fun h4 => ?_) (fun h4 => ?_)
  · -- if_neg h4
    refine j_aload_n hc dX4_lookAt_32 rfl ?_
    refine gf_X4_158 hc hb dX4_lookAt_33 ?_
    refine j_aload_n hc dX4_lookAt_36 rfl ?_
    refine gf_X4_83 hc dX4_lookAt_37 ?_
    refine j_icmp_eq hc 45 dX4_lookAt_40 (by decide) (fun h40 => ?_) (fun h40 => ?_)
    · -- if_pos h40
      refine j_aload_n hc dX4_lookAt_45 rfl ?_
      refine gf_X4_133 hc hb dX4_lookAt_46 ?_
      refine j_iconst hc (v := 2) dX4_lookAt_49 (by decide) ?_
      refine j_icmp_ne hc 71 dX4_lookAt_50 (by decide) (fun h50 => ?_) (fun h50 => ?_)
      · -- if_neg h50
        refine j_aload_n hc dX4_lookAt_71 rfl ?_
        refine gf_X4_133 hc hb dX4_lookAt_72 ?_
        refine j_iconst hc (v := 3) dX4_lookAt_75 (by decide) ?_
        refine j_icmp_ne hc 102 dX4_lookAt_76 (by decide) (fun h76 => ?_) (fun h76 => ?_)
        · -- if_neg h76
          refine j_aload_n hc dX4_lookAt_102 rfl ?_
          refine gf_X4_133 hc hb dX4_lookAt_103 ?_
          refine j_iconst hc (v := 4) dX4_lookAt_106 (by decide) ?_
          refine j_icmp_ne hc 115 dX4_lookAt_107 (by decide) (fun h107 => ?_) (fun h107 => ?_)
          · -- if_neg h107
            refine j_iconst hc (v := 0) dX4_lookAt_115 (by decide) ?_
            exact j_zret hc rfl rfl (by decide) (by decide) (by simp only [e_look, if_neg h4, if_pos h40, if_neg h50, if_neg h76, if_neg h107] <;> rfl) dX4_lookAt_116
          · -- if_pos h107
            refine j_aload_n hc dX4_lookAt_110 rfl ?_
            refine j_aload_n hc dX4_lookAt_111 rfl ?_
            refine j_callV hc ho (c_X4_breakPromise hl hb) vc_X4_247 rfl ⟨rfl, rfl, by decide, by decide⟩ 0 rfl rfl rfl (Nat.le_of_ble_eq_true rfl) ⟨by decide, by decide⟩ dX4_lookAt_112 ⟨by decide, by decide⟩ (fun _ h => by cases h) (fun hr112 => ?_)
            refine j_iconst hc (v := 0) dX4_lookAt_115 (by decide) ?_
            exact j_zret hc rfl rfl (by decide) (by decide) (by simp only [e_look, if_neg h4, if_pos h40, if_neg h50, if_neg h76, if_pos h107] <;> rfl) dX4_lookAt_116
        · -- if_pos h76
          refine j_aload_n hc dX4_lookAt_79 rfl ?_
          refine j_dup hc dX4_lookAt_80 rfl ?_
          refine gf_X4_200 hc dX4_lookAt_81 ?_
          refine j_aload_n hc dX4_lookAt_84 rfl ?_
          refine gf_X4_138 hc hb dX4_lookAt_85 ?_
          refine j_iadd hc dX4_lookAt_88 ?_
          refine pf_X4_200 hc dX4_lookAt_89 ?_
          refine j_aload_n hc dX4_lookAt_92 rfl ?_
          refine j_aload_n hc dX4_lookAt_93 rfl ?_
          refine j_iconst hc (v := 5) dX4_lookAt_94 (by decide) ?_
          refine j_iconst hc (v := -1) dX4_lookAt_95 (by decide) ?_
          refine j_callV hc ho (c_X4_enter hl hb) vc_X4_125 rfl ⟨rfl, rfl, by decide, by decide⟩ 0 rfl rfl rfl (Nat.le_of_ble_eq_true rfl) ⟨by decide, by decide⟩ dX4_lookAt_96 ⟨by decide, by decide⟩ (fun _ h => by cases h) (fun hr96 => ?_)
          refine j_goto hc 115 dX4_lookAt_99 (by decide) ?_
          refine j_iconst hc (v := 0) dX4_lookAt_115 (by decide) ?_
          exact j_zret hc rfl rfl (by decide) (by decide) (by simp only [e_look, if_neg h4, if_pos h40, if_neg h50, if_pos h76] <;> rfl) dX4_lookAt_116
      · -- if_pos h50
        refine j_aload_n hc dX4_lookAt_53 rfl ?_
        refine j_aload_n hc dX4_lookAt_54 rfl ?_
        refine j_iconst hc (v := 3) dX4_lookAt_55 (by decide) ?_
        refine j_aload_n hc dX4_lookAt_56 rfl ?_
        refine gf_X4_83 hc dX4_lookAt_57 ?_
        refine j_aload_n hc dX4_lookAt_60 rfl ?_
        refine gf_X4_55 hc dX4_lookAt_61 ?_
        refine j_iadd hc dX4_lookAt_64 ?_
        refine j_callV hc ho (c_X4_enter hl hb) vc_X4_125 rfl ⟨rfl, rfl, by decide, by decide⟩ 0 rfl rfl rfl (Nat.le_of_ble_eq_true rfl) ⟨by decide, by decide⟩ dX4_lookAt_65 ⟨by decide, by decide⟩ (fun _ h => by cases h) (fun hr65 => ?_)
        refine j_goto hc 115 dX4_lookAt_68 (by decide) ?_
        refine j_iconst hc (v := 0) dX4_lookAt_115 (by decide) ?_
        exact j_zret hc rfl rfl (by decide) (by decide) (by simp only [e_look, if_neg h4, if_pos h40, if_pos h50] <;> rfl) dX4_lookAt_116
    · -- if_neg h40
      refine j_iconst hc (v := 0) dX4_lookAt_43 (by decide) ?_
      exact j_zret hc rfl rfl (by decide) (by decide) (by simp only [e_look, if_neg h4, if_neg h40] <;> rfl) dX4_lookAt_44
  · -- if_pos h4
    refine j_aload_n hc dX4_lookAt_7 rfl ?_
    refine gf_X4_158 hc hb dX4_lookAt_8 ?_
    refine j_aload_n hc dX4_lookAt_11 rfl ?_
    refine gf_X4_83 hc dX4_lookAt_12 ?_
    refine j_icmp_gt hc 30 dX4_lookAt_15 (by decide) (fun h15 => ?_) (fun h15 => ?_)
    · -- if_pos h15
      refine j_iconst hc (v := 0) dX4_lookAt_30 (by decide) ?_
      exact j_zret hc rfl rfl (by decide) (by decide) (by simp only [e_look, if_pos h4, if_pos h15] <;> rfl) dX4_lookAt_31
    · -- if_neg h15
      refine j_aload_n hc dX4_lookAt_18 rfl ?_
      refine j_aload_n hc dX4_lookAt_19 rfl ?_
      refine j_callV hc ho (c_X4_beginTry hl hb) vc_X4_244 rfl ⟨rfl, rfl, by decide, by decide⟩ 0 rfl rfl rfl (Nat.le_of_ble_eq_true rfl) ⟨by decide, by decide⟩ dX4_lookAt_20 ⟨by decide, by decide⟩ (fun _ h => by cases h) (fun hr20 => ?_)
      refine j_if_eq hc 30 dX4_lookAt_23 (by decide) (fun h23 => ?_) (fun h23 => ?_)
      · -- if_pos h23
        refine j_iconst hc (v := 0) dX4_lookAt_30 (by decide) ?_
        exact j_zret hc rfl rfl (by decide) (by decide) (by simp only [e_look, if_pos h4, if_neg h15]; rw [show e_bt E b = ((e_bt E b).1, (e_bt E b).2) from rfl]; simp only [h23]) dX4_lookAt_31
      · -- if_neg h23
        refine j_iconst hc (v := 1) dX4_lookAt_26 (by decide) ?_
        refine j_goto hc 31 dX4_lookAt_27 (by decide) ?_
        exact j_zret hc rfl rfl (by decide) (by decide) (by simp only [e_look, if_pos h4, if_neg h15]; rw [show e_bt E b = ((e_bt E b).1, (e_bt E b).2) from rfl]; simp only [((bt_01 E b).resolve_left h23)]) dX4_lookAt_31
set_option maxRecDepth 100000 in
set_option maxHeartbeats 4000000 in
theorem c_X4_serviceWith {l : Launch} {D : va_G} {cs : Nat → ClassId} {sa : Nat → Nat} (hl : l.stackTraces = false)  {ad : Nat → Nat} {n : Nat} {E : ES} {S : MS} {o : Nat → Int64} {b : Nat} (hb : b < n) : CM l D cs sa yX4_serviceWith cX4_serviceWith 2 (Option.some Jvm.ClassFile.FieldType.int) (RM 0 0 0) 0 0 [.ref (ad (24 + 2 * b))] (WD ad cs n E S o) (none, some (.int (e_sw E b)), (WD ad cs n E S o)) := by
  refine CM.of RX4 hl (by decide +kernel) rfl (Nat.le_of_ble_eq_true rfl) ?_
  intro p e s m args below meth c A hc ho hmn
  refine j_aload_n hc dX4_serviceWith_0 rfl ?_
  refine gf_X4_133 hc hb dX4_serviceWith_1 ?_
  refine j_iconst hc (v := 3) dX4_serviceWith_4 (by decide) ?_
  refine j_icmp_eq hc 16 dX4_serviceWith_5 (by decide) (fun h5 => ?_) (fun h5 => ?_)
  · -- if_pos h5
    refine j_iconst hc (v := 0) dX4_serviceWith_16 (by decide) ?_
    exact j_iret hc rfl (by decide) (by decide) (by simp only [e_sw, if_pos h5] <;> rfl) dX4_serviceWith_17
  · -- if_neg h5
    refine j_aload_n hc dX4_serviceWith_8 rfl ?_
    refine gf_X4_133 hc hb dX4_serviceWith_9 ?_
    refine j_iconst hc (v := 5) dX4_serviceWith_12 (by decide) ?_
    refine j_icmp_ne hc 18 dX4_serviceWith_13 (by decide) (fun h13 => ?_) (fun h13 => ?_)
    · -- if_neg h13
      refine j_aload_n hc dX4_serviceWith_18 rfl ?_
      refine gf_X4_133 hc hb dX4_serviceWith_19 ?_
      refine j_iconst hc (v := 4) dX4_serviceWith_22 (by decide) ?_
      refine j_icmp_ne hc 37 dX4_serviceWith_23 (by decide) (fun h23 => ?_) (fun h23 => ?_)
      · -- if_neg h23
        refine j_iconst hc (v := 0) dX4_serviceWith_37 (by decide) ?_
        refine j_istore_n hc dX4_serviceWith_38 rfl ?_
        refine j_aload_n hc dX4_serviceWith_39 rfl ?_
        refine gf_X4_133 hc hb dX4_serviceWith_40 ?_
        refine j_iconst hc (v := 2) dX4_serviceWith_43 (by decide) ?_
        refine j_icmp_eq hc 51 dX4_serviceWith_44 (by decide) (fun h44 => ?_) (fun h44 => ?_)
        · -- if_pos h44
          refine j_iconst hc (v := 1) dX4_serviceWith_51 (by decide) ?_
          refine j_goto hc 56 dX4_serviceWith_52 (by decide) ?_
          exact j_iret hc rfl (by decide) (by decide) (by simp only [e_sw, if_neg h5, if_neg h13, if_neg h23, if_pos h44] <;> rfl) dX4_serviceWith_56
        · -- if_neg h44
          refine j_iload_n hc dX4_serviceWith_47 rfl ?_
          refine j_if_eq hc 55 dX4_serviceWith_48 (by decide) (fun h48 => ?_) (fun h48 => by exact absurd (show ¬ (0 : Int32) = (0 : Int32) from h48) (by decide))
          refine j_iconst hc (v := 2) dX4_serviceWith_55 (by decide) ?_
          exact j_iret hc rfl (by decide) (by decide) (by simp only [e_sw, if_neg h5, if_neg h13, if_neg h23, if_neg h44] <;> rfl) dX4_serviceWith_56
      · -- if_pos h23
        refine j_aload_n hc dX4_serviceWith_26 rfl ?_
        refine gf_X4_155 hc hb dX4_serviceWith_27 ?_
        refine j_if_eq hc 37 dX4_serviceWith_30 (by decide) (fun h30 => ?_) (fun h30 => ?_)
        · -- if_pos h30
          refine j_iconst hc (v := 0) dX4_serviceWith_37 (by decide) ?_
          refine j_istore_n hc dX4_serviceWith_38 rfl ?_
          refine j_aload_n hc dX4_serviceWith_39 rfl ?_
          refine gf_X4_133 hc hb dX4_serviceWith_40 ?_
          refine j_iconst hc (v := 2) dX4_serviceWith_43 (by decide) ?_
          refine j_icmp_eq hc 51 dX4_serviceWith_44 (by decide) (fun h44 => ?_) (fun h44 => ?_)
          · -- if_pos h44
            refine j_iconst hc (v := 1) dX4_serviceWith_51 (by decide) ?_
            refine j_goto hc 56 dX4_serviceWith_52 (by decide) ?_
            exact j_iret hc rfl (by decide) (by decide) (by simp only [e_sw, if_neg h5, if_neg h13, if_pos h23, if_pos h30, if_pos h44] <;> rfl) dX4_serviceWith_56
          · -- if_neg h44
            refine j_iload_n hc dX4_serviceWith_47 rfl ?_
            refine j_if_eq hc 55 dX4_serviceWith_48 (by decide) (fun h48 => ?_) (fun h48 => by exact absurd (show ¬ (0 : Int32) = (0 : Int32) from h48) (by decide))
            refine j_iconst hc (v := 2) dX4_serviceWith_55 (by decide) ?_
            exact j_iret hc rfl (by decide) (by decide) (by simp only [e_sw, if_neg h5, if_neg h13, if_pos h23, if_pos h30, if_neg h44] <;> rfl) dX4_serviceWith_56
        · -- if_neg h30
          refine j_iconst hc (v := 1) dX4_serviceWith_33 (by decide) ?_
          refine j_goto hc 38 dX4_serviceWith_34 (by decide) ?_
          refine j_istore_n hc dX4_serviceWith_38 rfl ?_
          refine j_aload_n hc dX4_serviceWith_39 rfl ?_
          refine gf_X4_133 hc hb dX4_serviceWith_40 ?_
          refine j_iconst hc (v := 2) dX4_serviceWith_43 (by decide) ?_
          refine j_icmp_eq hc 51 dX4_serviceWith_44 (by decide) (fun h44 => ?_) (fun h44 => ?_)
          · -- if_pos h44
            refine j_iconst hc (v := 1) dX4_serviceWith_51 (by decide) ?_
            refine j_goto hc 56 dX4_serviceWith_52 (by decide) ?_
            exact j_iret hc rfl (by decide) (by decide) (by simp only [e_sw, if_neg h5, if_neg h13, if_pos h23, if_neg h30, if_pos h44] <;> rfl) dX4_serviceWith_56
          · -- if_neg h44
            refine j_iload_n hc dX4_serviceWith_47 rfl ?_
            refine j_if_eq hc 55 dX4_serviceWith_48 (by decide) (fun h48 => by exact absurd (show (1 : Int32) = (0 : Int32) from h48) (by decide)) (fun h48 => ?_)
            refine j_iconst hc (v := 1) dX4_serviceWith_51 (by decide) ?_
            refine j_goto hc 56 dX4_serviceWith_52 (by decide) ?_
            exact j_iret hc rfl (by decide) (by decide) (by simp only [e_sw, if_neg h5, if_neg h13, if_pos h23, if_neg h30, if_neg h44] <;> rfl) dX4_serviceWith_56
    · -- if_pos h13
      refine j_iconst hc (v := 0) dX4_serviceWith_16 (by decide) ?_
      exact j_iret hc rfl (by decide) (by decide) (by simp only [e_sw, if_neg h5, if_pos h13] <;> rfl) dX4_serviceWith_17
set_option maxRecDepth 100000 in
set_option maxHeartbeats 4000000 in
theorem c_X4_failUnansweredTries {l : Launch} {D : va_G} {cs : Nat → ClassId} {sa : Nat → Nat} (hl : l.stackTraces = false)  {ad : Nat → Nat} {n : Nat} {E : ES} {S : MS} {o : Nat → Int64} (hn30 : n ≤ 30) : CM l D cs sa yX4_failUnansweredTries cX4_failUnansweredTries 3 (Option.none : Option Jvm.ClassFile.FieldType) (RM 4 0 0) 0 0 [.ref (ad 0)] (WD ad cs n E S o) (none, none, WD ad cs n (e_fut n 30 0 E) S o) := by
  refine CM.of RX4 hl (by decide +kernel) rfl (Nat.le_of_ble_eq_true rfl) ?_
  intro p e s m args below meth c A hc ho hmn
  have loop : ∀ (k i : Nat) (E2 : ES), i + k = 30 → e_fut n 30 0 E = e_fut n k i E2 → J p l e (RM 4 0 0) s m args below meth c D A 3 0 0 (QE below args s D A 0 0 (WD ad cs n E S o) (none, none, WD ad cs n (e_fut n 30 0 E) S o)) (WD ad cs n E2 S o) 2 [(0, .ref (ad 0)), (1, .int (nI i))] [] := by
    intro k
    induction k with
    | zero =>
      intro i E2 hi hd
      refine j_iload_n hc dX4_failUnansweredTries_2 rfl ?_
      refine j_aload_n hc dX4_failUnansweredTries_3 rfl ?_
      refine gf_X4_40 hc dX4_failUnansweredTries_4 ?_
      refine ln_row hc dX4_failUnansweredTries_7 ?_
      refine j_icmp_ge hc 42 dX4_failUnansweredTries_8 (by decide) (fun h8 => ?_) (fun h8 => by exact absurd h8 (fun z => z (nI_le (a := 30) (by omega) (by omega))))
      exact j_vret hc rfl (by decide) (by decide) (by rw [hd]; rfl) dX4_failUnansweredTries_42
    | succ k ih =>
      intro i E2 hi hd
      refine j_iload_n hc dX4_failUnansweredTries_2 rfl ?_
      refine j_aload_n hc dX4_failUnansweredTries_3 rfl ?_
      refine gf_X4_40 hc dX4_failUnansweredTries_4 ?_
      refine ln_row hc dX4_failUnansweredTries_7 ?_
      refine j_icmp_ge hc 42 dX4_failUnansweredTries_8 (by decide) (fun h8 => by exact absurd h8 (nI_ge (b := 30) (by omega) (by omega))) (fun h8 => ?_)
      refine j_aload_n hc dX4_failUnansweredTries_11 rfl ?_
      refine gf_X4_40 hc dX4_failUnansweredTries_12 ?_
      refine j_iload_n hc dX4_failUnansweredTries_15 rfl ?_
      by_cases hb : i < n
      · refine al_row hc hb hn30 rfl dX4_failUnansweredTries_16 ?_
        refine j_astore_n hc dX4_failUnansweredTries_17 rfl ?_
        refine j_aload_n hc dX4_failUnansweredTries_18 rfl ?_
        refine j_ifnull hc dX4_failUnansweredTries_19 ?_
        refine j_aload_n hc dX4_failUnansweredTries_22 rfl ?_
        refine gf_X4_133 hc hb dX4_failUnansweredTries_23 ?_
        refine j_iconst hc (v := 1) dX4_failUnansweredTries_26 (by decide) ?_
        refine j_icmp_ne hc 36 dX4_failUnansweredTries_27 (by decide) (fun h27 => ?_) (fun h27 => ?_)
        · -- if_neg h27
          refine j_inc hc dX4_failUnansweredTries_36 rfl (z := 1) (by decide) rfl ?_
          refine j_goto hc 2 dX4_failUnansweredTries_39 (by decide) ?_
          refine j_lv [(0, .ref (ad 0)), (1, .int (nI i + 1))] ⟨rfl, rfl, trivial⟩ ?_
          rw [nI_1]
          exact ih (i + 1) _ (by omega) (by rw [hd]; simp only [e_fut, if_neg h8, if_pos hb, if_neg h27])
        · -- if_pos h27
          refine j_aload_n hc dX4_failUnansweredTries_30 rfl ?_
          refine j_aload_n hc dX4_failUnansweredTries_31 rfl ?_
          refine j_iconst hc (v := 4) dX4_failUnansweredTries_32 (by decide) ?_
          refine j_callV hc ho (c_X4_fail hl hb (by decide)) vc_X4_145 rfl ⟨rfl, rfl, by decide, by decide⟩ 0 rfl rfl rfl (Nat.le_of_ble_eq_true rfl) ⟨by decide, by decide⟩ dX4_failUnansweredTries_33 ⟨by decide, by decide⟩ (fun _ h => by cases h) (fun hr33 => ?_)
          refine j_inc hc dX4_failUnansweredTries_36 rfl (z := 1) (by decide) rfl ?_
          refine j_goto hc 2 dX4_failUnansweredTries_39 (by decide) ?_
          refine j_lv [(0, .ref (ad 0)), (1, .int (nI i + 1))] ⟨rfl, rfl, trivial⟩ ?_
          rw [nI_1]
          exact ih (i + 1) _ (by omega) (by rw [hd]; simp only [e_fut, if_neg h8, if_pos hb, if_pos h27])
      · refine al_rowN hc hb (by omega) rfl dX4_failUnansweredTries_16 ?_
        refine j_astore_nN hc dX4_failUnansweredTries_17 rfl ?_
        refine j_aload_nN hc dX4_failUnansweredTries_18 rfl ?_
        refine j_ifnullN hc 36 dX4_failUnansweredTries_19 (by decide) ?_
        refine j_inc hc dX4_failUnansweredTries_36 rfl (z := 1) (by decide) rfl ?_
        refine j_goto hc 2 dX4_failUnansweredTries_39 (by decide) ?_
        refine j_lv [(0, .ref (ad 0)), (1, .int (nI i + 1))] ⟨rfl, rfl, trivial⟩ ?_
        rw [nI_1]
        exact ih (i + 1) _ (by omega) (by rw [hd]; simp only [e_fut, if_neg h8, if_neg hb])
  refine j_iconst hc (v := 0) dX4_failUnansweredTries_0 (by decide) ?_
  refine j_istore_n hc dX4_failUnansweredTries_1 rfl ?_
  refine j_lv [(0, .ref (ad 0)), (1, .int 0)] ⟨rfl, rfl, trivial⟩ ?_
  exact loop 30 0 E rfl rfl
set_option maxRecDepth 100000 in
set_option maxHeartbeats 4000000 in
theorem c_X4_lookAtBills {l : Launch} {D : va_G} {cs : Nat → ClassId} {sa : Nat → Nat} (hl : l.stackTraces = false)  {ad : Nat → Nat} {n : Nat} {E : ES} {S : MS} {o : Nat → Int64} (hn30 : n ≤ 30) : CM l D cs sa yX4_lookAtBills cX4_lookAtBills 4 (Option.some Jvm.ClassFile.FieldType.int) (RM 5 0 0) 0 0 [.ref (ad 0)] (WD ad cs n E S o) (none, some (.int (e_lab n 30 0 0 E).1), WD ad cs n (e_lab n 30 0 0 E).2 S o) := by
  refine CM.of RX4 hl (by decide +kernel) rfl (Nat.le_of_ble_eq_true rfl) ?_
  intro p e s m args below meth c A hc ho hmn
  have loop : ∀ (k i : Nat) (c0 : Int32) (E2 : ES), i + k = 30 → e_lab n 30 0 0 E = e_lab n k i c0 E2 → J p l e (RM 5 0 0) s m args below meth c D A 4 0 0 (QE below args s D A 0 0 (WD ad cs n E S o) (none, some (.int (e_lab n 30 0 0 E).1), WD ad cs n (e_lab n 30 0 0 E).2 S o)) (WD ad cs n E2 S o) 4 [(0, .ref (ad 0)), (1, .int c0), (2, .int (nI i))] [] := by
    intro k
    induction k with
    | zero =>
      intro i c0 E2 hi hd
      refine j_iload_n hc dX4_lookAtBills_4 rfl ?_
      refine j_aload_n hc dX4_lookAtBills_5 rfl ?_
      refine gf_X4_40 hc dX4_lookAtBills_6 ?_
      refine ln_row hc dX4_lookAtBills_9 ?_
      refine j_icmp_ge hc 41 dX4_lookAtBills_10 (by decide) (fun h10 => ?_) (fun h10 => by exact absurd h10 (fun z => z (nI_le (a := 30) (by omega) (by omega))))
      refine j_iload_n hc dX4_lookAtBills_41 rfl ?_
      exact j_iret hc rfl (by decide) (by decide) (by rw [hd]; rfl) dX4_lookAtBills_42
    | succ k ih =>
      intro i c0 E2 hi hd
      refine j_iload_n hc dX4_lookAtBills_4 rfl ?_
      refine j_aload_n hc dX4_lookAtBills_5 rfl ?_
      refine gf_X4_40 hc dX4_lookAtBills_6 ?_
      refine ln_row hc dX4_lookAtBills_9 ?_
      refine j_icmp_ge hc 41 dX4_lookAtBills_10 (by decide) (fun h10 => by exact absurd h10 (nI_ge (b := 30) (by omega) (by omega))) (fun h10 => ?_)
      refine j_aload_n hc dX4_lookAtBills_13 rfl ?_
      refine gf_X4_40 hc dX4_lookAtBills_14 ?_
      refine j_iload_n hc dX4_lookAtBills_17 rfl ?_
      by_cases hb : i < n
      · refine al_row hc hb hn30 rfl dX4_lookAtBills_18 ?_
        refine j_astore_n hc dX4_lookAtBills_19 rfl ?_
        refine j_aload_n hc dX4_lookAtBills_20 rfl ?_
        refine j_ifnull hc dX4_lookAtBills_21 ?_
        refine j_aload_n hc dX4_lookAtBills_24 rfl ?_
        refine j_aload_n hc dX4_lookAtBills_25 rfl ?_
        refine j_callV hc ho (c_X4_lookAt hl hb) vc_X4_240 rfl ⟨rfl, rfl, by decide, by decide⟩ 0 rfl rfl rfl (Nat.le_of_ble_eq_true rfl) ⟨by decide, by decide⟩ dX4_lookAtBills_26 ⟨by decide, by decide⟩ (fun _ h => by cases h) (fun hr26 => ?_)
        refine j_if_eq hc 35 dX4_lookAtBills_29 (by decide) (fun h29 => ?_) (fun h29 => ?_)
        · -- if_pos h29
          refine j_inc hc dX4_lookAtBills_35 rfl (z := 1) (by decide) rfl ?_
          refine j_goto hc 4 dX4_lookAtBills_38 (by decide) ?_
          refine j_lv [(0, .ref (ad 0)), (1, .int c0), (2, .int (nI i + 1))] ⟨rfl, rfl, rfl, trivial⟩ ?_
          rw [nI_1]
          exact ih (i + 1) _ _ (by omega) (by rw [hd]; simp only [e_lab, if_neg h10, if_pos hb, if_pos h29])
        · -- if_neg h29
          refine j_inc hc dX4_lookAtBills_32 rfl (z := 1) (by decide) rfl ?_
          refine j_inc hc dX4_lookAtBills_35 rfl (z := 1) (by decide) rfl ?_
          refine j_goto hc 4 dX4_lookAtBills_38 (by decide) ?_
          refine j_lv [(0, .ref (ad 0)), (1, .int (c0 + 1)), (2, .int (nI i + 1))] ⟨rfl, rfl, rfl, trivial⟩ ?_
          rw [nI_1]
          exact ih (i + 1) _ _ (by omega) (by rw [hd]; simp only [e_lab, if_neg h10, if_pos hb, if_neg h29])
      · refine al_rowN hc hb (by omega) rfl dX4_lookAtBills_18 ?_
        refine j_astore_nN hc dX4_lookAtBills_19 rfl ?_
        refine j_aload_nN hc dX4_lookAtBills_20 rfl ?_
        refine j_ifnullN hc 35 dX4_lookAtBills_21 (by decide) ?_
        refine j_inc hc dX4_lookAtBills_35 rfl (z := 1) (by decide) rfl ?_
        refine j_goto hc 4 dX4_lookAtBills_38 (by decide) ?_
        refine j_lv [(0, .ref (ad 0)), (1, .int c0), (2, .int (nI i + 1))] ⟨rfl, rfl, rfl, trivial⟩ ?_
        rw [nI_1]
        exact ih (i + 1) _ _ (by omega) (by rw [hd]; simp only [e_lab, if_neg h10, if_neg hb])
  refine j_iconst hc (v := 0) dX4_lookAtBills_0 (by decide) ?_
  refine j_istore_n hc dX4_lookAtBills_1 rfl ?_
  refine j_iconst hc (v := 0) dX4_lookAtBills_2 (by decide) ?_
  refine j_istore_n hc dX4_lookAtBills_3 rfl ?_
  refine j_lv [(0, .ref (ad 0)), (1, .int 0), (2, .int 0)] ⟨rfl, rfl, rfl, trivial⟩ ?_
  exact loop 30 0 0 E rfl rfl
end
section
def ush (x k : Int32) : Int32 := (x.toUInt32 >>> (k.toUInt32 &&& Int32.toUInt32 31)).toInt32
/-- Integer.bitCount -/
def e_bc (x : Int32) : Int32 :=
  let x1 := x - (ush x 1 &&& 1431655765)
  let x2 := (x1 &&& 858993459) + (ush x1 2 &&& 858993459)
  let x3 := (x2 + ush x2 4) &&& 252645135
  let x4 := x3 + ush x3 8
  let x5 := x4 + ush x4 16
  x5 &&& 63
theorem fb_lt {n : Nat} {k : Int32} (h : e_fb n k = none) : k.toNatClampNeg < n := by
  unfold e_fb at h
  split at h
  · cases h
  · split at h
    · cases h
    · split at h
      · assumption
      · cases h
theorem fb_in {n : Nat} {k : Int32} (h : e_fb n k = none) : vp_in k 30 := by
  unfold e_fb at h
  split at h
  · cases h
  · rename_i h1
    split at h
    · cases h
    · rename_i h2
      exact vpi (n := 30) h1 h2 (by decide)
theorem rng_none {k x y : Int32} (h : e_rng k x y = none) : x.toInt ≤ k.toInt ∧ k.toInt ≤ y.toInt := by
  unfold e_rng at h
  split at h
  · cases h
  · rename_i h1
    split at h
    · rename_i h2
      rw [i32_lt] at h1
      rw [i32_le] at h2
      omega
    · cases h
/-- a throw, or the answer of a state -/
def e_setWeekday (E : ES) (k f : Int32) : ER := if k < 0 then (some xIO, 0, E) else if k < 7 then (if e_ww E k f = 0 then (some xIS, 0, E) else (none, e_bc (e_ww E k f), eG E 12 (e_ww E k f))) else (some xIO, 0, E)
def e_addHoliday (E : ES) (d : Int32) : ER := ck (e_rng d (E.1 5 + 1) (E.1 5 + 60)) E (none, if e_hol E d = 0 then 1 else 0, e_khol E d)
def e_addGap (E : ES) (r v : Int32) : ER := ck (e_rsn r) E (ck (e_rng v 1 30) E (if E.1 (14 + (r - 1).toNatClampNeg) < 6 then (none, (e_app E (r - 1).toNatClampNeg v).1 (14 + (r - 1).toNatClampNeg), e_app E (r - 1).toNatClampNeg v) else (some xIS, 0, E)))
def e_clearGaps (E : ES) (r : Int32) : ER := ck (e_rsn r) E (none, E.1 (14 + (r - 1).toNatClampNeg), eG E (14 + (r - 1).toNatClampNeg) 0)
def e_setTimes (E : ES) (x y : Int32) : ER := ck (e_rng x 1 60) E (ck (e_rng y 1 90) E (none, E.1 6, eG (eG E 6 x) 7 y))
def e_outcome (n : Nat) (E : ES) (p x : Int32) : ER := ck (e_fb n p) E (ck (e_rng x 0 4) E (if E.2.1 4 p.toNatClampNeg = 1 then (if x = 0 then (none, (e_take E p.toNatClampNeg (E.2.1 3 p.toNatClampNeg)).2.1 4 p.toNatClampNeg, e_take E p.toNatClampNeg (E.2.1 3 p.toNatClampNeg)) else (none, (e_fail E p.toNatClampNeg x).2.1 4 p.toNatClampNeg, e_fail E p.toNatClampNeg x)) else (some xIS, 0, E)))
def e_pay (n : Nat) (E : ES) (p v : Int32) : ER := ck (e_fb n p) E (ck (e_rng v 1 9999) E (if E.2.1 4 p.toNatClampNeg = 1 then (some xIS, 0, E) else if E.2.1 4 p.toNatClampNeg = 6 then (some xIS, 0, E) else if v ≤ E.2.1 3 p.toNatClampNeg then (none, (e_take E p.toNatClampNeg v).2.1 3 p.toNatClampNeg, e_take E p.toNatClampNeg v) else (some xIS, 0, E)))
def e_prom1 (E : ES) (b : Nat) (v : Int32) : ES :=
  let E1 := eV E 7 b (E.2.1 7 b + 1)
  let E2 := eV E1 9 b (E1.2.1 4 b)
  let E3 := eV E2 10 b (E2.2.1 5 b - E2.1 5)
  e_enter E3 b 4 (E3.1 5 + v)
def e_prom0 (E : ES) (b : Nat) (v : Int32) : ER := if E.2.1 7 b < 2 then (none, (e_prom1 E b v).2.1 5 b, e_prom1 E b v) else (some xIS, 0, E)
def e_promise (n : Nat) (E : ES) (p v : Int32) : ER := ck (e_fb n p) E (ck (e_rng v 1 30) E (if E.2.1 4 p.toNatClampNeg = 0 then e_prom0 E p.toNatClampNeg v else if E.2.1 4 p.toNatClampNeg = 2 then e_prom0 E p.toNatClampNeg v else if E.2.1 4 p.toNatClampNeg = 3 then e_prom0 E p.toNatClampNeg v else (some xIS, 0, E)))
def e_day (n : Nat) (E : ES) : Int32 × ES := e_lab n 30 0 0 (eG (e_fut n 30 0 E) 5 ((e_fut n 30 0 E).1 5 + 1))
def e_days (n : Nat) : Nat → Int32 → ES → Int32 × ES
  | 0, c, E => (c, E)
  | k + 1, c, E => e_days n k (c + (e_day n E).1) (e_day n E).2
def e_pass (n : Nat) (E : ES) (p : Int32) : ER := ck (e_rng p 1 60) E (none, (e_days n p.toNatClampNeg 0 E).1, (e_days n p.toNatClampNeg 0 E).2)
def e_isCharging (E : ES) (d : Int32) : ER := ck (e_rng d 0 1000000) E (none, e_chg E d, E)
def e_bf (n : Nat) (E : ES) (k : Nat) (p : Int32) : ER := ck (e_fb n p) E (none, E.2.1 k p.toNatClampNeg, E)
def e_failures (n : Nat) (E : ES) (p r : Int32) : ER := ck (e_fb n p) E (ck (e_rsn r) E (none, E.2.1 (40 + p.toNatClampNeg) (r - 1).toNatClampNeg, E))
def e_svc (n : Nat) (E : ES) (x : Int32) : Nat → Nat → Int32 → Int32
  | 0, _, c => c
  | k + 1, i, c => if i < n then (if E.2.1 1 i = x then e_svc n E x k (i + 1) (if e_sw E i < c then e_sw E i else c) else e_svc n E x k (i + 1) c) else e_svc n E x k (i + 1) c
def e_service (n : Nat) (E : ES) (x : Int32) : ER := ck (e_acc x) E (none, e_svc n E x 30 0 2, E)
def e_lin (n : Nat) (E : ES) (x y : Int32) : Nat → Nat → Int32 → Int32
  | 0, _, c => c
  | k + 1, i, c => if i < n then (if E.2.1 1 i = x then (if E.2.1 4 i = y then e_lin n E x y k (i + 1) (c + E.2.1 3 i) else e_lin n E x y k (i + 1) c) else e_lin n E x y k (i + 1) c) else e_lin n E x y k (i + 1) c
def e_leftIn (n : Nat) (E : ES) (x y : Int32) : ER := ck (e_acc x) E (ck (e_rng y 0 6) E (none, e_lin n E x y 30 0 0, E))
def e_event (E : ES) (k : Int32) : ER := if k < 0 then (some xIO, 0, E) else if k < e_told E then (none, e_cda E k, E) else (some xIO, 0, E)
def e_stateAt (n : Nat) (E : ES) (p d : Int32) : ER := ck (e_fb n p) E (ck (e_rng d 0 (E.1 5)) E (none, e_lso E p d (e_told E).toNatClampNeg 0, E))
set_option maxRecDepth 100000 in
set_option maxHeartbeats 4000000 in
theorem c_J6_bitCount_0f7a4 {l : Launch} {D : va_G} {cs : Nat → ClassId} {sa : Nat → Nat} (hl : l.stackTraces = false)  {w : va_W} {x : Int32} : CM l D cs sa yJ6_bitCount_0f7a4 cJ6_bitCount_0f7a4 1 (Option.some Jvm.ClassFile.FieldType.int) (RM 0 0 0) 0 0 [.int x] w (none, some (.int (e_bc x)), w) := by
  refine CM.ofF RJ6 hl (by decide +kernel) rfl (Nat.le_of_ble_eq_true rfl) ?_
  intro p e s m args below meth c A hc ho hmn
  refine j_iload_n hc dJ6_bitCount_0f7a4_0 rfl ?_
  refine j_iload_n hc dJ6_bitCount_0f7a4_1 rfl ?_
  refine j_iconst hc (v := 1) dJ6_bitCount_0f7a4_2 (by decide) ?_
  refine j_iushr hc dJ6_bitCount_0f7a4_3 ?_
  refine j_ldcw hc wt_413 dJ6_bitCount_0f7a4_4 ?_
  refine j_iand hc dJ6_bitCount_0f7a4_7 ?_
  refine j_isub hc dJ6_bitCount_0f7a4_8 ?_
  refine j_istore_n hc dJ6_bitCount_0f7a4_9 rfl ?_
  refine j_iload_n hc dJ6_bitCount_0f7a4_10 rfl ?_
  refine j_ldcw hc wt_414 dJ6_bitCount_0f7a4_11 ?_
  refine j_iand hc dJ6_bitCount_0f7a4_14 ?_
  refine j_iload_n hc dJ6_bitCount_0f7a4_15 rfl ?_
  refine j_iconst hc (v := 2) dJ6_bitCount_0f7a4_16 (by decide) ?_
  refine j_iushr hc dJ6_bitCount_0f7a4_17 ?_
  refine j_ldcw hc wt_414 dJ6_bitCount_0f7a4_18 ?_
  refine j_iand hc dJ6_bitCount_0f7a4_21 ?_
  refine j_iadd hc dJ6_bitCount_0f7a4_22 ?_
  refine j_istore_n hc dJ6_bitCount_0f7a4_23 rfl ?_
  refine j_iload_n hc dJ6_bitCount_0f7a4_24 rfl ?_
  refine j_iload_n hc dJ6_bitCount_0f7a4_25 rfl ?_
  refine j_iconst hc (v := 4) dJ6_bitCount_0f7a4_26 (by decide) ?_
  refine j_iushr hc dJ6_bitCount_0f7a4_27 ?_
  refine j_iadd hc dJ6_bitCount_0f7a4_28 ?_
  refine j_ldcw hc wt_415 dJ6_bitCount_0f7a4_29 ?_
  refine j_iand hc dJ6_bitCount_0f7a4_32 ?_
  refine j_istore_n hc dJ6_bitCount_0f7a4_33 rfl ?_
  refine j_iload_n hc dJ6_bitCount_0f7a4_34 rfl ?_
  refine j_iload_n hc dJ6_bitCount_0f7a4_35 rfl ?_
  refine j_bipush hc (v := 8) dJ6_bitCount_0f7a4_36 (by decide) ?_
  refine j_iushr hc dJ6_bitCount_0f7a4_38 ?_
  refine j_iadd hc dJ6_bitCount_0f7a4_39 ?_
  refine j_istore_n hc dJ6_bitCount_0f7a4_40 rfl ?_
  refine j_iload_n hc dJ6_bitCount_0f7a4_41 rfl ?_
  refine j_iload_n hc dJ6_bitCount_0f7a4_42 rfl ?_
  refine j_bipush hc (v := 16) dJ6_bitCount_0f7a4_43 (by decide) ?_
  refine j_iushr hc dJ6_bitCount_0f7a4_45 ?_
  refine j_iadd hc dJ6_bitCount_0f7a4_46 ?_
  refine j_istore_n hc dJ6_bitCount_0f7a4_47 rfl ?_
  refine j_iload_n hc dJ6_bitCount_0f7a4_48 rfl ?_
  refine j_bipush hc (v := 63) dJ6_bitCount_0f7a4_49 (by decide) ?_
  refine j_iand hc dJ6_bitCount_0f7a4_51 ?_
  exact j_iret hc rfl (by decide) (by decide) (rfl) dJ6_bitCount_0f7a4_52
set_option maxRecDepth 100000 in
set_option maxHeartbeats 4000000 in
theorem c_X4_setWeekday {l : Launch} {D : va_G} {cs : Nat → ClassId} {sa : Nat → Nat} (hl : l.stackTraces = false)  {ad : Nat → Nat} {n : Nat} {E : ES} {S : MS} {o : Nat → Int64} {k f : Int32} : CM l D cs sa yX4_setWeekday cX4_setWeekday 4 (Option.some Jvm.ClassFile.FieldType.int) (RM 7 8 64) 8 64 [.ref (ad 0), .int k, .int f] (WD ad cs n E S o) ((e_setWeekday E k f).1, some (.int (e_setWeekday E k f).2.1), WD ad cs n (e_setWeekday E k f).2.2 S o) := by
  refine CM.of RX4 hl (by decide +kernel) rfl (Nat.le_of_ble_eq_true rfl) ?_
  intro p e s m args below meth c A hc ho hmn
  refine j_iload_n hc dX4_setWeekday_0 rfl ?_
  refine j_if_lt hc 10 dX4_setWeekday_1 (by decide) (fun h1 => ?_) (fun h1 => ?_)
  · -- if_pos h1
    exact j_thr_62 hc ho 60 (tx := "no such weekday") (by decide) dX4_setWeekday_10 dX4_setWeekday_13 dX4_setWeekday_14 dX4_setWeekday_16 dX4_setWeekday_19 (by decide) (Nat.le_of_ble_eq_true rfl) (by decide) (by decide) (by decide) (by decide) ⟨by simp only [e_setWeekday, if_pos h1] <;> rfl, rfl⟩
  · -- if_neg h1
    refine j_iload_n hc dX4_setWeekday_4 rfl ?_
    refine j_bipush hc (v := 7) dX4_setWeekday_5 (by decide) ?_
    refine j_icmp_lt hc 20 dX4_setWeekday_7 (by decide) (fun h7 => ?_) (fun h7 => ?_)
    · -- if_pos h7
      refine j_aload_n hc dX4_setWeekday_20 rfl ?_
      refine gf_X4_10 hc dX4_setWeekday_21 ?_
      refine j_iload_n hc dX4_setWeekday_24 rfl ?_
      refine j_iload_n hc dX4_setWeekday_25 rfl ?_
      refine j_callV hc ho (c_X1_weekdaysWith hl) vc_X4_65 rfl ⟨rfl, rfl, by decide, by decide⟩ 1 rfl rfl rfl (Nat.le_of_ble_eq_true rfl) ⟨by decide, by decide⟩ dX4_setWeekday_26 ⟨by decide, by decide⟩ (fun _ h => by cases h) (fun hr26 => ?_)
      refine j_istore_n hc dX4_setWeekday_29 rfl ?_
      refine j_iload_n hc dX4_setWeekday_30 rfl ?_
      refine j_if_ne hc 44 dX4_setWeekday_31 (by decide) (fun h31 => ?_) (fun h31 => ?_)
      · -- if_neg h31
        refine j_aload_n hc dX4_setWeekday_44 rfl ?_
        refine gf_X4_10 hc dX4_setWeekday_45 ?_
        refine j_iload_n hc dX4_setWeekday_48 rfl ?_
        refine pf_X4_74 hc dX4_setWeekday_49 ?_
        refine j_iload_n hc dX4_setWeekday_52 rfl ?_
        refine j_callS hc ho (c_J6_bitCount_0f7a4 hl) sc_X4_77 rfl ⟨rfl, rfl, by decide, by decide⟩ rfl (Nat.le_of_ble_eq_true rfl) ⟨by decide, by decide⟩ dX4_setWeekday_53 ⟨by decide, by decide⟩ (fun _ h => by cases h) (fun hr53 => ?_)
        exact j_iret hc rfl (by decide) (by decide) (by simp only [e_setWeekday, if_neg h1, if_pos h7, if_neg h31] <;> rfl) dX4_setWeekday_56
      · -- if_pos h31
        exact j_thr_73 hc ho 71 (tx := "no weekday would be left for charging") (by decide) dX4_setWeekday_34 dX4_setWeekday_37 dX4_setWeekday_38 dX4_setWeekday_40 dX4_setWeekday_43 (by decide) (Nat.le_of_ble_eq_true rfl) (by decide) (by decide) (by decide) (by decide) ⟨by simp only [e_setWeekday, if_neg h1, if_pos h7, if_pos h31] <;> rfl, rfl⟩
    · -- if_neg h7
      exact j_thr_62 hc ho 60 (tx := "no such weekday") (by decide) dX4_setWeekday_10 dX4_setWeekday_13 dX4_setWeekday_14 dX4_setWeekday_16 dX4_setWeekday_19 (by decide) (Nat.le_of_ble_eq_true rfl) (by decide) (by decide) (by decide) (by decide) ⟨by simp only [e_setWeekday, if_neg h1, if_neg h7] <;> rfl, rfl⟩
set_option maxRecDepth 100000 in
set_option maxHeartbeats 4000000 in
theorem c_X4_addHoliday {l : Launch} {D : va_G} {cs : Nat → ClassId} {sa : Nat → Nat} (hl : l.stackTraces = false)  {ad : Nat → Nat} {n : Nat} {E : ES} {S : MS} {o : Nat → Int64} {d : Int32} : CM l D cs sa yX4_addHoliday cX4_addHoliday 3 (Option.some Jvm.ClassFile.FieldType.boolean) (RM 7 8 64) 8 64 [.ref (ad 0), .int d] (WD ad cs n E S o) ((e_addHoliday E d).1, some (.int (e_addHoliday E d).2.1), WD ad cs n (e_addHoliday E d).2.2 S o) := by
  refine CM.of RX4 hl (by decide +kernel) rfl (Nat.le_of_ble_eq_true rfl) ?_
  intro p e s m args below meth c A hc ho hmn
  refine j_iload_n hc dX4_addHoliday_0 rfl ?_
  refine j_aload_n hc dX4_addHoliday_1 rfl ?_
  refine gf_X4_83 hc dX4_addHoliday_2 ?_
  refine j_iconst hc (v := 1) dX4_addHoliday_5 (by decide) ?_
  refine j_iadd hc dX4_addHoliday_6 ?_
  refine j_aload_n hc dX4_addHoliday_7 rfl ?_
  refine gf_X4_83 hc dX4_addHoliday_8 ?_
  refine j_bipush hc (v := 60) dX4_addHoliday_11 (by decide) ?_
  refine j_iadd hc dX4_addHoliday_13 ?_
  refine j_callS hc ho (c_X4_checkRange hl) sc_X4_86 rfl ⟨rfl, rfl, by decide, by decide⟩ rfl (Nat.le_of_ble_eq_true rfl) ⟨by decide, by decide⟩ dX4_addHoliday_14 ⟨by decide, by decide⟩ (fun E9 h9 => ⟨by simp only [e_addHoliday, ck_some h9], rfl⟩) (fun hr14 => ?_)
  refine j_aload_n hc dX4_addHoliday_17 rfl ?_
  refine gf_X4_10 hc dX4_addHoliday_18 ?_
  refine j_iload_n hc dX4_addHoliday_21 rfl ?_
  refine j_callV hc ho (c_X1_isHoliday hl) vc_X4_90 rfl ⟨rfl, rfl, by decide, by decide⟩ 1 rfl rfl rfl (Nat.le_of_ble_eq_true rfl) ⟨by decide, by decide⟩ dX4_addHoliday_22 ⟨by decide, by decide⟩ (fun _ h => by cases h) (fun hr22 => ?_)
  refine j_if_ne hc 32 dX4_addHoliday_25 (by decide) (fun h25 => ?_) (fun h25 => ?_)
  · -- if_neg h25
    refine j_iconst hc (v := 0) dX4_addHoliday_32 (by decide) ?_
    refine j_istore_n hc dX4_addHoliday_33 rfl ?_
    refine j_aload_n hc dX4_addHoliday_34 rfl ?_
    refine gf_X4_10 hc dX4_addHoliday_35 ?_
    refine j_iload_n hc dX4_addHoliday_38 rfl ?_
    refine j_callV hc ho (c_X1_keepHoliday hl) vc_X4_94 rfl ⟨rfl, rfl, by decide, by decide⟩ 1 rfl rfl rfl (Nat.le_of_ble_eq_true rfl) ⟨by decide, by decide⟩ dX4_addHoliday_39 ⟨by decide, by decide⟩ (fun _ h => by cases h) (fun hr39 => ?_)
    refine j_iload_n hc dX4_addHoliday_42 rfl ?_
    exact j_zret hc rfl rfl (by decide) (by decide) (by simp only [e_addHoliday, ck_none hr14, if_neg h25] <;> rfl) dX4_addHoliday_43
  · -- if_pos h25
    refine j_iconst hc (v := 1) dX4_addHoliday_28 (by decide) ?_
    refine j_goto hc 33 dX4_addHoliday_29 (by decide) ?_
    refine j_istore_n hc dX4_addHoliday_33 rfl ?_
    refine j_aload_n hc dX4_addHoliday_34 rfl ?_
    refine gf_X4_10 hc dX4_addHoliday_35 ?_
    refine j_iload_n hc dX4_addHoliday_38 rfl ?_
    refine j_callV hc ho (c_X1_keepHoliday hl) vc_X4_94 rfl ⟨rfl, rfl, by decide, by decide⟩ 1 rfl rfl rfl (Nat.le_of_ble_eq_true rfl) ⟨by decide, by decide⟩ dX4_addHoliday_39 ⟨by decide, by decide⟩ (fun _ h => by cases h) (fun hr39 => ?_)
    refine j_iload_n hc dX4_addHoliday_42 rfl ?_
    exact j_zret hc rfl rfl (by decide) (by decide) (by simp only [e_addHoliday, ck_none hr14, if_pos h25] <;> rfl) dX4_addHoliday_43
set_option maxRecDepth 100000 in
set_option maxHeartbeats 4000000 in
theorem c_X4_addGap {l : Launch} {D : va_G} {cs : Nat → ClassId} {sa : Nat → Nat} (hl : l.stackTraces = false)  {ad : Nat → Nat} {n : Nat} {E : ES} {S : MS} {o : Nat → Int64} {r v : Int32} : CM l D cs sa yX4_addGap cX4_addGap 4 (Option.some Jvm.ClassFile.FieldType.int) (RM 7 8 64) 8 64 [.ref (ad 0), .int r, .int v] (WD ad cs n E S o) ((e_addGap E r v).1, some (.int (e_addGap E r v).2.1), WD ad cs n (e_addGap E r v).2.2 S o) := by
  refine CM.of RX4 hl (by decide +kernel) rfl (Nat.le_of_ble_eq_true rfl) ?_
  intro p e s m args below meth c A hc ho hmn
  refine j_aload_n hc dX4_addGap_0 rfl ?_
  refine gf_X4_34 hc dX4_addGap_1 ?_
  refine j_iload_n hc dX4_addGap_4 rfl ?_
  refine j_callS hc ho (c_X4_indexOfReason hl) sc_X4_98 rfl ⟨rfl, rfl, by decide, by decide⟩ rfl (Nat.le_of_ble_eq_true rfl) ⟨by decide, by decide⟩ dX4_addGap_5 ⟨by decide, by decide⟩ (fun E9 h9 => ⟨by simp only [e_addGap, ck_some h9], rfl⟩) (fun hr5 => ?_)
  refine al_gapsp hc (vrs hr5) dX4_addGap_8 ?_
  refine j_astore_n hc dX4_addGap_9 rfl ?_
  refine j_iload_n hc dX4_addGap_10 rfl ?_
  refine j_iconst hc (v := 1) dX4_addGap_11 (by decide) ?_
  refine j_bipush hc (v := 30) dX4_addGap_12 (by decide) ?_
  refine j_callS hc ho (c_X4_checkRange hl) sc_X4_86 rfl ⟨rfl, rfl, by decide, by decide⟩ rfl (Nat.le_of_ble_eq_true rfl) ⟨by decide, by decide⟩ dX4_addGap_14 ⟨by decide, by decide⟩ (fun E9 h9 => ⟨by simp only [e_addGap, ck_none hr5, ck_some h9], rfl⟩) (fun hr14 => ?_)
  refine j_aload_n hc dX4_addGap_17 rfl ?_
  refine gf_X4_101 hc (vrs4 hr5) dX4_addGap_18 ?_
  refine j_bipush hc (v := 6) dX4_addGap_21 (by decide) ?_
  refine j_icmp_lt hc 36 dX4_addGap_23 (by decide) (fun h23 => ?_) (fun h23 => ?_)
  · -- if_pos h23
    refine j_aload_n hc dX4_addGap_36 rfl ?_
    refine j_iload_n hc dX4_addGap_37 rfl ?_
    refine j_callV hc ho (c_X3_append hl (vrs4 hr5)) vc_X4_106 rfl ⟨rfl, rfl, by decide, by decide⟩ _ (wd_gap (vrs4 hr5)) rfl rfl (Nat.le_of_ble_eq_true rfl) ⟨by decide, by decide⟩ dX4_addGap_38 ⟨by decide, by decide⟩ (fun _ h => by cases h) (fun hr38 => ?_)
    refine j_aload_n hc dX4_addGap_41 rfl ?_
    refine gf_X4_101 hc (vrs4 hr5) dX4_addGap_42 ?_
    exact j_iret hc rfl (by decide) (by decide) (by simp only [e_addGap, ck_none hr5, ck_none hr14, if_pos h23] <;> rfl) dX4_addGap_45
  · -- if_neg h23
    exact j_thr_73 hc ho 104 (tx := "the row of gaps is full") (by decide) dX4_addGap_26 dX4_addGap_29 dX4_addGap_30 dX4_addGap_32 dX4_addGap_35 (by decide) (Nat.le_of_ble_eq_true rfl) (by decide) (by decide) (by decide) (by decide) ⟨by simp only [e_addGap, ck_none hr5, ck_none hr14, if_neg h23] <;> rfl, rfl⟩
set_option maxRecDepth 100000 in
set_option maxHeartbeats 4000000 in
theorem c_X4_clearGaps {l : Launch} {D : va_G} {cs : Nat → ClassId} {sa : Nat → Nat} (hl : l.stackTraces = false)  {ad : Nat → Nat} {n : Nat} {E : ES} {S : MS} {o : Nat → Int64} {r : Int32} : CM l D cs sa yX4_clearGaps cX4_clearGaps 4 (Option.some Jvm.ClassFile.FieldType.int) (RM 7 8 64) 8 64 [.ref (ad 0), .int r] (WD ad cs n E S o) ((e_clearGaps E r).1, some (.int (e_clearGaps E r).2.1), WD ad cs n (e_clearGaps E r).2.2 S o) := by
  refine CM.of RX4 hl (by decide +kernel) rfl (Nat.le_of_ble_eq_true rfl) ?_
  intro p e s m args below meth c A hc ho hmn
  refine j_aload_n hc dX4_clearGaps_0 rfl ?_
  refine gf_X4_34 hc dX4_clearGaps_1 ?_
  refine j_iload_n hc dX4_clearGaps_4 rfl ?_
  refine j_callS hc ho (c_X4_indexOfReason hl) sc_X4_98 rfl ⟨rfl, rfl, by decide, by decide⟩ rfl (Nat.le_of_ble_eq_true rfl) ⟨by decide, by decide⟩ dX4_clearGaps_5 ⟨by decide, by decide⟩ (fun E9 h9 => ⟨by simp only [e_clearGaps, ck_some h9], rfl⟩) (fun hr5 => ?_)
  refine al_gapsp hc (vrs hr5) dX4_clearGaps_8 ?_
  refine j_astore_n hc dX4_clearGaps_9 rfl ?_
  refine j_aload_n hc dX4_clearGaps_10 rfl ?_
  refine gf_X4_101 hc (vrs4 hr5) dX4_clearGaps_11 ?_
  refine j_istore_n hc dX4_clearGaps_14 rfl ?_
  refine j_aload_n hc dX4_clearGaps_15 rfl ?_
  refine j_iconst hc (v := 0) dX4_clearGaps_16 (by decide) ?_
  refine pf_X4_101 hc (vrs4 hr5) dX4_clearGaps_17 ?_
  refine j_iload_n hc dX4_clearGaps_20 rfl ?_
  exact j_iret hc rfl (by decide) (by decide) (by simp only [e_clearGaps, ck_none hr5] <;> rfl) dX4_clearGaps_21
set_option maxRecDepth 100000 in
set_option maxHeartbeats 4000000 in
theorem c_X4_setTimes {l : Launch} {D : va_G} {cs : Nat → ClassId} {sa : Nat → Nat} (hl : l.stackTraces = false)  {ad : Nat → Nat} {n : Nat} {E : ES} {S : MS} {o : Nat → Int64} {x y : Int32} : CM l D cs sa yX4_setTimes cX4_setTimes 4 (Option.some Jvm.ClassFile.FieldType.int) (RM 7 8 64) 8 64 [.ref (ad 0), .int x, .int y] (WD ad cs n E S o) ((e_setTimes E x y).1, some (.int (e_setTimes E x y).2.1), WD ad cs n (e_setTimes E x y).2.2 S o) := by
  refine CM.of RX4 hl (by decide +kernel) rfl (Nat.le_of_ble_eq_true rfl) ?_
  intro p e s m args below meth c A hc ho hmn
  refine j_iload_n hc dX4_setTimes_0 rfl ?_
  refine j_iconst hc (v := 1) dX4_setTimes_1 (by decide) ?_
  refine j_bipush hc (v := 60) dX4_setTimes_2 (by decide) ?_
  refine j_callS hc ho (c_X4_checkRange hl) sc_X4_86 rfl ⟨rfl, rfl, by decide, by decide⟩ rfl (Nat.le_of_ble_eq_true rfl) ⟨by decide, by decide⟩ dX4_setTimes_4 ⟨by decide, by decide⟩ (fun E9 h9 => ⟨by simp only [e_setTimes, ck_some h9], rfl⟩) (fun hr4 => ?_)
  refine j_iload_n hc dX4_setTimes_7 rfl ?_
  refine j_iconst hc (v := 1) dX4_setTimes_8 (by decide) ?_
  refine j_bipush hc (v := 90) dX4_setTimes_9 (by decide) ?_
  refine j_callS hc ho (c_X4_checkRange hl) sc_X4_86 rfl ⟨rfl, rfl, by decide, by decide⟩ rfl (Nat.le_of_ble_eq_true rfl) ⟨by decide, by decide⟩ dX4_setTimes_11 ⟨by decide, by decide⟩ (fun E9 h9 => ⟨by simp only [e_setTimes, ck_none hr4, ck_some h9], rfl⟩) (fun hr11 => ?_)
  refine j_aload_n hc dX4_setTimes_14 rfl ?_
  refine gf_X4_51 hc dX4_setTimes_15 ?_
  refine j_istore_n hc dX4_setTimes_18 rfl ?_
  refine j_aload_n hc dX4_setTimes_19 rfl ?_
  refine j_iload_n hc dX4_setTimes_20 rfl ?_
  refine pf_X4_51 hc dX4_setTimes_21 ?_
  refine j_aload_n hc dX4_setTimes_24 rfl ?_
  refine j_iload_n hc dX4_setTimes_25 rfl ?_
  refine pf_X4_55 hc dX4_setTimes_26 ?_
  refine j_iload_n hc dX4_setTimes_29 rfl ?_
  exact j_iret hc rfl (by decide) (by decide) (by simp only [e_setTimes, ck_none hr4, ck_none hr11] <;> rfl) dX4_setTimes_30
theorem oc_rsn {x : Int32} (h : e_rng x 0 4 = none) (h2 : ¬ x = 0) : e_rsn x = none := by
  have hh := rng_none h
  have e0 : (0 : Int32).toInt = 0 := by decide
  have e1 : (1 : Int32).toInt = 1 := by decide
  have e4 : (4 : Int32).toInt = 4 := by decide
  rw [← Int32.toInt_inj, e0] at h2
  unfold e_rsn
  rw [if_neg (by rw [i32_lt]; omega), if_pos (by rw [i32_le]; omega)]
set_option maxRecDepth 100000 in
set_option maxHeartbeats 4000000 in
theorem c_X4_outcome {l : Launch} {D : va_G} {cs : Nat → ClassId} {sa : Nat → Nat} (hl : l.stackTraces = false)  {ad : Nat → Nat} {n : Nat} {E : ES} {S : MS} {o : Nat → Int64} (hn30 : n ≤ 30) {p0 x : Int32} : CM l D cs sa yX4_outcome cX4_outcome 4 (Option.some Jvm.ClassFile.FieldType.int) (RM 7 8 64) 8 64 [.ref (ad 0), .int p0, .int x] (WD ad cs n E S o) ((e_outcome n E p0 x).1, some (.int (e_outcome n E p0 x).2.1), WD ad cs n (e_outcome n E p0 x).2.2 S o) := by
  refine CM.of RX4 hl (by decide +kernel) rfl (Nat.le_of_ble_eq_true rfl) ?_
  intro p e s m args below meth c A hc ho hmn
  refine j_aload_n hc dX4_outcome_0 rfl ?_
  refine j_iload_n hc dX4_outcome_1 rfl ?_
  refine j_callV hc ho (c_X4_findBill hl hn30) vc_X4_129 rfl ⟨rfl, rfl, by decide, by decide⟩ 0 rfl rfl rfl (Nat.le_of_ble_eq_true rfl) ⟨by decide, by decide⟩ dX4_outcome_2 ⟨by decide, by decide⟩ (fun E9 h9 => ⟨by simp only [e_outcome, ck_some h9], rfl⟩) (fun hr2 => ?_)
  have hb := fb_lt hr2
  refine j_astore_n hc dX4_outcome_5 rfl ?_
  refine j_iload_n hc dX4_outcome_6 rfl ?_
  refine j_iconst hc (v := 0) dX4_outcome_7 (by decide) ?_
  refine j_iconst hc (v := 4) dX4_outcome_8 (by decide) ?_
  refine j_callS hc ho (c_X4_checkRange hl) sc_X4_86 rfl ⟨rfl, rfl, by decide, by decide⟩ rfl (Nat.le_of_ble_eq_true rfl) ⟨by decide, by decide⟩ dX4_outcome_9 ⟨by decide, by decide⟩ (fun E9 h9 => ⟨by simp only [e_outcome, ck_none hr2, ck_some h9], rfl⟩) (fun hr9 => ?_)
  refine j_aload_n hc dX4_outcome_12 rfl ?_
  refine gf_X4_133 hc hb dX4_outcome_13 ?_
  refine j_iconst hc (v := 1) dX4_outcome_16 (by decide) ?_
  refine j_icmp_eq hc 30 dX4_outcome_17 (by decide) (fun h17 => ?_) (fun h17 => ?_)
  · -- if_pos h17
    refine j_iload_n hc dX4_outcome_30 rfl ?_
    refine j_if_ne hc 46 dX4_outcome_31 (by decide) (fun h31 => ?_) (fun h31 => ?_)
    · -- if_neg h31
      refine j_aload_n hc dX4_outcome_46 rfl ?_
      refine j_aload_n hc dX4_outcome_47 rfl ?_
      refine j_iload_n hc dX4_outcome_48 rfl ?_
      refine j_callV hc ho (c_X4_fail hl hb (oc_rsn hr9 h31)) vc_X4_145 rfl ⟨rfl, rfl, by decide, by decide⟩ 0 rfl rfl rfl (Nat.le_of_ble_eq_true rfl) ⟨by decide, by decide⟩ dX4_outcome_49 ⟨by decide, by decide⟩ (fun _ h => by cases h) (fun hr49 => ?_)
      refine j_aload_n hc dX4_outcome_52 rfl ?_
      refine gf_X4_133 hc hb dX4_outcome_53 ?_
      exact j_iret hc rfl (by decide) (by decide) (by simp only [e_outcome, ck_none hr2, ck_none hr9, if_pos h17, if_neg h31] <;> rfl) dX4_outcome_56
    · -- if_pos h31
      refine j_aload_n hc dX4_outcome_34 rfl ?_
      refine j_aload_n hc dX4_outcome_35 rfl ?_
      refine j_aload_n hc dX4_outcome_36 rfl ?_
      refine gf_X4_138 hc hb dX4_outcome_37 ?_
      refine j_callV hc ho (c_X4_takePayment hl hb) vc_X4_141 rfl ⟨rfl, rfl, by decide, by decide⟩ 0 rfl rfl rfl (Nat.le_of_ble_eq_true rfl) ⟨by decide, by decide⟩ dX4_outcome_40 ⟨by decide, by decide⟩ (fun _ h => by cases h) (fun hr40 => ?_)
      refine j_goto hc 52 dX4_outcome_43 (by decide) ?_
      refine j_aload_n hc dX4_outcome_52 rfl ?_
      refine gf_X4_133 hc hb dX4_outcome_53 ?_
      exact j_iret hc rfl (by decide) (by decide) (by simp only [e_outcome, ck_none hr2, ck_none hr9, if_pos h17, if_pos h31] <;> rfl) dX4_outcome_56
  · -- if_neg h17
    exact j_thr_73 hc ho 136 (tx := "the bill is not being tried") (by decide) dX4_outcome_20 dX4_outcome_23 dX4_outcome_24 dX4_outcome_26 dX4_outcome_29 (by decide) (Nat.le_of_ble_eq_true rfl) (by decide) (by decide) (by decide) (by decide) ⟨by simp only [e_outcome, ck_none hr2, ck_none hr9, if_neg h17] <;> rfl, rfl⟩
set_option maxRecDepth 100000 in
set_option maxHeartbeats 4000000 in
theorem c_X4_pay {l : Launch} {D : va_G} {cs : Nat → ClassId} {sa : Nat → Nat} (hl : l.stackTraces = false)  {ad : Nat → Nat} {n : Nat} {E : ES} {S : MS} {o : Nat → Int64} (hn30 : n ≤ 30) {p0 v : Int32} : CM l D cs sa yX4_pay cX4_pay 4 (Option.some Jvm.ClassFile.FieldType.int) (RM 7 8 64) 8 64 [.ref (ad 0), .int p0, .int v] (WD ad cs n E S o) ((e_pay n E p0 v).1, some (.int (e_pay n E p0 v).2.1), WD ad cs n (e_pay n E p0 v).2.2 S o) := by
  refine CM.of RX4 hl (by decide +kernel) rfl (Nat.le_of_ble_eq_true rfl) ?_
  intro p e s m args below meth c A hc ho hmn
  refine j_aload_n hc dX4_pay_0 rfl ?_
  refine j_iload_n hc dX4_pay_1 rfl ?_
  refine j_callV hc ho (c_X4_findBill hl hn30) vc_X4_129 rfl ⟨rfl, rfl, by decide, by decide⟩ 0 rfl rfl rfl (Nat.le_of_ble_eq_true rfl) ⟨by decide, by decide⟩ dX4_pay_2 ⟨by decide, by decide⟩ (fun E9 h9 => ⟨by simp only [e_pay, ck_some h9], rfl⟩) (fun hr2 => ?_)
  have hb := fb_lt hr2
  refine j_astore_n hc dX4_pay_5 rfl ?_
  refine j_iload_n hc dX4_pay_6 rfl ?_
  refine j_iconst hc (v := 1) dX4_pay_7 (by decide) ?_
  refine j_sipush hc (v := 9999) dX4_pay_8 (by decide) ?_
  refine j_callS hc ho (c_X4_checkRange hl) sc_X4_86 rfl ⟨rfl, rfl, by decide, by decide⟩ rfl (Nat.le_of_ble_eq_true rfl) ⟨by decide, by decide⟩ dX4_pay_11 ⟨by decide, by decide⟩ (fun E9 h9 => ⟨by simp only [e_pay, ck_none hr2, ck_some h9], rfl⟩) (fun hr11 => ?_)
  refine j_aload_n hc dX4_pay_14 rfl ?_
  refine gf_X4_133 hc hb dX4_pay_15 ?_
  refine j_iconst hc (v := 1) dX4_pay_18 (by decide) ?_
  refine j_icmp_eq hc 39 dX4_pay_19 (by decide) (fun h19 => ?_) (fun h19 => ?_)
  · -- if_pos h19
    exact j_thr_73 hc ho 148 (tx := "the bill takes no such payment") (by decide) dX4_pay_39 dX4_pay_42 dX4_pay_43 dX4_pay_45 dX4_pay_48 (by decide) (Nat.le_of_ble_eq_true rfl) (by decide) (by decide) (by decide) (by decide) ⟨by simp only [e_pay, ck_none hr2, ck_none hr11, if_pos h19] <;> rfl, rfl⟩
  · -- if_neg h19
    refine j_aload_n hc dX4_pay_22 rfl ?_
    refine gf_X4_133 hc hb dX4_pay_23 ?_
    refine j_bipush hc (v := 6) dX4_pay_26 (by decide) ?_
    refine j_icmp_eq hc 39 dX4_pay_28 (by decide) (fun h28 => ?_) (fun h28 => ?_)
    · -- if_pos h28
      exact j_thr_73 hc ho 148 (tx := "the bill takes no such payment") (by decide) dX4_pay_39 dX4_pay_42 dX4_pay_43 dX4_pay_45 dX4_pay_48 (by decide) (Nat.le_of_ble_eq_true rfl) (by decide) (by decide) (by decide) (by decide) ⟨by simp only [e_pay, ck_none hr2, ck_none hr11, if_neg h19, if_pos h28] <;> rfl, rfl⟩
    · -- if_neg h28
      refine j_iload_n hc dX4_pay_31 rfl ?_
      refine j_aload_n hc dX4_pay_32 rfl ?_
      refine gf_X4_138 hc hb dX4_pay_33 ?_
      refine j_icmp_le hc 49 dX4_pay_36 (by decide) (fun h36 => ?_) (fun h36 => ?_)
      · -- if_pos h36
        refine j_aload_n hc dX4_pay_49 rfl ?_
        refine j_aload_n hc dX4_pay_50 rfl ?_
        refine j_iload_n hc dX4_pay_51 rfl ?_
        refine j_callV hc ho (c_X4_takePayment hl hb) vc_X4_141 rfl ⟨rfl, rfl, by decide, by decide⟩ 0 rfl rfl rfl (Nat.le_of_ble_eq_true rfl) ⟨by decide, by decide⟩ dX4_pay_52 ⟨by decide, by decide⟩ (fun _ h => by cases h) (fun hr52 => ?_)
        refine j_aload_n hc dX4_pay_55 rfl ?_
        refine gf_X4_138 hc hb dX4_pay_56 ?_
        exact j_iret hc rfl (by decide) (by decide) (by simp only [e_pay, ck_none hr2, ck_none hr11, if_neg h19, if_neg h28, if_pos h36] <;> rfl) dX4_pay_59
      · -- if_neg h36
        exact j_thr_73 hc ho 148 (tx := "the bill takes no such payment") (by decide) dX4_pay_39 dX4_pay_42 dX4_pay_43 dX4_pay_45 dX4_pay_48 (by decide) (Nat.le_of_ble_eq_true rfl) (by decide) (by decide) (by decide) (by decide) ⟨by simp only [e_pay, ck_none hr2, ck_none hr11, if_neg h19, if_neg h28, if_neg h36] <;> rfl, rfl⟩
set_option maxRecDepth 100000 in
set_option maxHeartbeats 4000000 in
theorem c_X4_promise {l : Launch} {D : va_G} {cs : Nat → ClassId} {sa : Nat → Nat} (hl : l.stackTraces = false)  {ad : Nat → Nat} {n : Nat} {E : ES} {S : MS} {o : Nat → Int64} (hn30 : n ≤ 30) {p0 v : Int32} : CM l D cs sa yX4_promise cX4_promise 5 (Option.some Jvm.ClassFile.FieldType.int) (RM 7 8 64) 8 64 [.ref (ad 0), .int p0, .int v] (WD ad cs n E S o) ((e_promise n E p0 v).1, some (.int (e_promise n E p0 v).2.1), WD ad cs n (e_promise n E p0 v).2.2 S o) := by
  refine CM.of RX4 hl (by decide +kernel) rfl (Nat.le_of_ble_eq_true rfl) ?_
  intro p e s m args below meth c A hc ho hmn
  refine j_aload_n hc dX4_promise_0 rfl ?_
  refine j_iload_n hc dX4_promise_1 rfl ?_
  refine j_callV hc ho (c_X4_findBill hl hn30) vc_X4_129 rfl ⟨rfl, rfl, by decide, by decide⟩ 0 rfl rfl rfl (Nat.le_of_ble_eq_true rfl) ⟨by decide, by decide⟩ dX4_promise_2 ⟨by decide, by decide⟩ (fun E9 h9 => ⟨by simp only [e_promise, ck_some h9], rfl⟩) (fun hr2 => ?_)
  have hb := fb_lt hr2
  refine j_astore_n hc dX4_promise_5 rfl ?_
  refine j_iload_n hc dX4_promise_6 rfl ?_
  refine j_iconst hc (v := 1) dX4_promise_7 (by decide) ?_
  refine j_bipush hc (v := 30) dX4_promise_8 (by decide) ?_
  refine j_callS hc ho (c_X4_checkRange hl) sc_X4_86 rfl ⟨rfl, rfl, by decide, by decide⟩ rfl (Nat.le_of_ble_eq_true rfl) ⟨by decide, by decide⟩ dX4_promise_10 ⟨by decide, by decide⟩ (fun E9 h9 => ⟨by simp only [e_promise, ck_none hr2, ck_some h9], rfl⟩) (fun hr10 => ?_)
  refine j_aload_n hc dX4_promise_13 rfl ?_
  refine gf_X4_133 hc hb dX4_promise_14 ?_
  refine j_if_eq hc 36 dX4_promise_17 (by decide) (fun h17 => ?_) (fun h17 => ?_)
  · -- if_pos h17
    refine j_iconst hc (v := 1) dX4_promise_36 (by decide) ?_
    refine j_goto hc 41 dX4_promise_37 (by decide) ?_
    refine j_istore hc dX4_promise_41 rfl ?_
    refine j_iload hc dX4_promise_43 rfl ?_
    refine j_if_eq hc 56 dX4_promise_45 (by decide) (fun h45 => by exact absurd (show (1 : Int32) = (0 : Int32) from h45) (by decide)) (fun h45 => ?_)
    refine j_aload_n hc dX4_promise_48 rfl ?_
    refine gf_X4_150 hc hb dX4_promise_49 ?_
    refine j_iconst hc (v := 2) dX4_promise_52 (by decide) ?_
    refine j_icmp_lt hc 66 dX4_promise_53 (by decide) (fun h53 => ?_) (fun h53 => ?_)
    · -- if_pos h53
      refine j_aload_n hc dX4_promise_66 rfl ?_
      refine j_dup hc dX4_promise_67 rfl ?_
      refine gf_X4_150 hc hb dX4_promise_68 ?_
      refine j_iconst hc (v := 1) dX4_promise_71 (by decide) ?_
      refine j_iadd hc dX4_promise_72 ?_
      refine pf_X4_150 hc hb dX4_promise_73 ?_
      refine j_aload_n hc dX4_promise_76 rfl ?_
      refine j_aload_n hc dX4_promise_77 rfl ?_
      refine gf_X4_133 hc hb dX4_promise_78 ?_
      refine pf_X4_155 hc hb dX4_promise_81 ?_
      refine j_aload_n hc dX4_promise_84 rfl ?_
      refine j_aload_n hc dX4_promise_85 rfl ?_
      refine gf_X4_158 hc hb dX4_promise_86 ?_
      refine j_aload_n hc dX4_promise_89 rfl ?_
      refine gf_X4_83 hc dX4_promise_90 ?_
      refine j_isub hc dX4_promise_93 ?_
      refine pf_X4_161 hc hb dX4_promise_94 ?_
      refine j_aload_n hc dX4_promise_97 rfl ?_
      refine j_aload_n hc dX4_promise_98 rfl ?_
      refine j_iconst hc (v := 4) dX4_promise_99 (by decide) ?_
      refine j_aload_n hc dX4_promise_100 rfl ?_
      refine gf_X4_83 hc dX4_promise_101 ?_
      refine j_iload_n hc dX4_promise_104 rfl ?_
      refine j_iadd hc dX4_promise_105 ?_
      refine j_callV hc ho (c_X4_enter hl hb) vc_X4_125 rfl ⟨rfl, rfl, by decide, by decide⟩ 0 rfl rfl rfl (Nat.le_of_ble_eq_true rfl) ⟨by decide, by decide⟩ dX4_promise_106 ⟨by decide, by decide⟩ (fun _ h => by cases h) (fun hr106 => ?_)
      refine j_aload_n hc dX4_promise_109 rfl ?_
      refine gf_X4_158 hc hb dX4_promise_110 ?_
      exact j_iret hc rfl (by decide) (by decide) (by simp only [e_promise, e_prom0, e_prom1, ck_none hr2, ck_none hr10, if_pos h17, if_pos h53] <;> rfl) dX4_promise_113
    · -- if_neg h53
      exact j_thr_73 hc ho 153 (tx := "the bill takes no promise") (by decide) dX4_promise_56 dX4_promise_59 dX4_promise_60 dX4_promise_62 dX4_promise_65 (by decide) (Nat.le_of_ble_eq_true rfl) (by decide) (by decide) (by decide) (by decide) ⟨by simp only [e_promise, e_prom0, e_prom1, ck_none hr2, ck_none hr10, if_pos h17, if_neg h53] <;> rfl, rfl⟩
  · -- if_neg h17
    refine j_aload_n hc dX4_promise_20 rfl ?_
    refine gf_X4_133 hc hb dX4_promise_21 ?_
    refine j_iconst hc (v := 2) dX4_promise_24 (by decide) ?_
    refine j_icmp_eq hc 36 dX4_promise_25 (by decide) (fun h25 => ?_) (fun h25 => ?_)
    · -- if_pos h25
      refine j_iconst hc (v := 1) dX4_promise_36 (by decide) ?_
      refine j_goto hc 41 dX4_promise_37 (by decide) ?_
      refine j_istore hc dX4_promise_41 rfl ?_
      refine j_iload hc dX4_promise_43 rfl ?_
      refine j_if_eq hc 56 dX4_promise_45 (by decide) (fun h45 => by exact absurd (show (1 : Int32) = (0 : Int32) from h45) (by decide)) (fun h45 => ?_)
      refine j_aload_n hc dX4_promise_48 rfl ?_
      refine gf_X4_150 hc hb dX4_promise_49 ?_
      refine j_iconst hc (v := 2) dX4_promise_52 (by decide) ?_
      refine j_icmp_lt hc 66 dX4_promise_53 (by decide) (fun h53 => ?_) (fun h53 => ?_)
      · -- if_pos h53
        refine j_aload_n hc dX4_promise_66 rfl ?_
        refine j_dup hc dX4_promise_67 rfl ?_
        refine gf_X4_150 hc hb dX4_promise_68 ?_
        refine j_iconst hc (v := 1) dX4_promise_71 (by decide) ?_
        refine j_iadd hc dX4_promise_72 ?_
        refine pf_X4_150 hc hb dX4_promise_73 ?_
        refine j_aload_n hc dX4_promise_76 rfl ?_
        refine j_aload_n hc dX4_promise_77 rfl ?_
        refine gf_X4_133 hc hb dX4_promise_78 ?_
        refine pf_X4_155 hc hb dX4_promise_81 ?_
        refine j_aload_n hc dX4_promise_84 rfl ?_
        refine j_aload_n hc dX4_promise_85 rfl ?_
        refine gf_X4_158 hc hb dX4_promise_86 ?_
        refine j_aload_n hc dX4_promise_89 rfl ?_
        refine gf_X4_83 hc dX4_promise_90 ?_
        refine j_isub hc dX4_promise_93 ?_
        refine pf_X4_161 hc hb dX4_promise_94 ?_
        refine j_aload_n hc dX4_promise_97 rfl ?_
        refine j_aload_n hc dX4_promise_98 rfl ?_
        refine j_iconst hc (v := 4) dX4_promise_99 (by decide) ?_
        refine j_aload_n hc dX4_promise_100 rfl ?_
        refine gf_X4_83 hc dX4_promise_101 ?_
        refine j_iload_n hc dX4_promise_104 rfl ?_
        refine j_iadd hc dX4_promise_105 ?_
        refine j_callV hc ho (c_X4_enter hl hb) vc_X4_125 rfl ⟨rfl, rfl, by decide, by decide⟩ 0 rfl rfl rfl (Nat.le_of_ble_eq_true rfl) ⟨by decide, by decide⟩ dX4_promise_106 ⟨by decide, by decide⟩ (fun _ h => by cases h) (fun hr106 => ?_)
        refine j_aload_n hc dX4_promise_109 rfl ?_
        refine gf_X4_158 hc hb dX4_promise_110 ?_
        exact j_iret hc rfl (by decide) (by decide) (by simp only [e_promise, e_prom0, e_prom1, ck_none hr2, ck_none hr10, if_neg h17, if_pos h25, if_pos h53] <;> rfl) dX4_promise_113
      · -- if_neg h53
        exact j_thr_73 hc ho 153 (tx := "the bill takes no promise") (by decide) dX4_promise_56 dX4_promise_59 dX4_promise_60 dX4_promise_62 dX4_promise_65 (by decide) (Nat.le_of_ble_eq_true rfl) (by decide) (by decide) (by decide) (by decide) ⟨by simp only [e_promise, e_prom0, e_prom1, ck_none hr2, ck_none hr10, if_neg h17, if_pos h25, if_neg h53] <;> rfl, rfl⟩
    · -- if_neg h25
      refine j_aload_n hc dX4_promise_28 rfl ?_
      refine gf_X4_133 hc hb dX4_promise_29 ?_
      refine j_iconst hc (v := 3) dX4_promise_32 (by decide) ?_
      refine j_icmp_ne hc 40 dX4_promise_33 (by decide) (fun h33 => ?_) (fun h33 => ?_)
      · -- if_neg h33
        refine j_iconst hc (v := 0) dX4_promise_40 (by decide) ?_
        refine j_istore hc dX4_promise_41 rfl ?_
        refine j_iload hc dX4_promise_43 rfl ?_
        refine j_if_eq hc 56 dX4_promise_45 (by decide) (fun h45 => ?_) (fun h45 => by exact absurd (show ¬ (0 : Int32) = (0 : Int32) from h45) (by decide))
        exact j_thr_73 hc ho 153 (tx := "the bill takes no promise") (by decide) dX4_promise_56 dX4_promise_59 dX4_promise_60 dX4_promise_62 dX4_promise_65 (by decide) (Nat.le_of_ble_eq_true rfl) (by decide) (by decide) (by decide) (by decide) ⟨by simp only [e_promise, e_prom0, e_prom1, ck_none hr2, ck_none hr10, if_neg h17, if_neg h25, if_neg h33] <;> rfl, rfl⟩
      · -- if_pos h33
        refine j_iconst hc (v := 1) dX4_promise_36 (by decide) ?_
        refine j_goto hc 41 dX4_promise_37 (by decide) ?_
        refine j_istore hc dX4_promise_41 rfl ?_
        refine j_iload hc dX4_promise_43 rfl ?_
        refine j_if_eq hc 56 dX4_promise_45 (by decide) (fun h45 => by exact absurd (show (1 : Int32) = (0 : Int32) from h45) (by decide)) (fun h45 => ?_)
        refine j_aload_n hc dX4_promise_48 rfl ?_
        refine gf_X4_150 hc hb dX4_promise_49 ?_
        refine j_iconst hc (v := 2) dX4_promise_52 (by decide) ?_
        refine j_icmp_lt hc 66 dX4_promise_53 (by decide) (fun h53 => ?_) (fun h53 => ?_)
        · -- if_pos h53
          refine j_aload_n hc dX4_promise_66 rfl ?_
          refine j_dup hc dX4_promise_67 rfl ?_
          refine gf_X4_150 hc hb dX4_promise_68 ?_
          refine j_iconst hc (v := 1) dX4_promise_71 (by decide) ?_
          refine j_iadd hc dX4_promise_72 ?_
          refine pf_X4_150 hc hb dX4_promise_73 ?_
          refine j_aload_n hc dX4_promise_76 rfl ?_
          refine j_aload_n hc dX4_promise_77 rfl ?_
          refine gf_X4_133 hc hb dX4_promise_78 ?_
          refine pf_X4_155 hc hb dX4_promise_81 ?_
          refine j_aload_n hc dX4_promise_84 rfl ?_
          refine j_aload_n hc dX4_promise_85 rfl ?_
          refine gf_X4_158 hc hb dX4_promise_86 ?_
          refine j_aload_n hc dX4_promise_89 rfl ?_
          refine gf_X4_83 hc dX4_promise_90 ?_
          refine j_isub hc dX4_promise_93 ?_
          refine pf_X4_161 hc hb dX4_promise_94 ?_
          refine j_aload_n hc dX4_promise_97 rfl ?_
          refine j_aload_n hc dX4_promise_98 rfl ?_
          refine j_iconst hc (v := 4) dX4_promise_99 (by decide) ?_
          refine j_aload_n hc dX4_promise_100 rfl ?_
          refine gf_X4_83 hc dX4_promise_101 ?_
          refine j_iload_n hc dX4_promise_104 rfl ?_
          refine j_iadd hc dX4_promise_105 ?_
          refine j_callV hc ho (c_X4_enter hl hb) vc_X4_125 rfl ⟨rfl, rfl, by decide, by decide⟩ 0 rfl rfl rfl (Nat.le_of_ble_eq_true rfl) ⟨by decide, by decide⟩ dX4_promise_106 ⟨by decide, by decide⟩ (fun _ h => by cases h) (fun hr106 => ?_)
          refine j_aload_n hc dX4_promise_109 rfl ?_
          refine gf_X4_158 hc hb dX4_promise_110 ?_
          exact j_iret hc rfl (by decide) (by decide) (by simp only [e_promise, e_prom0, e_prom1, ck_none hr2, ck_none hr10, if_neg h17, if_neg h25, if_pos h33, if_pos h53] <;> rfl) dX4_promise_113
        · -- if_neg h53
          exact j_thr_73 hc ho 153 (tx := "the bill takes no promise") (by decide) dX4_promise_56 dX4_promise_59 dX4_promise_60 dX4_promise_62 dX4_promise_65 (by decide) (Nat.le_of_ble_eq_true rfl) (by decide) (by decide) (by decide) (by decide) ⟨by simp only [e_promise, e_prom0, e_prom1, ck_none hr2, ck_none hr10, if_neg h17, if_neg h25, if_pos h33, if_neg h53] <;> rfl, rfl⟩
set_option maxRecDepth 100000 in
set_option maxHeartbeats 4000000 in
theorem c_X4_today {l : Launch} {D : va_G} {cs : Nat → ClassId} {sa : Nat → Nat} (hl : l.stackTraces = false)  {ad : Nat → Nat} {n : Nat} {E : ES} {S : MS} {o : Nat → Int64} : CM l D cs sa yX4_today cX4_today 1 (Option.some Jvm.ClassFile.FieldType.int) (RM 7 0 0) 0 0 [.ref (ad 0)] (WD ad cs n E S o) (none, some (.int (E.1 5)), (WD ad cs n E S o)) := by
  refine CM.of RX4 hl (by decide +kernel) rfl (Nat.le_of_ble_eq_true rfl) ?_
  intro p e s m args below meth c A hc ho hmn
  refine j_aload_n hc dX4_today_0 rfl ?_
  refine gf_X4_83 hc dX4_today_1 ?_
  exact j_iret hc rfl (by decide) (by decide) (rfl) dX4_today_4
set_option maxRecDepth 100000 in
set_option maxHeartbeats 4000000 in
theorem c_X4_bills {l : Launch} {D : va_G} {cs : Nat → ClassId} {sa : Nat → Nat} (hl : l.stackTraces = false)  {ad : Nat → Nat} {n : Nat} {E : ES} {S : MS} {o : Nat → Int64} : CM l D cs sa yX4_bills cX4_bills 1 (Option.some Jvm.ClassFile.FieldType.int) (RM 7 0 0) 0 0 [.ref (ad 0)] (WD ad cs n E S o) (none, some (.int (E.1 4)), (WD ad cs n E S o)) := by
  refine CM.of RX4 hl (by decide +kernel) rfl (Nat.le_of_ble_eq_true rfl) ?_
  intro p e s m args below meth c A hc ho hmn
  refine j_aload_n hc dX4_bills_0 rfl ?_
  refine gf_X4_112 hc dX4_bills_1 ?_
  exact j_iret hc rfl (by decide) (by decide) (rfl) dX4_bills_4
set_option maxRecDepth 100000 in
set_option maxHeartbeats 4000000 in
theorem c_X4_billed {l : Launch} {D : va_G} {cs : Nat → ClassId} {sa : Nat → Nat} (hl : l.stackTraces = false)  {ad : Nat → Nat} {n : Nat} {E : ES} {S : MS} {o : Nat → Int64} : CM l D cs sa yX4_billed cX4_billed 1 (Option.some Jvm.ClassFile.FieldType.int) (RM 7 0 0) 0 0 [.ref (ad 0)] (WD ad cs n E S o) (none, some (.int (E.1 8)), (WD ad cs n E S o)) := by
  refine CM.of RX4 hl (by decide +kernel) rfl (Nat.le_of_ble_eq_true rfl) ?_
  intro p e s m args below meth c A hc ho hmn
  refine j_aload_n hc dX4_billed_0 rfl ?_
  refine gf_X4_119 hc dX4_billed_1 ?_
  exact j_iret hc rfl (by decide) (by decide) (rfl) dX4_billed_4
set_option maxRecDepth 100000 in
set_option maxHeartbeats 4000000 in
theorem c_X4_paid {l : Launch} {D : va_G} {cs : Nat → ClassId} {sa : Nat → Nat} (hl : l.stackTraces = false)  {ad : Nat → Nat} {n : Nat} {E : ES} {S : MS} {o : Nat → Int64} : CM l D cs sa yX4_paid cX4_paid 1 (Option.some Jvm.ClassFile.FieldType.int) (RM 7 0 0) 0 0 [.ref (ad 0)] (WD ad cs n E S o) (none, some (.int (E.1 9)), (WD ad cs n E S o)) := by
  refine CM.of RX4 hl (by decide +kernel) rfl (Nat.le_of_ble_eq_true rfl) ?_
  intro p e s m args below meth c A hc ho hmn
  refine j_aload_n hc dX4_paid_0 rfl ?_
  refine gf_X4_197 hc dX4_paid_1 ?_
  exact j_iret hc rfl (by decide) (by decide) (rfl) dX4_paid_4
set_option maxRecDepth 100000 in
set_option maxHeartbeats 4000000 in
theorem c_X4_writtenOff {l : Launch} {D : va_G} {cs : Nat → ClassId} {sa : Nat → Nat} (hl : l.stackTraces = false)  {ad : Nat → Nat} {n : Nat} {E : ES} {S : MS} {o : Nat → Int64} : CM l D cs sa yX4_writtenOff cX4_writtenOff 1 (Option.some Jvm.ClassFile.FieldType.int) (RM 7 0 0) 0 0 [.ref (ad 0)] (WD ad cs n E S o) (none, some (.int (E.1 10)), (WD ad cs n E S o)) := by
  refine CM.of RX4 hl (by decide +kernel) rfl (Nat.le_of_ble_eq_true rfl) ?_
  intro p e s m args below meth c A hc ho hmn
  refine j_aload_n hc dX4_writtenOff_0 rfl ?_
  refine gf_X4_200 hc dX4_writtenOff_1 ?_
  exact j_iret hc rfl (by decide) (by decide) (rfl) dX4_writtenOff_4
set_option maxRecDepth 100000 in
set_option maxHeartbeats 4000000 in
theorem c_X4_broughtBack {l : Launch} {D : va_G} {cs : Nat → ClassId} {sa : Nat → Nat} (hl : l.stackTraces = false)  {ad : Nat → Nat} {n : Nat} {E : ES} {S : MS} {o : Nat → Int64} : CM l D cs sa yX4_broughtBack cX4_broughtBack 1 (Option.some Jvm.ClassFile.FieldType.int) (RM 7 0 0) 0 0 [.ref (ad 0)] (WD ad cs n E S o) (none, some (.int (E.1 11)), (WD ad cs n E S o)) := by
  refine CM.of RX4 hl (by decide +kernel) rfl (Nat.le_of_ble_eq_true rfl) ?_
  intro p e s m args below meth c A hc ho hmn
  refine j_aload_n hc dX4_broughtBack_0 rfl ?_
  refine gf_X4_203 hc dX4_broughtBack_1 ?_
  exact j_iret hc rfl (by decide) (by decide) (rfl) dX4_broughtBack_4
set_option maxRecDepth 100000 in
set_option maxHeartbeats 4000000 in
theorem c_X4_events {l : Launch} {D : va_G} {cs : Nat → ClassId} {sa : Nat → Nat} (hl : l.stackTraces = false)  {ad : Nat → Nat} {n : Nat} {E : ES} {S : MS} {o : Nat → Int64} : CM l D cs sa yX4_events cX4_events 1 (Option.some Jvm.ClassFile.FieldType.int) (RM 7 0 0) 0 0 [.ref (ad 0)] (WD ad cs n E S o) (none, some (.int (E.1 13)), (WD ad cs n E S o)) := by
  refine CM.of RX4 hl (by decide +kernel) rfl (Nat.le_of_ble_eq_true rfl) ?_
  intro p e s m args below meth c A hc ho hmn
  refine j_aload_n hc dX4_events_0 rfl ?_
  refine gf_X4_47 hc dX4_events_1 ?_
  refine gf_X4_206 hc dX4_events_4 ?_
  exact j_iret hc rfl (by decide) (by decide) (rfl) dX4_events_7
theorem chg_01 (E : ES) (d : Int32) : e_chg E d = 0 ∨ e_chg E d = 1 := by
  unfold e_chg
  split
  · exact Or.inl rfl
  · split
    · exact Or.inr rfl
    · exact Or.inl rfl
theorem nar_01 {v : Int32} (h : v = 0 ∨ v = 1) : narrow .boolean (.int v) = .int v := by
  rcases h with rfl | rfl <;> rfl
set_option maxRecDepth 100000 in
set_option maxHeartbeats 4000000 in
theorem c_X4_isCharging {l : Launch} {D : va_G} {cs : Nat → ClassId} {sa : Nat → Nat} (hl : l.stackTraces = false)  {ad : Nat → Nat} {n : Nat} {E : ES} {S : MS} {o : Nat → Int64} {d : Int32} : CM l D cs sa yX4_isCharging cX4_isCharging 2 (Option.some Jvm.ClassFile.FieldType.boolean) (RM 7 8 64) 8 64 [.ref (ad 0), .int d] (WD ad cs n E S o) ((e_isCharging E d).1, some (.int (e_isCharging E d).2.1), WD ad cs n (e_isCharging E d).2.2 S o) := by
  refine CM.of RX4 hl (by decide +kernel) rfl (Nat.le_of_ble_eq_true rfl) ?_
  intro p e s m args below meth c A hc ho hmn
  refine j_iload_n hc dX4_isCharging_0 rfl ?_
  refine j_iconst hc (v := 0) dX4_isCharging_1 (by decide) ?_
  refine j_ldc hc wt_447 dX4_isCharging_2 ?_
  refine j_callS hc ho (c_X4_checkRange hl) sc_X4_86 rfl ⟨rfl, rfl, by decide, by decide⟩ rfl (Nat.le_of_ble_eq_true rfl) ⟨by decide, by decide⟩ dX4_isCharging_4 ⟨by decide, by decide⟩ (fun E9 h9 => ⟨by simp only [e_isCharging, ck_some h9], rfl⟩) (fun hr4 => ?_)
  refine j_aload_n hc dX4_isCharging_7 rfl ?_
  refine gf_X4_10 hc dX4_isCharging_8 ?_
  refine j_iload_n hc dX4_isCharging_11 rfl ?_
  refine j_callV hc ho (c_X1_allowsCharging hl) vc_X4_172 rfl ⟨rfl, rfl, by decide, by decide⟩ 1 rfl rfl rfl (Nat.le_of_ble_eq_true rfl) ⟨by decide, by decide⟩ dX4_isCharging_12 ⟨by decide, by decide⟩ (fun _ h => by cases h) (fun hr12 => ?_)
  exact j_zret hc rfl (nar_01 (chg_01 E d)) (by decide) (by decide) (by simp only [e_isCharging, ck_none hr4] <;> rfl) dX4_isCharging_15
set_option maxRecDepth 100000 in
set_option maxHeartbeats 4000000 in
theorem c_X4_stateOf {l : Launch} {D : va_G} {cs : Nat → ClassId} {sa : Nat → Nat} (hl : l.stackTraces = false)  {ad : Nat → Nat} {n : Nat} {E : ES} {S : MS} {o : Nat → Int64} (hn30 : n ≤ 30) {p0 : Int32} : CM l D cs sa yX4_stateOf cX4_stateOf 2 (Option.some Jvm.ClassFile.FieldType.int) (RM 7 8 64) 8 64 [.ref (ad 0), .int p0] (WD ad cs n E S o) ((e_bf n E 4 p0).1, some (.int (e_bf n E 4 p0).2.1), WD ad cs n (e_bf n E 4 p0).2.2 S o) := by
  refine CM.of RX4 hl (by decide +kernel) rfl (Nat.le_of_ble_eq_true rfl) ?_
  intro p e s m args below meth c A hc ho hmn
  refine j_aload_n hc dX4_stateOf_0 rfl ?_
  refine j_iload_n hc dX4_stateOf_1 rfl ?_
  refine j_callV hc ho (c_X4_findBill hl hn30) vc_X4_129 rfl ⟨rfl, rfl, by decide, by decide⟩ 0 rfl rfl rfl (Nat.le_of_ble_eq_true rfl) ⟨by decide, by decide⟩ dX4_stateOf_2 ⟨by decide, by decide⟩ (fun E9 h9 => ⟨by simp only [e_bf, ck_some h9], rfl⟩) (fun hr2 => ?_)
  have hb := fb_lt hr2
  refine gf_X4_133 hc hb dX4_stateOf_5 ?_
  exact j_iret hc rfl (by decide) (by decide) (by simp only [e_bf, ck_none hr2] <;> rfl) dX4_stateOf_8
set_option maxRecDepth 100000 in
set_option maxHeartbeats 4000000 in
theorem c_X4_left {l : Launch} {D : va_G} {cs : Nat → ClassId} {sa : Nat → Nat} (hl : l.stackTraces = false)  {ad : Nat → Nat} {n : Nat} {E : ES} {S : MS} {o : Nat → Int64} (hn30 : n ≤ 30) {p0 : Int32} : CM l D cs sa yX4_left cX4_left 2 (Option.some Jvm.ClassFile.FieldType.int) (RM 7 8 64) 8 64 [.ref (ad 0), .int p0] (WD ad cs n E S o) ((e_bf n E 3 p0).1, some (.int (e_bf n E 3 p0).2.1), WD ad cs n (e_bf n E 3 p0).2.2 S o) := by
  refine CM.of RX4 hl (by decide +kernel) rfl (Nat.le_of_ble_eq_true rfl) ?_
  intro p e s m args below meth c A hc ho hmn
  refine j_aload_n hc dX4_left_0 rfl ?_
  refine j_iload_n hc dX4_left_1 rfl ?_
  refine j_callV hc ho (c_X4_findBill hl hn30) vc_X4_129 rfl ⟨rfl, rfl, by decide, by decide⟩ 0 rfl rfl rfl (Nat.le_of_ble_eq_true rfl) ⟨by decide, by decide⟩ dX4_left_2 ⟨by decide, by decide⟩ (fun E9 h9 => ⟨by simp only [e_bf, ck_some h9], rfl⟩) (fun hr2 => ?_)
  have hb := fb_lt hr2
  refine gf_X4_138 hc hb dX4_left_5 ?_
  exact j_iret hc rfl (by decide) (by decide) (by simp only [e_bf, ck_none hr2] <;> rfl) dX4_left_8
set_option maxRecDepth 100000 in
set_option maxHeartbeats 4000000 in
theorem c_X4_tries {l : Launch} {D : va_G} {cs : Nat → ClassId} {sa : Nat → Nat} (hl : l.stackTraces = false)  {ad : Nat → Nat} {n : Nat} {E : ES} {S : MS} {o : Nat → Int64} (hn30 : n ≤ 30) {p0 : Int32} : CM l D cs sa yX4_tries cX4_tries 2 (Option.some Jvm.ClassFile.FieldType.int) (RM 7 8 64) 8 64 [.ref (ad 0), .int p0] (WD ad cs n E S o) ((e_bf n E 6 p0).1, some (.int (e_bf n E 6 p0).2.1), WD ad cs n (e_bf n E 6 p0).2.2 S o) := by
  refine CM.of RX4 hl (by decide +kernel) rfl (Nat.le_of_ble_eq_true rfl) ?_
  intro p e s m args below meth c A hc ho hmn
  refine j_aload_n hc dX4_tries_0 rfl ?_
  refine j_iload_n hc dX4_tries_1 rfl ?_
  refine j_callV hc ho (c_X4_findBill hl hn30) vc_X4_129 rfl ⟨rfl, rfl, by decide, by decide⟩ 0 rfl rfl rfl (Nat.le_of_ble_eq_true rfl) ⟨by decide, by decide⟩ dX4_tries_2 ⟨by decide, by decide⟩ (fun E9 h9 => ⟨by simp only [e_bf, ck_some h9], rfl⟩) (fun hr2 => ?_)
  have hb := fb_lt hr2
  refine gf_X4_175 hc hb dX4_tries_5 ?_
  exact j_iret hc rfl (by decide) (by decide) (by simp only [e_bf, ck_none hr2] <;> rfl) dX4_tries_8
set_option maxRecDepth 100000 in
set_option maxHeartbeats 4000000 in
theorem c_X4_waitsFor {l : Launch} {D : va_G} {cs : Nat → ClassId} {sa : Nat → Nat} (hl : l.stackTraces = false)  {ad : Nat → Nat} {n : Nat} {E : ES} {S : MS} {o : Nat → Int64} (hn30 : n ≤ 30) {p0 : Int32} : CM l D cs sa yX4_waitsFor cX4_waitsFor 2 (Option.some Jvm.ClassFile.FieldType.int) (RM 7 8 64) 8 64 [.ref (ad 0), .int p0] (WD ad cs n E S o) ((e_bf n E 5 p0).1, some (.int (e_bf n E 5 p0).2.1), WD ad cs n (e_bf n E 5 p0).2.2 S o) := by
  refine CM.of RX4 hl (by decide +kernel) rfl (Nat.le_of_ble_eq_true rfl) ?_
  intro p e s m args below meth c A hc ho hmn
  refine j_aload_n hc dX4_waitsFor_0 rfl ?_
  refine j_iload_n hc dX4_waitsFor_1 rfl ?_
  refine j_callV hc ho (c_X4_findBill hl hn30) vc_X4_129 rfl ⟨rfl, rfl, by decide, by decide⟩ 0 rfl rfl rfl (Nat.le_of_ble_eq_true rfl) ⟨by decide, by decide⟩ dX4_waitsFor_2 ⟨by decide, by decide⟩ (fun E9 h9 => ⟨by simp only [e_bf, ck_some h9], rfl⟩) (fun hr2 => ?_)
  have hb := fb_lt hr2
  refine gf_X4_158 hc hb dX4_waitsFor_5 ?_
  exact j_iret hc rfl (by decide) (by decide) (by simp only [e_bf, ck_none hr2] <;> rfl) dX4_waitsFor_8
set_option maxRecDepth 100000 in
set_option maxHeartbeats 4000000 in
theorem c_X4_broken {l : Launch} {D : va_G} {cs : Nat → ClassId} {sa : Nat → Nat} (hl : l.stackTraces = false)  {ad : Nat → Nat} {n : Nat} {E : ES} {S : MS} {o : Nat → Int64} (hn30 : n ≤ 30) {p0 : Int32} : CM l D cs sa yX4_broken cX4_broken 2 (Option.some Jvm.ClassFile.FieldType.int) (RM 7 8 64) 8 64 [.ref (ad 0), .int p0] (WD ad cs n E S o) ((e_bf n E 8 p0).1, some (.int (e_bf n E 8 p0).2.1), WD ad cs n (e_bf n E 8 p0).2.2 S o) := by
  refine CM.of RX4 hl (by decide +kernel) rfl (Nat.le_of_ble_eq_true rfl) ?_
  intro p e s m args below meth c A hc ho hmn
  refine j_aload_n hc dX4_broken_0 rfl ?_
  refine j_iload_n hc dX4_broken_1 rfl ?_
  refine j_callV hc ho (c_X4_findBill hl hn30) vc_X4_129 rfl ⟨rfl, rfl, by decide, by decide⟩ 0 rfl rfl rfl (Nat.le_of_ble_eq_true rfl) ⟨by decide, by decide⟩ dX4_broken_2 ⟨by decide, by decide⟩ (fun E9 h9 => ⟨by simp only [e_bf, ck_some h9], rfl⟩) (fun hr2 => ?_)
  have hb := fb_lt hr2
  refine gf_X4_181 hc hb dX4_broken_5 ?_
  exact j_iret hc rfl (by decide) (by decide) (by simp only [e_bf, ck_none hr2] <;> rfl) dX4_broken_8
set_option maxRecDepth 100000 in
set_option maxHeartbeats 4000000 in
theorem c_X4_failures {l : Launch} {D : va_G} {cs : Nat → ClassId} {sa : Nat → Nat} (hl : l.stackTraces = false)  {ad : Nat → Nat} {n : Nat} {E : ES} {S : MS} {o : Nat → Int64} (hn30 : n ≤ 30) {p0 r : Int32} : CM l D cs sa yX4_failures cX4_failures 4 (Option.some Jvm.ClassFile.FieldType.int) (RM 7 8 64) 8 64 [.ref (ad 0), .int p0, .int r] (WD ad cs n E S o) ((e_failures n E p0 r).1, some (.int (e_failures n E p0 r).2.1), WD ad cs n (e_failures n E p0 r).2.2 S o) := by
  refine CM.of RX4 hl (by decide +kernel) rfl (Nat.le_of_ble_eq_true rfl) ?_
  intro p e s m args below meth c A hc ho hmn
  refine j_aload_n hc dX4_failures_0 rfl ?_
  refine j_iload_n hc dX4_failures_1 rfl ?_
  refine j_callV hc ho (c_X4_findBill hl hn30) vc_X4_129 rfl ⟨rfl, rfl, by decide, by decide⟩ 0 rfl rfl rfl (Nat.le_of_ble_eq_true rfl) ⟨by decide, by decide⟩ dX4_failures_2 ⟨by decide, by decide⟩ (fun E9 h9 => ⟨by simp only [e_failures, ck_some h9], rfl⟩) (fun hr2 => ?_)
  have hb := fb_lt hr2
  refine j_astore_n hc dX4_failures_5 rfl ?_
  refine j_aload_n hc dX4_failures_6 rfl ?_
  refine gf_X4_178 hc hb dX4_failures_7 ?_
  refine j_iload_n hc dX4_failures_10 rfl ?_
  refine j_callS hc ho (c_X4_indexOfReason hl) sc_X4_98 rfl ⟨rfl, rfl, by decide, by decide⟩ rfl (Nat.le_of_ble_eq_true rfl) ⟨by decide, by decide⟩ dX4_failures_11 ⟨by decide, by decide⟩ (fun E9 h9 => ⟨by simp only [e_failures, ck_none hr2, ck_some h9], rfl⟩) (fun hr11 => ?_)
  refine al_fails hc hb (vrs hr11) dX4_failures_14 ?_
  exact j_iret hc rfl (by decide) (by decide) (by simp only [e_failures, ck_none hr2, ck_none hr11] <;> rfl) dX4_failures_15
set_option maxRecDepth 100000 in
set_option maxHeartbeats 4000000 in
theorem c_X4_event {l : Launch} {D : va_G} {cs : Nat → ClassId} {sa : Nat → Nat} (hl : l.stackTraces = false)  {ad : Nat → Nat} {n : Nat} {E : ES} {S : MS} {o : Nat → Int64} {k : Int32} : CM l D cs sa yX4_event cX4_event 2 (Option.some Jvm.ClassFile.FieldType.int) (RM 7 8 64) 8 64 [.ref (ad 0), .int k] (WD ad cs n E S o) ((e_event E k).1, some (.int (e_event E k).2.1), WD ad cs n (e_event E k).2.2 S o) := by
  refine CM.of RX4 hl (by decide +kernel) rfl (Nat.le_of_ble_eq_true rfl) ?_
  intro p e s m args below meth c A hc ho hmn
  refine j_iload_n hc dX4_event_0 rfl ?_
  refine j_if_lt hc 15 dX4_event_1 (by decide) (fun h1 => ?_) (fun h1 => ?_)
  · -- if_pos h1
    exact j_thr_62 hc ho 212 (tx := "no such event") (by decide) dX4_event_15 dX4_event_18 dX4_event_19 dX4_event_21 dX4_event_24 (by decide) (Nat.le_of_ble_eq_true rfl) (by decide) (by decide) (by decide) (by decide) ⟨by simp only [e_event, if_pos h1] <;> rfl, rfl⟩
  · -- if_neg h1
    refine j_iload_n hc dX4_event_4 rfl ?_
    refine j_aload_n hc dX4_event_5 rfl ?_
    refine gf_X4_47 hc dX4_event_6 ?_
    refine j_callV hc ho (c_X2_told hl) vc_X4_209 rfl ⟨rfl, rfl, by decide, by decide⟩ 13 rfl rfl rfl (Nat.le_of_ble_eq_true rfl) ⟨by decide, by decide⟩ dX4_event_9 ⟨by decide, by decide⟩ (fun _ h => by cases h) (fun hr9 => ?_)
    refine j_icmp_lt hc 25 dX4_event_12 (by decide) (fun h12 => ?_) (fun h12 => ?_)
    · -- if_pos h12
      refine j_aload_n hc dX4_event_25 rfl ?_
      refine gf_X4_47 hc dX4_event_26 ?_
      refine j_iload_n hc dX4_event_29 rfl ?_
      refine j_callV hc ho (c_X2_codeAt hl) vc_X4_214 rfl ⟨rfl, rfl, by decide, by decide⟩ 13 rfl rfl rfl (Nat.le_of_ble_eq_true rfl) ⟨by decide, by decide⟩ dX4_event_30 ⟨by decide, by decide⟩ (fun _ h => by cases h) (fun hr30 => ?_)
      exact j_iret hc rfl (by decide) (by decide) (by simp only [e_event, if_neg h1, if_pos h12] <;> rfl) dX4_event_33
    · -- if_neg h12
      exact j_thr_62 hc ho 212 (tx := "no such event") (by decide) dX4_event_15 dX4_event_18 dX4_event_19 dX4_event_21 dX4_event_24 (by decide) (Nat.le_of_ble_eq_true rfl) (by decide) (by decide) (by decide) (by decide) ⟨by simp only [e_event, if_neg h1, if_neg h12] <;> rfl, rfl⟩
set_option maxRecDepth 100000 in
set_option maxHeartbeats 4000000 in
theorem c_X4_stateAt {l : Launch} {D : va_G} {cs : Nat → ClassId} {sa : Nat → Nat} (hl : l.stackTraces = false)  {ad : Nat → Nat} {n : Nat} {E : ES} {S : MS} {o : Nat → Int64} (hn30 : n ≤ 30) {p0 d : Int32} (hE : 0 ≤ (e_told E).toInt) : CM l D cs sa yX4_stateAt cX4_stateAt 3 (Option.some Jvm.ClassFile.FieldType.int) (RM 7 8 64) 8 64 [.ref (ad 0), .int p0, .int d] (WD ad cs n E S o) ((e_stateAt n E p0 d).1, some (.int (e_stateAt n E p0 d).2.1), WD ad cs n (e_stateAt n E p0 d).2.2 S o) := by
  refine CM.of RX4 hl (by decide +kernel) rfl (Nat.le_of_ble_eq_true rfl) ?_
  intro p e s m args below meth c A hc ho hmn
  refine j_aload_n hc dX4_stateAt_0 rfl ?_
  refine j_iload_n hc dX4_stateAt_1 rfl ?_
  refine j_callV hc ho (c_X4_findBill hl hn30) vc_X4_129 rfl ⟨rfl, rfl, by decide, by decide⟩ 0 rfl rfl rfl (Nat.le_of_ble_eq_true rfl) ⟨by decide, by decide⟩ dX4_stateAt_2 ⟨by decide, by decide⟩ (fun E9 h9 => ⟨by simp only [e_stateAt, ck_some h9], rfl⟩) (fun hr2 => ?_)
  have hb := fb_lt hr2
  refine j_pop hc dX4_stateAt_5 rfl ?_
  refine j_iload_n hc dX4_stateAt_6 rfl ?_
  refine j_iconst hc (v := 0) dX4_stateAt_7 (by decide) ?_
  refine j_aload_n hc dX4_stateAt_8 rfl ?_
  refine gf_X4_83 hc dX4_stateAt_9 ?_
  refine j_callS hc ho (c_X4_checkRange hl) sc_X4_86 rfl ⟨rfl, rfl, by decide, by decide⟩ rfl (Nat.le_of_ble_eq_true rfl) ⟨by decide, by decide⟩ dX4_stateAt_12 ⟨by decide, by decide⟩ (fun E9 h9 => ⟨by simp only [e_stateAt, ck_none hr2, ck_some h9], rfl⟩) (fun hr12 => ?_)
  refine j_aload_n hc dX4_stateAt_15 rfl ?_
  refine gf_X4_47 hc dX4_stateAt_16 ?_
  refine j_iload_n hc dX4_stateAt_19 rfl ?_
  refine j_iload_n hc dX4_stateAt_20 rfl ?_
  refine j_callV hc ho (c_X2_lastStateOf hl hE) vc_X4_217 rfl ⟨rfl, rfl, by decide, by decide⟩ 13 rfl rfl rfl (Nat.le_of_ble_eq_true rfl) ⟨by decide, by decide⟩ dX4_stateAt_21 ⟨by decide, by decide⟩ (fun _ h => by cases h) (fun hr21 => ?_)
  exact j_iret hc rfl (by decide) (by decide) (by simp only [e_stateAt, ck_none hr2, ck_none hr12] <;> rfl) dX4_stateAt_24
set_option maxRecDepth 100000 in
set_option maxHeartbeats 4000000 in
theorem c_X4_pass {l : Launch} {D : va_G} {cs : Nat → ClassId} {sa : Nat → Nat} (hl : l.stackTraces = false)  {ad : Nat → Nat} {n : Nat} {E : ES} {S : MS} {o : Nat → Int64} (hn30 : n ≤ 30) {p0 : Int32} : CM l D cs sa yX4_pass cX4_pass 4 (Option.some Jvm.ClassFile.FieldType.int) (RM 7 8 64) 8 64 [.ref (ad 0), .int p0] (WD ad cs n E S o) ((e_pass n E p0).1, some (.int (e_pass n E p0).2.1), WD ad cs n (e_pass n E p0).2.2 S o) := by
  refine CM.of RX4 hl (by decide +kernel) rfl (Nat.le_of_ble_eq_true rfl) ?_
  intro p e s m args below meth c A hc ho hmn
  refine j_iload_n hc dX4_pass_0 rfl ?_
  refine j_iconst hc (v := 1) dX4_pass_1 (by decide) ?_
  refine j_bipush hc (v := 60) dX4_pass_2 (by decide) ?_
  refine j_callS hc ho (c_X4_checkRange hl) sc_X4_86 rfl ⟨rfl, rfl, by decide, by decide⟩ rfl (Nat.le_of_ble_eq_true rfl) ⟨by decide, by decide⟩ dX4_pass_4 ⟨by decide, by decide⟩ (fun E9 h9 => ⟨by simp only [e_pass, ck_some h9], rfl⟩) (fun hr4 => ?_)
  obtain ⟨P, hP60, rfl⟩ : ∃ P : Nat, P ≤ 60 ∧ p0 = nI P := by
    have hh := rng_none hr4
    have e1 : (1 : Int32).toInt = 1 := by decide
    have e60 : (60 : Int32).toInt = 60 := by decide
    exact nI_of2 (n := 60) e60 (by rw [i32_lt]; have : (0 : Int32).toInt = 0 := by decide
                                   omega) (by rw [i32_le]; omega)
  have hre : (((e_pass n E (nI P)).1, some (.int (e_pass n E (nI P)).2.1), WD ad cs n (e_pass n E (nI P)).2.2 S o) : Rs) = (none, some (.int (e_days n P 0 E).1), WD ad cs n (e_days n P 0 E).2 S o) := by simp only [e_pass, ck_none hr4, nI_clamp (show P < 2 ^ 31 by omega)]
  rw [hre]
  have loop : ∀ (k i : Nat) (c0 : Int32) (E2 : ES), i + k = P → e_days n P 0 E = e_days n k c0 E2 → J p l e (RM 7 8 64) s m args below meth c D A 4 1 6 (QE below args s D A 8 64 (WD ad cs n E S o) (none, some (.int (e_days n P 0 E).1), WD ad cs n (e_days n P 0 E).2 S o)) (WD ad cs n E2 S o) 11 [(0, .ref (ad 0)), (1, .int (nI P)), (2, .int c0), (3, .int (nI i))] [] := by
    intro k
    induction k with
    | zero =>
      intro i c0 E2 hi hd
      refine j_iload_n hc dX4_pass_11 rfl ?_
      refine j_iload_n hc dX4_pass_12 rfl ?_
      refine j_icmp_ge hc 43 dX4_pass_13 (by decide) (fun h13 => ?_) (fun h13 => by exact absurd h13 (fun z => z (nI_le (by omega) (by omega))))
      refine j_iload_n hc dX4_pass_43 rfl ?_
      exact j_iret hc rfl (by decide) (by decide) (by rw [hd]; rfl) dX4_pass_44
    | succ k ih =>
      intro i c0 E2 hi hd
      refine j_iload_n hc dX4_pass_11 rfl ?_
      refine j_iload_n hc dX4_pass_12 rfl ?_
      refine j_icmp_ge hc 43 dX4_pass_13 (by decide) (fun h13 => by exact absurd h13 (nI_ge (by omega) (by omega))) (fun h13 => ?_)
      refine j_aload_n hc dX4_pass_16 rfl ?_
      refine j_callV hc ho (c_X4_failUnansweredTries hl hn30) vc_X4_164 rfl ⟨rfl, rfl, by decide, by decide⟩ 0 rfl rfl rfl (Nat.le_of_ble_eq_true rfl) ⟨by decide, by decide⟩ dX4_pass_17 ⟨by decide, by decide⟩ (fun _ h => by cases h) (fun hr17 => ?_)
      refine j_aload_n hc dX4_pass_20 rfl ?_
      refine j_dup hc dX4_pass_21 rfl ?_
      refine gf_X4_83 hc dX4_pass_22 ?_
      refine j_iconst hc (v := 1) dX4_pass_25 (by decide) ?_
      refine j_iadd hc dX4_pass_26 ?_
      refine pf_X4_83 hc dX4_pass_27 ?_
      refine j_iload_n hc dX4_pass_30 rfl ?_
      refine j_aload_n hc dX4_pass_31 rfl ?_
      refine j_callV hc ho (c_X4_lookAtBills hl hn30) vc_X4_167 rfl ⟨rfl, rfl, by decide, by decide⟩ 0 rfl rfl rfl (Nat.le_of_ble_eq_true rfl) ⟨by decide, by decide⟩ dX4_pass_32 ⟨by decide, by decide⟩ (fun _ h => by cases h) (fun hr32 => ?_)
      refine j_iadd hc dX4_pass_35 ?_
      refine j_istore_n hc dX4_pass_36 rfl ?_
      refine j_inc hc dX4_pass_37 rfl (z := 1) (by decide) rfl ?_
      refine j_goto hc 11 dX4_pass_40 (by decide) ?_
      refine j_lv [(0, .ref (ad 0)), (1, .int (nI P)), (2, .int _), (3, .int (nI i + 1))] ⟨rfl, rfl, rfl, rfl, trivial⟩ ?_
      rw [nI_1]
      exact ih (i + 1) _ _ (by omega) (by rw [hd]; rfl)
  refine j_iconst hc (v := 0) dX4_pass_7 (by decide) ?_
  refine j_istore_n hc dX4_pass_8 rfl ?_
  refine j_iconst hc (v := 0) dX4_pass_9 (by decide) ?_
  refine j_istore_n hc dX4_pass_10 rfl ?_
  refine j_lv [(0, .ref (ad 0)), (1, .int (nI P)), (2, .int 0), (3, .int 0)] ⟨rfl, rfl, rfl, rfl, trivial⟩ ?_
  exact loop P 0 0 E (by omega) rfl
set_option maxRecDepth 100000 in
set_option maxHeartbeats 4000000 in
theorem c_X4_service {l : Launch} {D : va_G} {cs : Nat → ClassId} {sa : Nat → Nat} (hl : l.stackTraces = false)  {ad : Nat → Nat} {n : Nat} {E : ES} {S : MS} {o : Nat → Int64} (hn30 : n ≤ 30) {x : Int32} : CM l D cs sa yX4_service cX4_service 5 (Option.some Jvm.ClassFile.FieldType.int) (RM 7 8 64) 8 64 [.ref (ad 0), .int x] (WD ad cs n E S o) ((e_service n E x).1, some (.int (e_service n E x).2.1), WD ad cs n (e_service n E x).2.2 S o) := by
  refine CM.of RX4 hl (by decide +kernel) rfl (Nat.le_of_ble_eq_true rfl) ?_
  intro p e s m args below meth c A hc ho hmn
  refine j_iload_n hc dX4_service_0 rfl ?_
  refine j_callS hc ho (c_X4_checkAccount hl) sc_X4_109 rfl ⟨rfl, rfl, by decide, by decide⟩ rfl (Nat.le_of_ble_eq_true rfl) ⟨by decide, by decide⟩ dX4_service_1 ⟨by decide, by decide⟩ (fun E9 h9 => ⟨by simp only [e_service, ck_some h9], rfl⟩) (fun hr1 => ?_)
  have hre : (((e_service n E x).1, some (.int (e_service n E x).2.1), WD ad cs n (e_service n E x).2.2 S o) : Rs) = (none, some (.int (e_svc n E x 30 0 2)), WD ad cs n E S o) := by simp only [e_service, ck_none hr1]
  rw [hre]
  have loop : ∀ (k i : Nat) (c0 : Int32), i + k = 30 → e_svc n E x 30 0 2 = e_svc n E x k i c0 → J p l e (RM 7 8 64) s m args below meth c D A 5 1 6 (QE below args s D A 8 64 (WD ad cs n E S o) (none, some (.int (e_svc n E x 30 0 2)), WD ad cs n E S o)) (WD ad cs n E S o) 8 [(0, .ref (ad 0)), (1, .int x), (2, .int c0), (3, .int (nI i))] [] := by
    intro k
    induction k with
    | zero =>
      intro i c0 hi hd
      refine j_iload_n hc dX4_service_8 rfl ?_
      refine j_aload_n hc dX4_service_9 rfl ?_
      refine gf_X4_40 hc dX4_service_10 ?_
      refine ln_row hc dX4_service_13 ?_
      refine j_icmp_ge hc 55 dX4_service_14 (by decide) (fun h14 => ?_) (fun h14 => by exact absurd h14 (fun z => z (nI_le (a := 30) (by omega) (by omega))))
      refine j_iload_n hc dX4_service_55 rfl ?_
      exact j_iret hc rfl (by decide) (by decide) (by rw [hd]; rfl) dX4_service_56
    | succ k ih =>
      intro i c0 hi hd
      refine j_iload_n hc dX4_service_8 rfl ?_
      refine j_aload_n hc dX4_service_9 rfl ?_
      refine gf_X4_40 hc dX4_service_10 ?_
      refine ln_row hc dX4_service_13 ?_
      refine j_icmp_ge hc 55 dX4_service_14 (by decide) (fun h14 => by exact absurd h14 (nI_ge (b := 30) (by omega) (by omega))) (fun h14 => ?_)
      refine j_aload_n hc dX4_service_17 rfl ?_
      refine gf_X4_40 hc dX4_service_18 ?_
      refine j_iload_n hc dX4_service_21 rfl ?_
      by_cases hb : i < n
      · refine al_row hc hb hn30 rfl dX4_service_22 ?_
        refine j_astore hc dX4_service_23 rfl ?_
        refine j_aload hc dX4_service_25 rfl ?_
        refine j_ifnull hc dX4_service_27 ?_
        refine j_aload hc dX4_service_30 rfl ?_
        refine gf_X4_184 hc hb dX4_service_32 ?_
        refine j_iload_n hc dX4_service_35 rfl ?_
        refine j_icmp_ne hc 49 dX4_service_36 (by decide) (fun h36 => ?_) (fun h36 => ?_)
        · -- if_neg h36
          refine j_inc hc dX4_service_49 rfl (z := 1) (by decide) rfl ?_
          refine j_goto hc 8 dX4_service_52 (by decide) ?_
          refine j_lv [(0, .ref (ad 0)), (1, .int x), (2, .int _), (3, .int (nI i + 1))] ⟨rfl, rfl, rfl, rfl, trivial⟩ ?_
          rw [nI_1]
          exact ih (i + 1) _ (by omega) (by rw [hd]; simp only [e_svc, if_neg h14, if_pos hb, if_neg h36])
        · -- if_pos h36
          refine j_iload_n hc dX4_service_39 rfl ?_
          refine j_aload hc dX4_service_40 rfl ?_
          refine j_callS hc ho (c_X4_serviceWith hl hb) sc_X4_187 rfl ⟨rfl, rfl, by decide, by decide⟩ rfl (Nat.le_of_ble_eq_true rfl) ⟨by decide, by decide⟩ dX4_service_42 ⟨by decide, by decide⟩ (fun _ h => by cases h) (fun hr42 => ?_)
          refine j_min_X4_191 hc (by decide) (Nat.le_of_ble_eq_true rfl) (by decide) (by decide) dX4_service_45 ?_
          refine j_istore_n hc dX4_service_48 rfl ?_
          refine j_inc hc dX4_service_49 rfl (z := 1) (by decide) rfl ?_
          refine j_goto hc 8 dX4_service_52 (by decide) ?_
          refine j_lv [(0, .ref (ad 0)), (1, .int x), (2, .int _), (3, .int (nI i + 1))] ⟨rfl, rfl, rfl, rfl, trivial⟩ ?_
          rw [nI_1]
          exact ih (i + 1) _ (by omega) (by rw [hd]; simp only [e_svc, if_neg h14, if_pos hb, if_pos h36])
      · refine al_rowN hc hb (by omega) rfl dX4_service_22 ?_
        refine j_astoreN hc dX4_service_23 rfl ?_
        refine j_aloadN hc dX4_service_25 rfl ?_
        refine j_ifnullN hc 49 dX4_service_27 (by decide) ?_
        refine j_inc hc dX4_service_49 rfl (z := 1) (by decide) rfl ?_
        refine j_goto hc 8 dX4_service_52 (by decide) ?_
        refine j_lv [(0, .ref (ad 0)), (1, .int x), (2, .int _), (3, .int (nI i + 1))] ⟨rfl, rfl, rfl, rfl, trivial⟩ ?_
        rw [nI_1]
        exact ih (i + 1) _ (by omega) (by rw [hd]; simp only [e_svc, if_neg h14, if_neg hb])
  refine j_iconst hc (v := 2) dX4_service_4 (by decide) ?_
  refine j_istore_n hc dX4_service_5 rfl ?_
  refine j_iconst hc (v := 0) dX4_service_6 (by decide) ?_
  refine j_istore_n hc dX4_service_7 rfl ?_
  refine j_lv [(0, .ref (ad 0)), (1, .int x), (2, .int 2), (3, .int 0)] ⟨rfl, rfl, rfl, rfl, trivial⟩ ?_
  exact loop 30 0 2 (by omega) rfl
set_option maxRecDepth 100000 in
set_option maxHeartbeats 4000000 in
theorem c_X4_leftIn {l : Launch} {D : va_G} {cs : Nat → ClassId} {sa : Nat → Nat} (hl : l.stackTraces = false)  {ad : Nat → Nat} {n : Nat} {E : ES} {S : MS} {o : Nat → Int64} (hn30 : n ≤ 30) {x y : Int32} : CM l D cs sa yX4_leftIn cX4_leftIn 6 (Option.some Jvm.ClassFile.FieldType.int) (RM 7 8 64) 8 64 [.ref (ad 0), .int x, .int y] (WD ad cs n E S o) ((e_leftIn n E x y).1, some (.int (e_leftIn n E x y).2.1), WD ad cs n (e_leftIn n E x y).2.2 S o) := by
  refine CM.of RX4 hl (by decide +kernel) rfl (Nat.le_of_ble_eq_true rfl) ?_
  intro p e s m args below meth c A hc ho hmn
  refine j_iload_n hc dX4_leftIn_0 rfl ?_
  refine j_callS hc ho (c_X4_checkAccount hl) sc_X4_109 rfl ⟨rfl, rfl, by decide, by decide⟩ rfl (Nat.le_of_ble_eq_true rfl) ⟨by decide, by decide⟩ dX4_leftIn_1 ⟨by decide, by decide⟩ (fun E9 h9 => ⟨by simp only [e_leftIn, ck_some h9], rfl⟩) (fun hr1 => ?_)
  refine j_iload_n hc dX4_leftIn_4 rfl ?_
  refine j_iconst hc (v := 0) dX4_leftIn_5 (by decide) ?_
  refine j_bipush hc (v := 6) dX4_leftIn_6 (by decide) ?_
  refine j_callS hc ho (c_X4_checkRange hl) sc_X4_86 rfl ⟨rfl, rfl, by decide, by decide⟩ rfl (Nat.le_of_ble_eq_true rfl) ⟨by decide, by decide⟩ dX4_leftIn_8 ⟨by decide, by decide⟩ (fun E9 h9 => ⟨by simp only [e_leftIn, ck_none hr1, ck_some h9], rfl⟩) (fun hr8 => ?_)
  have hre : (((e_leftIn n E x y).1, some (.int (e_leftIn n E x y).2.1), WD ad cs n (e_leftIn n E x y).2.2 S o) : Rs) = (none, some (.int (e_lin n E x y 30 0 0)), WD ad cs n E S o) := by simp only [e_leftIn, ck_none hr1, ck_none hr8]
  rw [hre]
  have loop : ∀ (k i : Nat) (c0 : Int32), i + k = 30 → e_lin n E x y 30 0 0 = e_lin n E x y k i c0 → J p l e (RM 7 8 64) s m args below meth c D A 6 2 12 (QE below args s D A 8 64 (WD ad cs n E S o) (none, some (.int (e_lin n E x y 30 0 0)), WD ad cs n E S o)) (WD ad cs n E S o) 16 [(0, .ref (ad 0)), (1, .int x), (2, .int y), (3, .int c0), (4, .int (nI i))] [] := by
    intro k
    induction k with
    | zero =>
      intro i c0 hi hd
      refine j_iload hc dX4_leftIn_16 rfl ?_
      refine j_aload_n hc dX4_leftIn_18 rfl ?_
      refine gf_X4_40 hc dX4_leftIn_19 ?_
      refine ln_row hc dX4_leftIn_22 ?_
      refine j_icmp_ge hc 72 dX4_leftIn_23 (by decide) (fun h23 => ?_) (fun h23 => by exact absurd h23 (fun z => z (nI_le (a := 30) (by omega) (by omega))))
      refine j_iload_n hc dX4_leftIn_72 rfl ?_
      exact j_iret hc rfl (by decide) (by decide) (by rw [hd]; rfl) dX4_leftIn_73
    | succ k ih =>
      intro i c0 hi hd
      refine j_iload hc dX4_leftIn_16 rfl ?_
      refine j_aload_n hc dX4_leftIn_18 rfl ?_
      refine gf_X4_40 hc dX4_leftIn_19 ?_
      refine ln_row hc dX4_leftIn_22 ?_
      refine j_icmp_ge hc 72 dX4_leftIn_23 (by decide) (fun h23 => by exact absurd h23 (nI_ge (b := 30) (by omega) (by omega))) (fun h23 => ?_)
      refine j_aload_n hc dX4_leftIn_26 rfl ?_
      refine gf_X4_40 hc dX4_leftIn_27 ?_
      refine j_iload hc dX4_leftIn_30 rfl ?_
      by_cases hb : i < n
      · refine al_row hc hb hn30 rfl dX4_leftIn_32 ?_
        refine j_astore hc dX4_leftIn_33 rfl ?_
        refine j_aload hc dX4_leftIn_35 rfl ?_
        refine j_ifnull hc dX4_leftIn_37 ?_
        refine j_aload hc dX4_leftIn_40 rfl ?_
        refine gf_X4_184 hc hb dX4_leftIn_42 ?_
        refine j_iload_n hc dX4_leftIn_45 rfl ?_
        refine j_icmp_ne hc 66 dX4_leftIn_46 (by decide) (fun h46 => ?_) (fun h46 => ?_)
        · -- if_neg h46
          refine j_inc hc dX4_leftIn_66 rfl (z := 1) (by decide) rfl ?_
          refine j_goto hc 16 dX4_leftIn_69 (by decide) ?_
          refine j_lv [(0, .ref (ad 0)), (1, .int x), (2, .int y), (3, .int _), (4, .int (nI i + 1))] ⟨rfl, rfl, rfl, rfl, rfl, trivial⟩ ?_
          rw [nI_1]
          exact ih (i + 1) _ (by omega) (by rw [hd]; simp only [e_lin, if_neg h23, if_pos hb, if_neg h46])
        · -- if_pos h46
          refine j_aload hc dX4_leftIn_49 rfl ?_
          refine gf_X4_133 hc hb dX4_leftIn_51 ?_
          refine j_iload_n hc dX4_leftIn_54 rfl ?_
          refine j_icmp_ne hc 66 dX4_leftIn_55 (by decide) (fun h55 => ?_) (fun h55 => ?_)
          · -- if_neg h55
            refine j_inc hc dX4_leftIn_66 rfl (z := 1) (by decide) rfl ?_
            refine j_goto hc 16 dX4_leftIn_69 (by decide) ?_
            refine j_lv [(0, .ref (ad 0)), (1, .int x), (2, .int y), (3, .int _), (4, .int (nI i + 1))] ⟨rfl, rfl, rfl, rfl, rfl, trivial⟩ ?_
            rw [nI_1]
            exact ih (i + 1) _ (by omega) (by rw [hd]; simp only [e_lin, if_neg h23, if_pos hb, if_pos h46, if_neg h55])
          · -- if_pos h55
            refine j_iload_n hc dX4_leftIn_58 rfl ?_
            refine j_aload hc dX4_leftIn_59 rfl ?_
            refine gf_X4_138 hc hb dX4_leftIn_61 ?_
            refine j_iadd hc dX4_leftIn_64 ?_
            refine j_istore_n hc dX4_leftIn_65 rfl ?_
            refine j_inc hc dX4_leftIn_66 rfl (z := 1) (by decide) rfl ?_
            refine j_goto hc 16 dX4_leftIn_69 (by decide) ?_
            refine j_lv [(0, .ref (ad 0)), (1, .int x), (2, .int y), (3, .int _), (4, .int (nI i + 1))] ⟨rfl, rfl, rfl, rfl, rfl, trivial⟩ ?_
            rw [nI_1]
            exact ih (i + 1) _ (by omega) (by rw [hd]; simp only [e_lin, if_neg h23, if_pos hb, if_pos h46, if_pos h55])
      · refine al_rowN hc hb (by omega) rfl dX4_leftIn_32 ?_
        refine j_astoreN hc dX4_leftIn_33 rfl ?_
        refine j_aloadN hc dX4_leftIn_35 rfl ?_
        refine j_ifnullN hc 66 dX4_leftIn_37 (by decide) ?_
        refine j_inc hc dX4_leftIn_66 rfl (z := 1) (by decide) rfl ?_
        refine j_goto hc 16 dX4_leftIn_69 (by decide) ?_
        refine j_lv [(0, .ref (ad 0)), (1, .int x), (2, .int y), (3, .int _), (4, .int (nI i + 1))] ⟨rfl, rfl, rfl, rfl, rfl, trivial⟩ ?_
        rw [nI_1]
        exact ih (i + 1) _ (by omega) (by rw [hd]; simp only [e_lin, if_neg h23, if_neg hb])
  refine j_iconst hc (v := 0) dX4_leftIn_11 (by decide) ?_
  refine j_istore_n hc dX4_leftIn_12 rfl ?_
  refine j_iconst hc (v := 0) dX4_leftIn_13 (by decide) ?_
  refine j_istore hc dX4_leftIn_14 rfl ?_
  refine j_lv [(0, .ref (ad 0)), (1, .int x), (2, .int y), (3, .int 0), (4, .int 0)] ⟨rfl, rfl, rfl, rfl, rfl, trivial⟩ ?_
  exact loop 30 0 0 (by omega) rfl
end
section
abbrev P2T : Type := (Nat → Prop) → State → Heap → Prop
/-- a further premise that calls keep -/
def P2ok (P2 : P2T) : Prop := (∀ (A : Nat → Prop) (U : State) (g : JFrame) (mk : MethodId) (a : Array Value), P2 A U U.heap → P2 A (U.calling g mk a) (U.calling g mk a).heap) ∧ ∀ (A B : Nat → Prop) (s U : State) (H : Heap) (locs : List Loc), P2 A s s.heap → va_S A s.heap H locs → (∀ q, B q → A q) → U.heap = H → s.WarmedH U.vm → P2 B U U.heap
def P2n : P2T := fun _ _ _ => True
theorem P2n_ok : P2ok P2n := ⟨fun _ _ _ _ _ _ => trivial, fun _ _ _ _ _ _ _ _ _ _ _ => trivial⟩
def QI (D : va_G) {X : Type} (r : X → va_W) (A : Nat → Prop) : Array Value → State → Outcome → State → Prop := fun _ st oc t => (∃ x, oc = .returned none ∧ PO D (r x) A t) ∧ va_F A st t
/-- a constructor's contract -/
def EI (l : Launch) (D : va_G) (cs : Nat → ClassId) (sa : Nat → Nat) (P2 : P2T) (y : MethodName) (cc : ByteArray) (maxL : Nat) (rm : Room) (mc ms : Nat) (av : List Value) (w : va_W) {X : Type} (r : X → va_W) : Prop :=
  ∀ sz : Nat, Met l y (.code y cc maxL none :: WT) rm (va_Pc av (fun U => PR D cs sa w sz U ∧ P2 (va_A w sz) U U.heap)) (QI D r (va_A w sz)) mc ms (va_A w sz)
theorem EI.of {l : Launch} {D : va_G} {cs : Nat → ClassId} {sa : Nat → Nat} {P2 : P2T} {y : MethodName} {cc : ByteArray} {maxL : Nat} {rm : Room} {mc ms : Nat} {av : List Value} {w : va_W} {X : Type} {r : X → va_W} (own : String) (hl : l.stackTraces = false) (hy : plainName y.cls = true) (ho : y.cls = own) (hn : (lg_sl av).length ≤ maxL)
    (body : ∀ (p : Program) (e : Env) (s : State) (m : MethodId) (args : Array Value) (below : List Frame) (meth : Method) (c : Code) (A : Nat → Prop), CX p l e rm s m args below meth c D cs sa A cc maxL own none → meth.name = y.name → P2 A s s.heap → J p l e rm s m args below meth c D A maxL 0 0 (MQ below (QI D r A) args s mc ms A) w 0 (lv_args 0 av) []) : EI l D cs sa P2 y cc maxL rm mc ms av w r := by
  intro sz
  refine Met.ofW hy rfl ?_
  intro p e s m args below meth c s₁ B hml hv
  obtain ⟨rfl, ⟨hsz, hP, hK, hD, hST⟩, h2⟩ := hv
  subst hsz
  rw [lg_entry_eq]
  have hts := atoms_spec (ws := .code y cc maxL none :: WT) B.pre
  exact body p e s m _ below meth c _ ⟨⟨B.exec, B.bytes, hml, by rw [← ho]; exact findClass_of_methodNamed B.named, fun w hw => hts w (List.mem_cons_of_mem _ hw)⟩, B.returns, B.notSynchronized, hK, fun q h => Or.inr h, hST, hl⟩ (name_of_methodNamed B.named B.method).1 h2 s.heap [] _ hP hD.self va_S.rf (lv_entry av hn)
def QX (D : va_G) {X : Type} (t0 : Option String) (r : X → Option Value × va_W) (A : Nat → Prop) : Array Value → State → Outcome → State → Prop := fun _ st oc t => (t0 = none ∧ ∃ x, oc = .returned (r x).1 ∧ PO D (r x).2 A t) ∧ va_F A st t
/-- a contract whose answer names new cells -/
def EX (l : Launch) (D : va_G) (cs : Nat → ClassId) (sa : Nat → Nat) (y : MethodName) (cc : ByteArray) (maxL : Nat) (ret : Option FieldType) (rm : Room) (mc ms : Nat) (av : List Value) (w : va_W) {X : Type} (t0 : Option String) (r : X → Option Value × va_W) : Prop :=
  ∀ sz : Nat, vx_Met l y (.code y cc maxL ret :: WT) rm (va_Pc av (PR D cs sa w sz)) (QX D t0 r (va_A w sz)) (XQ D w (t0, none, w) (va_A w sz)) mc ms (va_A w sz)
def EH (l : Launch) (D : va_G) (cs : Nat → ClassId) (sa : Nat → Nat) (y : MethodName) (cc : ByteArray) (maxL : Nat) (ret : Option FieldType) (hh : List (Nat × Nat × Nat × Nat)) (rm : Room) (mc ms : Nat) (av : List Value) (w : va_W) {X : Type} (r : X → Option Value × va_W) : Prop :=
  ∀ sz : Nat, vx_Met l y (.codeWith y cc maxL ret hh :: WT) rm (va_Pc av (PR D cs sa w sz)) (QX D none r (va_A w sz)) (XQ D w (none, none, w) (va_A w sz)) mc ms (va_A w sz)
abbrev QY (below : List Frame) (args : Array Value) (s : State) (D : va_G) (A : Nat → Prop) (mc ms : Nat) (w : va_W) {X : Type} (t0 : Option String) (r : X → Option Value × va_W) : State → Prop := vx_MQ below (QX D t0 r A) (XQ D w (t0, none, w) A) args s mc ms A
theorem EX.of {l : Launch} {D : va_G} {cs : Nat → ClassId} {sa : Nat → Nat} {y : MethodName} {cc : ByteArray} {maxL : Nat} {ret : Option FieldType} {rm : Room} {mc ms : Nat} {av : List Value} {w : va_W} {X : Type} {t0 : Option String} {r : X → Option Value × va_W} (own : String) (hl : l.stackTraces = false) (hy : plainName y.cls = true) (ho : y.cls = own) (hn : (lg_sl av).length ≤ maxL)
    (body : ∀ (p : Program) (e : Env) (s : State) (m : MethodId) (args : Array Value) (below : List Frame) (meth : Method) (c : Code) (A : Nat → Prop), CX p l e rm s m args below meth c D cs sa A cc maxL own ret → (∀ x ∈ c.exceptionTable.toList, False) → J p l e rm s m args below meth c D A maxL 0 0 (QY below args s D A mc ms w t0 r) w 0 (lv_args 0 av) []) : EX l D cs sa y cc maxL ret rm mc ms av w t0 r := by
  intro sz
  refine vx_ofW hy rfl ?_
  intro p e s m args below meth c s₁ B hml hx hv
  obtain ⟨rfl, hsz, hP, hK, hD, hST⟩ := hv
  subst hsz
  rw [lg_entry_eq]
  have hts := atoms_spec (ws := .code y cc maxL ret :: WT) B.pre
  exact body p e s m _ below meth c _ ⟨⟨B.exec, B.bytes, hml, by rw [← ho]; exact findClass_of_methodNamed B.named, fun w hw => hts w (List.mem_cons_of_mem _ hw)⟩, B.returns, B.notSynchronized, hK, fun q h => Or.inr h, hST, hl⟩ hx s.heap [] _ hP hD.self va_S.rf (lv_entry av hn)
theorem EH.of {l : Launch} {D : va_G} {cs : Nat → ClassId} {sa : Nat → Nat} {y : MethodName} {cc : ByteArray} {maxL : Nat} {ret : Option FieldType} {hh : List (Nat × Nat × Nat × Nat)} {rm : Room} {mc ms : Nat} {av : List Value} {w : va_W} {X : Type} {r : X → Option Value × va_W} (own : String) (hl : l.stackTraces = false) (hy : plainName y.cls = true) (ho : y.cls = own) (hn : (lg_sl av).length ≤ maxL)
    (body : ∀ (p : Program) (e : Env) (s : State) (m : MethodId) (args : Array Value) (below : List Frame) (meth : Method) (c : Code) (A : Nat → Prop), CX p l e rm s m args below meth c D cs sa A cc maxL own ret → c.exceptionTable.toList = tableOf hh → J p l e rm s m args below meth c D A maxL 0 0 (QY below args s D A mc ms w none r) w 0 (lv_args 0 av) []) : EH l D cs sa y cc maxL ret hh rm mc ms av w r := by
  intro sz
  refine vx_ofWH hy rfl ?_
  intro p e s m args below meth c s₁ B hml hv
  obtain ⟨rfl, hsz, hP, hK, hD, hST⟩ := hv
  subst hsz
  rw [lg_entry_eq]
  have hts := atoms_spec (ws := .codeWith y cc maxL ret hh :: WT) B.pre
  exact body p e s m _ below meth c _ ⟨⟨B.exec, B.bytes, hml, by rw [← ho]; exact findClass_of_methodNamed B.named, fun w hw => hts w (List.mem_cons_of_mem _ hw)⟩, B.returns, B.notSynchronized, hK, fun q h => Or.inr h, hST, hl⟩ (vx_table (x := y) B (hts _ List.mem_cons_self)) s.heap [] _ hP hD.self va_S.rf (lv_entry av hn)
theorem app_r {α : Type} (a b : List α) (k : Nat) (x : α) (h : b[k]? = some x) : (a ++ b)[a.length + k]? = some x := by
  rw [List.getElem?_append_right (by omega), show a.length + k - a.length = k by omega]; exact h
theorem app_l {α : Type} (a b : List α) (k : Nat) (x : α) (h : a[k]? = some x) : (a ++ b)[k]? = some x := by
  rw [List.getElem?_append_left (List.getElem?_eq_some_iff.mp h).1]; exact h
theorem fr_off {A0 : Nat → Prop} {D : va_G} {wr wc : va_W} {H : Heap} (hP : va_P D vwCl (wr ++ wc) H) (hD : va_D A0 (wr ++ wc)) {k : Nat} {q : Nat × va_E} (hq : wr[k]? = some q) : q.1 < H.size ∧ ¬ va_A wc H.size q.1 := by
  have h1 := vx_lt hP (app_l wr wc k q hq)
  refine ⟨h1, fun h => ?_⟩
  rcases h with ⟨j, e9, hj⟩ | h
  · have := hD.1 k (wr.length + j) q _ (app_l wr wc k q hq) (app_r wr wc j _ hj) rfl
    have := (List.getElem?_eq_some_iff.mp hq).1
    omega
  · omega
theorem fr_P {A0 : Nat → Prop} {D : va_G} {wr wc w1 : va_W} {H H1 : Heap} (hP : va_P D vwCl (wr ++ wc) H) (hD : va_D A0 (wr ++ wc)) (hk : ∀ q : Nat, q < H.size → ¬ va_A wc H.size q → H1[q]? = H[q]?) (hF : ∀ q, va_A wc H.size q → A0 q) (hP1 : va_P D vwCl w1 H1) (hD1 : va_D (va_A wc H.size) w1) : va_P D vwCl (wr ++ w1) H1 ∧ va_D A0 (wr ++ w1) := by
  have hPr : va_P D vwCl wr H := fun k q hq => hP k q (app_l wr wc k q hq)
  have hDr : va_D A0 wr := ⟨fun i j p q h1 h2 h => hD.1 i j p q (app_l wr wc i p h1) (app_l wr wc j q h2) h, fun k q h => hD.2 k q (app_l wr wc k q h)⟩
  refine ⟨(hPr.kept fun k q hq => ?_).app hP1, hDr.app (hD1.weaken fun _ q _ h => hF _ h) fun i j p q h1 h2 e => ?_⟩
  · obtain ⟨a1, a2⟩ := fr_off hP hD hq
    exact hk _ a1 a2
  · exact (fr_off hP hD h1).2 (by rw [e]; exact hD1.2 j q h2)
section R11
variable {p : Program} {l : Launch} {e : Env} {R : Room} {s : State} {m : MethodId} {args : Array Value} {below : List Frame} {meth : Method} {c : Code} {D : va_G} {cs : Nat → ClassId} {sa : Nat → Nat} {A : Nat → Prop} {cc : ByteArray} {nL : Nat} {own : String} {ret : Option FieldType} {cells slots : Nat} {Q : State → Prop} {w : va_W} {pc : Nat} {lv : List (Nat × Value)} {st : List Value}
theorem j_objInit (hc : CX p l e R s m args below meth c D cs sa A cc nL own ret) {idx : Nat} {x : Nat} (hl : Cond.methodLink own idx objectInit ∈ WT) (hi : Cond.instanceMethod objectInit ∈ WT) (hco : Cond.code objectInit ⟨#[0xb1]⟩ 1 none ∈ WT) (hdg : decode cc pc = .ok (.invokespecial idx, 3)) (hfr : 1 ≤ R.frames) (hlo : (st.map fun v => v.category).sum + 12 ≤ R.locals) (k : J p l e R s m args below meth c D A nL cells slots Q w (pc + 3) lv st) : J p l e R s m args below meth c D A nL cells slots Q w pc lv (.ref x :: st) := fun H locs ls hP hD hS hlv =>
  W.objInit hc.1.1 hc.1.2.1 hc.1.2.2.2.1 (hc.1.2.2.2.2 _ hl) (hc.1.2.2.2.2 _ hi) (hc.1.2.2.2.2 _ hco) rfl (hlv.1.trans hc.1.2.2.1.symm) rfl hdg hfr (by show 2 * 0 + _ + 12 ≤ _; omega) (k H locs ls hP hD hS hlv)
theorem j_new (hc : CX p l e R s m args below meth c D cs sa A cc nL own ret) {K : String} {T : u_T} {N ci index : Nat} (hin : ∀ w ∈ u_ws K T N, w ∈ WT) (ty : Nat → FieldType) (hty : ∀ k, k < N → parseFieldDescriptor (T k).2.2.1 = some (ty k)) (h1 : Cond.classLink own index K ∈ WT) (h2 : Cond.instantiable K N ∈ WT) (h3 : Cond.initialized K ∈ WT) (hcl : vwCl[ci]? = some (K, T, N)) {fs : List Value} (hfs : ∀ j, j < N → defaultValue (ty j) = vp_V fs j) (hce : cells + 1 ≤ R.cells) (hsl : slots + N ≤ R.slots) (hdg : decode cc pc = .ok (.new index, 3)) (kk : ∀ q : Nat, J p l e R s m args below meth c D A nL (cells + 1) (slots + N) Q (w ++ [(q, .inr (ci, fs))]) (pc + 3) lv (.ref q :: st)) : J p l e R s m args below meth c D A nL cells slots Q w pc lv st := fun H locs ls hP hD hS hlv =>
  va_new (D := D) (cl := vwCl) hc.1.1 hc.1.2.1 hc.1.2.2.2.2 hin ty hty hc.1.2.2.2.1 (hc.1.2.2.2.2 _ h1) (hc.1.2.2.2.2 _ h2) (hc.1.2.2.2.2 _ h3) hc.2.2.2.1 hP hD hS hc.2.2.2.2.1 hcl hfs hce hsl hdg (fun q H1 hP hD hS => kk q H1 locs ls hP hD hS hlv)
theorem j_newaI (hc : CX p l e R s m args below meth c D cs sa A cc nL own ret) {k : Int32} {N : Nat} (hn : ¬ k < 0) (hN : k.toNatClampNeg = N) (hby : N * componentBytes .int ≤ 536870912) (hce : cells + 1 ≤ R.cells) (hsl : slots + N ≤ R.slots) (hdg : decode cc pc = .ok (.newarray .int, 2)) (kk : ∀ q : Nat, J p l e R s m args below meth c D A nL (cells + 1) (slots + N) Q (w ++ [(q, .inl (cs 0, N, .inl (fun _ => 0)))]) (pc + 2) lv (.ref q :: st)) : J p l e R s m args below meth c D A nL cells slots Q w pc lv (.int k :: st) := fun H locs ls hP hD hS hlv =>
  va_newa (atype := .int) (a0 := (N, .inl (fun _ => 0))) (D := D) (cl := vwCl) hc.1.1 hc.1.2.1 (hc.1.2.2.2.2 _ (by exact wt_54)) rfl hc.2.2.2.1 hP hD hS hc.2.2.2.2.1 (fun cA => rfl) hn hN hby hce hsl hdg (fun q cA H1 hK hP hD hS => by
    have e1 : va_RA s cA .int := (hK.2 5 (cA, .int) rfl).2
    have e2 : va_RA s (cs 0) .int := (hc.2.2.2.1.2 0 (cs 0, .int) rfl).2
    have e3 : cA = cs 0 := Option.some.inj ((show s.vm.findClass _ = some cA from e1).symm.trans (show s.vm.findClass _ = some (cs 0) from e2))
    subst e3
    exact kk q H1 locs ls hP hD hS hlv)
theorem j_newaJ (hc : CX p l e R s m args below meth c D cs sa A cc nL own ret) {k : Int32} {N : Nat} (hn : ¬ k < 0) (hN : k.toNatClampNeg = N) (hby : N * componentBytes .long ≤ 536870912) (hce : cells + 1 ≤ R.cells) (hsl : slots + N ≤ R.slots) (hdg : decode cc pc = .ok (.newarray .long, 2)) (kk : ∀ q : Nat, J p l e R s m args below meth c D A nL (cells + 1) (slots + N) Q (w ++ [(q, .inl (cs 1, N, .inr (.inl (fun _ => 0))))]) (pc + 2) lv (.ref q :: st)) : J p l e R s m args below meth c D A nL cells slots Q w pc lv (.int k :: st) := fun H locs ls hP hD hS hlv =>
  va_newa (atype := .long) (a0 := (N, .inr (.inl (fun _ => 0)))) (D := D) (cl := vwCl) hc.1.1 hc.1.2.1 (hc.1.2.2.2.2 _ (by exact wt_36)) rfl hc.2.2.2.1 hP hD hS hc.2.2.2.2.1 (fun cA => rfl) hn hN hby hce hsl hdg (fun q cA H1 hK hP hD hS => by
    have e1 : va_RA s cA .long := (hK.2 5 (cA, .long) rfl).2
    have e2 : va_RA s (cs 1) .long := (hc.2.2.2.1.2 1 (cs 1, .long) rfl).2
    have e3 : cA = cs 1 := Option.some.inj ((show s.vm.findClass _ = some cA from e1).symm.trans (show s.vm.findClass _ = some (cs 1) from e2))
    subst e3
    exact kk q H1 locs ls hP hD hS hlv)
theorem j_newqGaps (hc : CX p l e R s m args below meth c D cs sa A cc nL own ret) {index : Nat} (hcl : Cond.classLink own index RX3 ∈ WT) (hov : va_AO RX3 s) {k : Int32} {N : Nat} (hn : ¬ k < 0) (hN : k.toNatClampNeg = N) (hby : N * 4 ≤ 536870912) (hce : cells + 1 ≤ R.cells) (hsl : slots + N ≤ R.slots) (hdg : decode cc pc = .ok (.anewarray index, 3)) (kk : ∀ q : Nat, J p l e R s m args below meth c D A nL (cells + 1) (slots + N) Q (w ++ [(q, .inl (cs 4, N, .inr (.inr (.inr (.inr (fun _ => none))))))]) (pc + 3) lv (.ref q :: st)) : J p l e R s m args below meth c D A nL cells slots Q w pc lv (.int k :: st) := fun H locs ls hP hD hS hlv =>
  va_newq (D := D) (cl := vwCl) hc.1.1 hc.1.2.1 hc.1.2.2.2.1 (hc.1.2.2.2.2 _ hcl) hov hc.2.2.2.1 hP hD hS hc.2.2.2.2.1 hn hN hby hce hsl hdg (fun q cA H1 hK hP hD hS => by
    have e1 : va_RA s cA (.object RX3) := (hK.2 5 (cA, .object RX3) rfl).2
    have e2 : va_RA s (cs 4) (.object RX3) := (hc.2.2.2.1.2 4 (cs 4, .object RX3) rfl).2
    obtain ⟨_, _, _, _, _, f1⟩ := e1
    obtain ⟨_, _, _, _, _, f2⟩ := e2
    have e3 : cA = cs 4 := Option.some.inj (f1.symm.trans f2)
    subst e3
    exact kk q H1 locs ls hP hD hS hlv)
theorem j_newqBill (hc : CX p l e R s m args below meth c D cs sa A cc nL own ret) {index : Nat} (hcl : Cond.classLink own index RX0 ∈ WT) (hov : va_AO RX0 s) {k : Int32} {N : Nat} (hn : ¬ k < 0) (hN : k.toNatClampNeg = N) (hby : N * 4 ≤ 536870912) (hce : cells + 1 ≤ R.cells) (hsl : slots + N ≤ R.slots) (hdg : decode cc pc = .ok (.anewarray index, 3)) (kk : ∀ q : Nat, J p l e R s m args below meth c D A nL (cells + 1) (slots + N) Q (w ++ [(q, .inl (cs 3, N, .inr (.inr (.inr (.inr (fun _ => none))))))]) (pc + 3) lv (.ref q :: st)) : J p l e R s m args below meth c D A nL cells slots Q w pc lv (.int k :: st) := fun H locs ls hP hD hS hlv =>
  va_newq (D := D) (cl := vwCl) hc.1.1 hc.1.2.1 hc.1.2.2.2.1 (hc.1.2.2.2.2 _ hcl) hov hc.2.2.2.1 hP hD hS hc.2.2.2.2.1 hn hN hby hce hsl hdg (fun q cA H1 hK hP hD hS => by
    have e1 : va_RA s cA (.object RX0) := (hK.2 5 (cA, .object RX0) rfl).2
    have e2 : va_RA s (cs 3) (.object RX0) := (hc.2.2.2.1.2 3 (cs 3, .object RX0) rfl).2
    obtain ⟨_, _, _, _, _, f1⟩ := e1
    obtain ⟨_, _, _, _, _, f2⟩ := e2
    have e3 : cA = cs 3 := Option.some.inj (f1.symm.trans f2)
    subst e3
    exact kk q H1 locs ls hP hD hS hlv)
theorem j_ivret (hc : CX p l e R s m args below meth c D cs sa A cc nL own ret) {mc ms : Nat} {X : Type} {r : X → va_W} (x : X) (hret : ret = none) (h1 : cells ≤ mc) (h2 : slots ≤ ms) (hr : r x = w) (hdg : decode cc pc = .ok (.return_, 1)) : J p l e R s m args below meth c D A nL cells slots (MQ below (QI D r A) args s mc ms A) w pc lv [] := fun H locs ls hP hD hS hlv =>
  W.widen h1 h2 (W.vret hc.1.1 hc.1.2.1 (hc.2.1.trans hret) (fun t ht _ => ⟨⟨x, rfl, by rw [PO, ht, hr]; exact ⟨hP, hD⟩⟩, hS.F ht⟩) hS.2.2 hdg hc.2.2.1)
theorem j_xiret (hc : CX p l e R s m args below meth c D cs sa A cc nL own ret) {mc ms : Nat} {w0 : va_W} {X : Type} {t0 : Option String} {r : X → Option Value × va_W} {v : Int32} (x : X) (hret : ret = some .int) (h1 : cells ≤ mc) (h2 : slots ≤ ms) (ht0 : t0 = none) (hr : r x = (some (.int v), w)) (hdg : decode cc pc = .ok (.ireturn, 1)) : J p l e R s m args below meth c D A nL cells slots (QY below args s D A mc ms w0 t0 r) w pc lv [.int v] := fun H locs ls hP hD hS hlv =>
  vx_ret (W.widen h1 h2 (W.iret hc.1.1 hc.1.2.1 (hc.2.1.trans hret) (fun t ht _ => ⟨⟨ht0, x, by rw [hr], by rw [PO, ht, hr]; exact ⟨hP, hD⟩⟩, hS.F ht⟩) hS.2.2 hdg hc.2.2.1))
theorem jx_outY (ho : ∀ x ∈ c.exceptionTable.toList, False) (hlk : meth.locks = false) {mc ms : Nat} {w0 : va_W} {X : Type} {t0 : Option String} {r : X → Option Value × va_W} {E : String} (h1 : cells ≤ mc) (h2 : slots ≤ ms) (hr : t0 = some E ∧ w = w0) : JX p l e R s m args below meth c D A nL cells slots (QY below args s D A mc ms w0 t0 r) w pc lv st E := fun H locs ls ce q hP hD hS hl hq hv hcl => by
  obtain ⟨hr, rfl⟩ := hr
  exact vx_out (fun x hx => (ho x hx).elim) hlk hq hv hcl (fun t ht _ => ⟨⟨hr, by rw [PO, ht]; exact ⟨hP, hD⟩⟩, hS.F ht⟩) hS.2.2 h1 h2
theorem j_callI (hc : CX p l e R s m args below meth c D cs sa A cc nL own ret) {y : MethodName} {cc2 : ByteArray} {maxL : Nat} {rm : Room} {mc ms n index : Nat} {As : List Value} {b : Nat} {P2 : P2T} {X : Type} {r : X → va_W} {wc : va_W} (wr : va_W) (hM : EI l D cs sa P2 y cc2 maxL rm mc ms (.ref b :: As) wc r) (hv : IC own index y cc2 maxL n) (hok : P2ok P2) (hp2 : P2 A s s.heap) (hn : As.length = n) (hrm : rm.cells = mc ∧ rm.slots = ms ∧ rm.frames + 1 ≤ R.frames ∧ 8 + (maxL + 11) + rm.locals ≤ R.locals) (hw : w = wr ++ wc) {st0 : List Value} (hst : st0 = As.reverse ++ .ref b :: st) (hroom : (st.map fun v => v.category).sum ≤ 8) (hf : cells + mc ≤ R.cells ∧ slots + ms ≤ R.slots) (hdg : decode cc pc = .ok (.invokespecial index, 3)) (kk : ∀ x, J p l e R s m args below meth c D A nL (cells + mc) (slots + ms) Q (wr ++ r x) (pc + 3) lv st) : J p l e R s m args below meth c D A nL cells slots Q w pc lv st0 := fun H locs ls hP hD hS hlv => by
  subst hw
  obtain ⟨v1, v2, v4, v5, v6, v7, v8, v9⟩ := hv
  have hF : ∀ q, va_A wc H.size q → A q := fun q h => h.elim (fun ⟨k, e, h⟩ => hD.2 _ _ (app_r wr wc k _ h)) (fun h => hc.2.2.2.2.1 q (Nat.le_trans hS.1 h))
  have hPc : va_P D vwCl wc H := fun k q hq => hP _ q (app_r wr wc k q hq)
  have hDc : va_D A wc := ⟨fun i j p q h1 h2 h => by have := hD.1 _ _ p q (app_r wr wc i p h1) (app_r wr wc j q h2) h; omega, fun k q h => hD.2 _ q (app_r wr wc k q h)⟩
  have hpre : PreS s H (va_Pc (.ref b :: As) (fun U => PR D cs sa wc H.size U ∧ P2 (va_A wc H.size) U U.heap)) (.ref b :: As) :=
    ⟨fun a U g mk h => ⟨h.1, (PR.blind (av := .ref b :: As) a U g mk ⟨h.1, h.2.1⟩).2, hok.1 _ U g mk a h.2.2⟩, fun U hU hW => ⟨rfl, ⟨by rw [hU], by rw [hU]; exact hPc, va_K.moved hW.alike hc.2.2.2.1, hDc.weaken (fun _ _ _ _ => trivial), ST.call hc.2.2.2.2.2.1 hS hF hU hW⟩, hok.2 _ _ s U H locs hp2 hS hF hU hW⟩⟩
  have hr := va_runI (As := As) (rest := st) (H := H) (locs := locs) (cells := cells) (slots := slots) (g := F0 m pc ls st0) (Ts := WT) (p := p) (e := e) (below := below) (meth := meth) (args := args) (R := R) hc.1 (hM H.size) ⟨callB_of n hc.1.2.2.2.2 (wt_gi (ws := .code y cc2 maxL none :: WT) (fun w h => (List.mem_cons.mp h).elim (fun h => h ▸ v5) id)) rfl hrm.1 hrm.2.1 (hc.1.2.2.2.2 _ v4) (hc.1.2.2.2.2 _ v1) ⟨v7, v8, v9⟩ hrm.2.2, v6, hc.1.2.2.2.2 _ v2⟩ hpre rfl hn hlv.1 hst (lv_room hroom) hdg hf
  intro T hT X9
  obtain ⟨v, st₀, t, T', L, h0, X', hL, e1, e2, ⟨⟨x, hv, hP1, hD1⟩, hF1⟩, st9⟩ := hr T hT X9
  cases hv
  obtain ⟨k1, k2, k3⟩ := vx_keep h0 e1 hS (fun q _ h => hF q h) hF hL hF1
  rw [← e1] at hP1
  obtain ⟨z1, z2⟩ := fr_P hP hD k2 hF hP1 hD1
  obtain ⟨t2, a1, b1⟩ := kk x T'.heap (locs ++ L) ls z1 z2 k3 hlv T' rfl X'
  exact ⟨t2, st9 t2 a1, b1⟩
theorem j_callX' (hc : CX p l e R s m args below meth c D cs sa A cc nL own ret) {y : MethodName} {cc2 : ByteArray} {maxL : Nat} {ret2 : Option FieldType} {rm : Room} {mc ms n index : Nat} {As : List Value} {X : Type} {t1 : Option String} {r : X → Option Value × va_W} {K : String} {b : Nat} (hM : EX l D cs sa y cc2 maxL ret2 rm mc ms (.ref b :: As) w t1 r) (hv : VC own index K y cc2 maxL ret2 n) (hn : As.length = n) (hrm : rm.cells = mc ∧ rm.slots = ms ∧ rm.frames + 1 ≤ R.frames ∧ 8 + (maxL + 11) + rm.locals ≤ R.locals) (q0 : Nat) {ci : Nat} {fs : List Value} {T : u_T} {N : Nat} (he : w[q0]? = some (b, .inr (ci, fs))) (hcl : vwCl[ci]? = some (K, T, N)) {st0 : List Value} (hst : st0 = As.reverse ++ .ref b :: st) (hroom : (st.map fun v => v.category).sum ≤ 8) (hf : cells + mc ≤ R.cells ∧ slots + ms ≤ R.slots) (hdg : decode cc pc = .ok (.invokevirtual index, 3))
    (kx : ∀ E, t1 = some E → JX p l e R s m args below meth c D A nL (cells + mc) (slots + ms) Q w pc lv st E) (kk : t1 = none → ∀ x, J p l e R s m args below meth c D A nL (cells + mc) (slots + ms) Q (r x).2 (pc + 3) lv ((r x).1.toList ++ st)) : J p l e R s m args below meth c D A nL cells slots Q w pc lv st0 := fun H locs ls hP hD hS hl => by
  obtain ⟨v1, v2, v3, v4, v5, v6, v7, v8, v9⟩ := hv
  have hF : ∀ q, va_A w H.size q → A q := fun q h => h.elim (fun ⟨k, e, h⟩ => hD.2 k _ h) (fun h => hc.2.2.2.2.1 q (Nat.le_trans hS.1 h))
  obtain ⟨p1, p2⟩ := j_pre hc (av := .ref b :: As) hP hD hS
  have hr := vx_runV (As := As) (rest := st) (C := K) (Ts := WT) (locs := locs) (cells := cells) (slots := slots) (g := F0 m pc ls st0) (p := p) (e := e) (below := below) (meth := meth) (args := args) (R := R) hc.1 (hM H.size) ⟨callB_of n hc.1.2.2.2.2 (wt_gi (ws := .code y cc2 maxL ret2 :: WT) (fun w h => (List.mem_cons.mp h).elim (fun h => h ▸ v5) id)) rfl hrm.1 hrm.2.1 (hc.1.2.2.2.2 _ v4) (hc.1.2.2.2.2 _ v1) ⟨v7, v8, v9⟩ hrm.2.2, hc.1.2.2.2.2 _ v2, hc.1.2.2.2.2 _ v3⟩ ⟨p1, va_recv hc.2.2.2.1 hP hcl he, p2⟩ rfl hn hl.1 hst (lv_room hroom) hdg hf
  intro T hT X9
  rcases hr T hT X9 with ⟨v, st₀, t, T', L, h0, X', hL, e1, e2, ⟨⟨hn, x, hv, hP1, hD1⟩, hF1⟩, st9⟩ | ⟨q, st₀, t, T', L, E, ce, h0, X', hL, e1, e2, ⟨⟨hE, hP1, hD1⟩, hF1⟩, hce, hcv, hcl, st9⟩
  · cases hv
    obtain ⟨k1, k2, k3⟩ := vx_keep h0 e1 hS (fun q _ h => hF q h) hF hL hF1
    rw [← e1] at hP1
    obtain ⟨t2, a1, b1⟩ := kk hn x T'.heap (locs ++ L) ls hP1 (hD1.weaken fun _ q _ h => hF _ h) k3 hl T' rfl X'
    exact ⟨t2, st9 t2 a1, b1⟩
  · obtain ⟨k1, k2, k3⟩ := vx_keep h0 e1 hS (fun q _ h => hF q h) hF hL hF1
    rw [← e1] at hP1 hce
    obtain ⟨t2, a1, b1⟩ := kx E hE T'.heap (locs ++ L) ls ce q hP1 (hD1.weaken fun _ q _ h => hF _ h) k3 hl hce hcv hcl T' rfl X'
    exact ⟨t2, st9.trans a1, b1⟩
end R11
end
section
set_option maxRecDepth 100000 in
set_option maxHeartbeats 4000000 in
theorem c_X0_init {l : Launch} {D : va_G} {cs : Nat → ClassId} {sa : Nat → Nat} (hl : l.stackTraces = false)  {q : Nat} {k x v : Int32} : EI l D cs sa P2n yX0_init cX0_init 4 (RM 1 1 4) 1 4 [.ref q, .int k, .int x, .int v] [(q, .inr (0, [.int 0, .int 0, .null, .int 0, .int 0, .int 0, .int 0, .int 0, .int 0, .int 0, .int 0]))] (X := Nat) (fun z => [(q, .inr (0, [.int k, .int x, .ref z, .int v, .int 0, .int 0, .int 0, .int 0, .int 0, .int 0, .int 0])), (z, .inl (cs 0, 4, .inl (fun _ => 0)))]) := by
  refine EI.of RX0 hl (by decide +kernel) rfl (Nat.le_of_ble_eq_true rfl) ?_
  intro p e s m args below meth c A hc hmn hp2
  refine j_aload_n hc dX0_init_0 rfl ?_
  refine j_objInit hc wt_252 wt_20 wt_21 dX0_init_1 (by decide) (Nat.le_of_ble_eq_true rfl) ?_
  refine j_aload_n hc dX0_init_4 rfl ?_
  refine j_iload_n hc dX0_init_5 rfl ?_
  refine j_putf hc (w' := [(q, .inr (0, [.int k, .int 0, .null, .int 0, .int 0, .int 0, .int 0, .int 0, .int 0, .int 0, .int 0]))]) (K := RX0) (T := TX0) (N := 11) uw0 tyX0 tyX0_ok nmX0 0 rfl rfl 0 (by decide) wt_253 rfl (Or.inr ⟨rfl, hmn, rfl⟩) (ty := .int) rfl rfl rfl (Nat.le_of_ble_eq_true rfl) rfl dX0_init_6 ?_
  refine j_aload_n hc dX0_init_9 rfl ?_
  refine j_iload_n hc dX0_init_10 rfl ?_
  refine j_putf hc (w' := [(q, .inr (0, [.int k, .int x, .null, .int 0, .int 0, .int 0, .int 0, .int 0, .int 0, .int 0, .int 0]))]) (K := RX0) (T := TX0) (N := 11) uw0 tyX0 tyX0_ok nmX0 0 rfl rfl 1 (by decide) wt_255 rfl (Or.inr ⟨rfl, hmn, rfl⟩) (ty := .int) rfl rfl rfl (Nat.le_of_ble_eq_true rfl) rfl dX0_init_11 ?_
  refine j_aload_n hc dX0_init_14 rfl ?_
  refine j_iload_n hc dX0_init_15 rfl ?_
  refine j_putf hc (w' := [(q, .inr (0, [.int k, .int x, .null, .int v, .int 0, .int 0, .int 0, .int 0, .int 0, .int 0, .int 0]))]) (K := RX0) (T := TX0) (N := 11) uw0 tyX0 tyX0_ok nmX0 0 rfl rfl 3 (by decide) wt_259 rfl (Or.inl rfl) (ty := .int) rfl rfl rfl (Nat.le_of_ble_eq_true rfl) rfl dX0_init_16 ?_
  refine j_aload_n hc dX0_init_19 rfl ?_
  refine j_iconst hc (v := 4) dX0_init_20 (by decide) ?_
  refine j_newaI hc (N := 4) (by decide) rfl (Nat.le_of_ble_eq_true rfl) (Nat.le_of_ble_eq_true rfl) (Nat.le_of_ble_eq_true rfl) dX0_init_21 (fun q21 => ?_)
  refine j_w (w' := [(q, .inr (0, [.int k, .int x, .null, .int v, .int 0, .int 0, .int 0, .int 0, .int 0, .int 0, .int 0])), (q21, .inl (cs 0, 4, .inl (fun _ => 0)))]) rfl ?_
  refine j_putf hc (w' := [(q, .inr (0, [.int k, .int x, .ref q21, .int v, .int 0, .int 0, .int 0, .int 0, .int 0, .int 0, .int 0])), (q21, .inl (cs 0, 4, .inl (fun _ => 0)))]) (K := RX0) (T := TX0) (N := 11) uw0 tyX0 tyX0_ok nmX0 0 rfl rfl 2 (by decide) wt_257 rfl (Or.inr ⟨rfl, hmn, rfl⟩) (ty := (.array .int)) rfl rfl rfl (Nat.le_of_ble_eq_true rfl) rfl dX0_init_23 ?_
  exact j_ivret hc (q21 : Nat) rfl (by decide) (by decide) rfl dX0_init_26
set_option maxRecDepth 100000 in
set_option maxHeartbeats 4000000 in
theorem c_X1_init {l : Launch} {D : va_G} {cs : Nat → ClassId} {sa : Nat → Nat} (hl : l.stackTraces = false)  {q : Nat} : EI l D cs sa P2n yX1_init cX1_init 1 (RM 1 1 485) 1 485 [.ref q] [(q, .inr (1, [.int 0, .null]))] (X := Nat) (fun z => [(q, .inr (1, [.int 31, .ref z])), (z, .inl (cs 1, 485, .inr (.inl (fun _ => 0))))]) := by
  refine EI.of RX1 hl (by decide +kernel) rfl (Nat.le_of_ble_eq_true rfl) ?_
  intro p e s m args below meth c A hc hmn hp2
  refine j_aload_n hc dX1_init_0 rfl ?_
  refine j_objInit hc wt_27 wt_20 wt_21 dX1_init_1 (by decide) (Nat.le_of_ble_eq_true rfl) ?_
  refine j_aload_n hc dX1_init_4 rfl ?_
  refine j_bipush hc (v := 31) dX1_init_5 (by decide) ?_
  refine j_putf hc (w' := [(q, .inr (1, [.int 31, .null]))]) (K := RX1) (T := TX1) (N := 2) uw1 tyX1 tyX1_ok nmX1 0 rfl rfl 0 (by decide) wt_28 rfl (Or.inl rfl) (ty := .int) rfl rfl rfl (Nat.le_of_ble_eq_true rfl) rfl dX1_init_7 ?_
  refine j_aload_n hc dX1_init_10 rfl ?_
  refine j_sipush hc (v := 485) dX1_init_11 (by decide) ?_
  refine j_newaJ hc (N := 485) (by decide) rfl (Nat.le_of_ble_eq_true rfl) (Nat.le_of_ble_eq_true rfl) (Nat.le_of_ble_eq_true rfl) dX1_init_14 (fun q14 => ?_)
  refine j_w (w' := [(q, .inr (1, [.int 31, .null])), (q14, .inl (cs 1, 485, .inr (.inl (fun _ => 0))))]) rfl ?_
  refine j_putf hc (w' := [(q, .inr (1, [.int 31, .ref q14])), (q14, .inl (cs 1, 485, .inr (.inl (fun _ => 0))))]) (K := RX1) (T := TX1) (N := 2) uw1 tyX1 tyX1_ok nmX1 0 rfl rfl 1 (by decide) wt_30 rfl (Or.inr ⟨rfl, hmn, rfl⟩) (ty := (.array .long)) rfl rfl rfl (Nat.le_of_ble_eq_true rfl) rfl dX1_init_16 ?_
  exact j_ivret hc (q14 : Nat) rfl (by decide) (by decide) rfl dX1_init_19
set_option maxRecDepth 100000 in
set_option maxHeartbeats 4000000 in
theorem c_X2_init {l : Launch} {D : va_G} {cs : Nat → ClassId} {sa : Nat → Nat} (hl : l.stackTraces = false)  {q : Nat} : EI l D cs sa P2n yX2_init cX2_init 1 (RM 1 1 400) 1 400 [.ref q] [(q, .inr (2, [.null, .int 0]))] (X := Nat) (fun z => [(q, .inr (2, [.ref z, .int 0])), (z, .inl (cs 0, 400, .inl (fun _ => 0)))]) := by
  refine EI.of RX2 hl (by decide +kernel) rfl (Nat.le_of_ble_eq_true rfl) ?_
  intro p e s m args below meth c A hc hmn hp2
  refine j_aload_n hc dX2_init_0 rfl ?_
  refine j_objInit hc wt_68 wt_20 wt_21 dX2_init_1 (by decide) (Nat.le_of_ble_eq_true rfl) ?_
  refine j_aload_n hc dX2_init_4 rfl ?_
  refine j_sipush hc (v := 400) dX2_init_5 (by decide) ?_
  refine j_newaI hc (N := 400) (by decide) rfl (Nat.le_of_ble_eq_true rfl) (Nat.le_of_ble_eq_true rfl) (Nat.le_of_ble_eq_true rfl) dX2_init_8 (fun q8 => ?_)
  refine j_w (w' := [(q, .inr (2, [.null, .int 0])), (q8, .inl (cs 0, 400, .inl (fun _ => 0)))]) rfl ?_
  refine j_putf hc (w' := [(q, .inr (2, [.ref q8, .int 0])), (q8, .inl (cs 0, 400, .inl (fun _ => 0)))]) (K := RX2) (T := TX2) (N := 2) uw2 tyX2 tyX2_ok nmX2 0 rfl rfl 0 (by decide) wt_69 rfl (Or.inr ⟨rfl, hmn, rfl⟩) (ty := (.array .int)) rfl rfl rfl (Nat.le_of_ble_eq_true rfl) rfl dX2_init_10 ?_
  exact j_ivret hc (q8 : Nat) rfl (by decide) (by decide) rfl dX2_init_13
def gcp (f : Nat → Int32) (i : Nat) : Nat → Int32 := fun j => if j < i then f j else 0
theorem gcp_0 (f : Nat → Int32) : (fun _ => 0) = gcp f 0 := funext fun j => (if_neg (Nat.not_lt_zero j)).symm
theorem gcp_s (f : Nat → Int32) (i : Nat) : upd (gcp f i) i (f i) = gcp f (i + 1) := funext fun j => by
  unfold upd gcp
  by_cases h : j = i
  · subst h; rw [if_pos rfl, if_pos (Nat.lt_succ_self j)]
  · rw [if_neg h]
    by_cases h2 : j < i
    · rw [if_pos h2, if_pos (by omega)]
    · rw [if_neg h2, if_neg (by omega)]
/-- a table of ints that nobody writes -/
def tabI (t N : Nat) (f : Nat → Int32) : P2T := fun A U H => va_T .int t N (fun j => .int (f j)) A U H
theorem tabI_ok (t N : Nat) (f : Nat → Int32) : P2ok (tabI t N f) := ⟨fun A U g mk a h => va_T.moved (u := U) (U := U.calling g mk a) (Vm.Alike.refl U.vm) h, fun A B s U H locs h hS hB hU hW => by
  subst hU
  exact ((va_T.moved hW.alike h).kept hS.2.1).narrow hB⟩
section TB
variable {p : Program} {l : Launch} {e : Env} {R : Room} {s : State} {m : MethodId} {args : Array Value} {below : List Frame} {meth : Method} {c : Code} {D : va_G} {cs : Nat → ClassId} {sa : Nat → Nat} {A : Nat → Prop} {cc : ByteArray} {nL : Nat} {own : String} {ret : Option FieldType} {cells slots : Nat} {Q : State → Prop} {w : va_W} {pc : Nat} {lv : List (Nat × Value)} {st : List Value}
theorem j_tlen (hc : CX p l e R s m args below meth c D cs sa A cc nL own ret) {t N : Nat} {f : Nat → Int32} (hT : tabI t N f A s s.heap) (hdg : decode cc pc = .ok (.arraylength, 1)) (kk : J p l e R s m args below meth c D A nL cells slots Q w (pc + 1) lv (.int (nI N) :: st)) : J p l e R s m args below meth c D A nL cells slots Q w pc lv (.ref t :: st) := fun H locs ls hP hD hS hl => va_tlen hc.1.1 hc.1.2.1 hT hS rfl hdg (kk H locs ls hP hD hS hl)
theorem j_tld (hc : CX p l e R s m args below meth c D cs sa A cc nL own ret) {t N i : Nat} {f : Nat → Int32} (hT : tabI t N f A s s.heap) (hin : vp_in (nI i) N) (hdg : decode cc pc = .ok (.iaload, 1)) (kk : J p l e R s m args below meth c D A nL cells slots Q w (pc + 1) lv (.int (f i) :: st)) (hi : i < 2 ^ 31 := by omega) : J p l e R s m args below meth c D A nL cells slots Q w pc lv (.int (nI i) :: .ref t :: st) := fun H locs ls hP hD hS hl => va_ti hc.1.1 hc.1.2.1 hT hS hin (by rw [nI_clamp hi]) hdg (kk H locs ls hP hD hS hl)
theorem j_gets (hc : CX p l e R s m args below meth c D cs sa A cc nL own ret) {nm ds : String} {v : Value} {index : Nat} (hZ : va_Z own nm ds v A s s.heap) (hm : Cond.fieldLink own index own nm ds ∈ WT) (hdg : decode cc pc = .ok (.getstatic index, 3)) (kk : J p l e R s m args below meth c D A nL cells slots Q w (pc + 3) lv (v :: st)) : J p l e R s m args below meth c D A nL cells slots Q w pc lv st := fun H locs ls hP hD hS hl => va_gets hc.1.1 hc.1.2.1 hZ hS hc.1.2.2.2.1 (hc.1.2.2.2.2 _ hm) (fun _ h => h) hdg (kk H locs ls hP hD hS hl)
end TB
set_option maxRecDepth 100000 in
set_option maxHeartbeats 4000000 in
theorem c_X3_init {l : Launch} {D : va_G} {cs : Nat → ClassId} {sa : Nat → Nat} (hl : l.stackTraces = false)  {q t N : Nat} {f : Nat → Int32} (hN : N ≤ 6) : EI l D cs sa (tabI t N f) yX3_init cX3_init 3 (RM 1 1 6) 1 6 [.ref q, .ref t] [(q, .inr (3, [.null, .int 0]))] (X := Nat) (fun z => [(q, .inr (3, [.ref z, .int (nI N)])), (z, .inl (cs 0, 6, .inl (gcp f N)))]) := by
  refine EI.of RX3 hl (by decide +kernel) rfl (Nat.le_of_ble_eq_true rfl) ?_
  intro p e s m args below meth c A hc hmn hp2
  refine j_aload_n hc dX3_init_0 rfl ?_
  refine j_objInit hc wt_45 wt_20 wt_21 dX3_init_1 (by decide) (Nat.le_of_ble_eq_true rfl) ?_
  refine j_aload_n hc dX3_init_4 rfl ?_
  refine j_bipush hc (v := 6) dX3_init_5 (by decide) ?_
  refine j_newaI hc (N := 6) (by decide) rfl (Nat.le_of_ble_eq_true rfl) (Nat.le_of_ble_eq_true rfl) (Nat.le_of_ble_eq_true rfl) dX3_init_7 (fun q7 => ?_)
  refine j_w (w' := [(q, .inr (3, [.null, .int 0])), (q7, .inl (cs 0, 6, .inl (fun _ => 0)))]) rfl ?_
  refine j_putf hc (w' := [(q, .inr (3, [.ref q7, .int 0])), (q7, .inl (cs 0, 6, .inl (fun _ => 0)))]) (K := RX3) (T := TX3) (N := 2) uw3 tyX3 tyX3_ok nmX3 0 rfl rfl 0 (by decide) wt_46 rfl (Or.inr ⟨rfl, hmn, rfl⟩) (ty := (.array .int)) rfl rfl rfl (Nat.le_of_ble_eq_true rfl) rfl dX3_init_9 ?_
  refine j_iconst hc (v := 0) dX3_init_12 (by decide) ?_
  have loop : ∀ (k i : Nat), i + k = N → J p l e (RM 1 1 6) s m args below meth c D A 3 1 6 (MQ below (QI D (fun z : Nat => [(q, .inr (3, [.ref z, .int (nI N)])), (z, .inl (cs 0, 6, .inl (gcp f N)))]) A) args s 1 6 A) [(q, .inr (3, [.ref q7, .int (nI i)])), (q7, .inl (cs 0, 6, .inl (gcp f i)))] 14 [(0, .ref q), (1, .ref t), (2, .int (nI i))] [] := by
    intro k
    induction k with
    | zero =>
      intro i hi
      refine j_iload_n hc dX3_init_14 rfl ?_
      refine j_aload_n hc dX3_init_15 rfl ?_
      refine j_tlen hc hp2 dX3_init_16 ?_
      refine j_icmp_ge hc 54 dX3_init_17 (by decide) (fun _ => ?_) (fun h => absurd (nI_le (by omega) (by omega)) h)
      have hiN : i = N := by omega
      subst hiN
      exact j_ivret hc (q7 : Nat) rfl (by decide) (by decide) rfl dX3_init_54
    | succ k ih =>
      intro i hi
      have hin : vp_in (nI i) N := vp_in_nI (by omega) (by omega)
      have hin6 : vp_in (nI i) 6 := vp_in_nI (by omega) (by decide)
      refine j_iload_n hc dX3_init_14 rfl ?_
      refine j_aload_n hc dX3_init_15 rfl ?_
      refine j_tlen hc hp2 dX3_init_16 ?_
      refine j_icmp_ge hc 54 dX3_init_17 (by decide) (fun h => absurd h (nI_ge (by omega) (by omega))) (fun _ => ?_)
      refine j_iload_n hc dX3_init_20 rfl ?_
      refine j_aload_n hc dX3_init_21 rfl ?_
      refine j_getf hc (K := RX3) (T := TX3) (N := 2) uw3 0 rfl rfl 0 (by decide) wt_46 rfl rfl dX3_init_22 ?_
      refine j_alen hc 1 0 rfl rfl (v := 6) rfl dX3_init_25 ?_
      refine j_icmp_ge hc 54 dX3_init_26 (by decide) (fun h => absurd h (nI_ge (b := 6) (by omega) (by omega))) (fun _ => ?_)
      refine j_aload_n hc dX3_init_29 rfl ?_
      refine j_getf hc (K := RX3) (T := TX3) (N := 2) uw3 0 rfl rfl 0 (by decide) wt_46 rfl rfl dX3_init_30 ?_
      refine j_iload_n hc dX3_init_33 rfl ?_
      refine j_aload_n hc dX3_init_34 rfl ?_
      refine j_iload_n hc dX3_init_35 rfl ?_
      refine j_tld hc hp2 hin dX3_init_36 ?_
      refine j_iastore hc (w' := [(q, .inr (3, [.ref q7, .int (nI i)])), (q7, .inl (cs 0, 6, .inl (gcp f (i + 1))))]) 1 rfl hin6 (by rw [nI_clamp (show i < 2 ^ 31 by omega), gcp_s]; rfl) dX3_init_37 ?_
      refine j_aload_n hc dX3_init_38 rfl ?_
      refine j_dup hc dX3_init_39 rfl ?_
      refine j_getf hc (K := RX3) (T := TX3) (N := 2) uw3 0 rfl rfl 1 (by decide) wt_47 rfl rfl dX3_init_40 ?_
      refine j_iconst hc (v := 1) dX3_init_43 (by decide) ?_
      refine j_iadd hc dX3_init_44 ?_
      refine j_putf hc (w' := [(q, .inr (3, [.ref q7, .int (nI (i + 1))])), (q7, .inl (cs 0, 6, .inl (gcp f (i + 1))))]) (K := RX3) (T := TX3) (N := 2) uw3 tyX3 tyX3_ok nmX3 0 rfl rfl 1 (by decide) wt_47 rfl (Or.inl rfl) (ty := .int) rfl rfl rfl (Nat.le_of_ble_eq_true rfl) (by rw [nI_1]; rfl) dX3_init_45 ?_
      refine j_inc hc dX3_init_48 rfl (z := 1) (by decide) rfl ?_
      refine j_goto hc 14 dX3_init_51 (by decide) ?_
      refine j_lv [(0, .ref q), (1, .ref t), (2, .int (nI i + 1))] ⟨rfl, rfl, rfl, trivial⟩ ?_
      rw [nI_1]
      exact ih (i + 1) (by omega)
  refine j_istore_n hc dX3_init_13 rfl ?_
  rw [gcp_0 f]
  refine j_lv [(0, .ref q), (1, .ref t), (2, .int (nI 0))] ⟨rfl, rfl, rfl, trivial⟩ ?_
  exact loop N 0 (by omega)
def EL (ad : Nat → Nat) (cs : Nat → ClassId) (n : Nat) (E : ES) : va_W := [
  (ad 0, .inr (4, [.ref (ad 1), .ref (ad 3), .ref (ad 12), .ref (ad 13), .int (E.1 4), .int (E.1 5), .int (E.1 6), .int (E.1 7), .int (E.1 8), .int (E.1 9), .int (E.1 10), .int (E.1 11)])),
  (ad 1, .inr (1, [.int (E.1 12), .ref (ad 2)])),
  (ad 2, .inl (cs 1, 485, .inr (.inl E.2.2))),
  (ad 3, .inl (cs 4, 4, .inr (.inr (.inr (.inr (gpf ad)))))),
  (ad 4, .inr (3, [.ref (ad 5), .int (E.1 14)])),
  (ad 5, .inl (cs 0, 6, .inl (E.2.1 20))),
  (ad 6, .inr (3, [.ref (ad 7), .int (E.1 15)])),
  (ad 7, .inl (cs 0, 6, .inl (E.2.1 21))),
  (ad 8, .inr (3, [.ref (ad 9), .int (E.1 16)])),
  (ad 9, .inl (cs 0, 6, .inl (E.2.1 22))),
  (ad 10, .inr (3, [.ref (ad 11), .int (E.1 17)])),
  (ad 11, .inl (cs 0, 6, .inl (E.2.1 23))),
  (ad 12, .inl (cs 3, 30, .inr (.inr (.inr (.inr (brf ad n)))))),
  (ad 13, .inr (2, [.ref (ad 14), .int (E.1 13)])),
  (ad 14, .inl (cs 0, 400, .inl (E.2.1 30)))]
def ML (ad : Nat → Nat) (cs : Nat → ClassId) (S : MS) : va_W := [
  (ad 15, .inl (cs 0, 9, .inl (S 0))),
  (ad 16, .inl (cs 0, 64, .inl (S 1))),
  (ad 17, .inl (cs 0, 30, .inl (S 2))),
  (ad 18, .inl (cs 0, 5, .inl (S 3))),
  (ad 19, .inl (cs 0, 36, .inl (S 4))),
  (ad 20, .inl (cs 0, 48, .inl (S 5))),
  (ad 21, .inl (cs 0, 60, .inl (S 6))),
  (ad 22, .inl (cs 0, 36, .inl (S 7))),
  (ad 23, .inl (cs 0, 60, .inl (S 8)))]
theorem fx_eq (ad : Nat → Nat) (cs : Nat → ClassId) (n : Nat) (E : ES) (S : MS) (o : Nat → Int64) : FX ad cs n E S o = EL ad cs n E ++ ML ad cs S := rfl
def g0 : Nat → Int32 := fun j => match j with | 0 => 3 | 1 => 5 | _ => 7
def g1 : Nat → Int32 := fun _ => 7
def g2 : Nat → Int32 := fun _ => 0
def g3 : Nat → Int32 := fun _ => 1
/-- the class's numbers when it is new -/
def E0 : ES := (fun k => match k with | 6 => 10 | 7 => 30 | 12 => 31 | 14 => nI 3 | 15 => nI 2 | 16 => nI 0 | 17 => nI 4 | _ => 0, fun k => match k with | 20 => gcp g0 3 | 21 => gcp g1 2 | 22 => gcp g2 0 | 23 => gcp g3 4 | _ => fun _ => 0, fun _ => 0)
/-- the class's statics, and its arrays of objects -/
def FGn : Nat → String := fun k => match k with | 0 => "FIRST_GAPS_NO_MONEY" | 1 => "FIRST_GAPS_EXPIRED" | 2 => "FIRST_GAPS_BLOCKED" | _ => "FIRST_GAPS_ERROR"
def FGl : Nat → Nat := fun k => match k with | 0 => 3 | 1 => 2 | 2 => 0 | _ => 4
def FGf : Nat → Nat → Int32 := fun k => match k with | 0 => g0 | 1 => g1 | 2 => g2 | _ => g3
def EST (tt : Nat → Nat) : P2T := fun A U H => va_AO RX3 U ∧ va_AO RX0 U ∧ ∀ k, k < 4 → va_Z RX4 (FGn k) "[I" (.ref (tt k)) A U H ∧ tabI (tt k) (FGl k) (FGf k) A U H
theorem EST_ok (tt : Nat → Nat) : P2ok (EST tt) := ⟨fun A U g mk a h => ⟨va_AO.moved (u := U) (U := U.calling g mk a) (Vm.Alike.refl U.vm) h.1, va_AO.moved (u := U) (U := U.calling g mk a) (Vm.Alike.refl U.vm) h.2.1, fun k hk => ⟨va_Z.moved (u := U) (U := U.calling g mk a) (Vm.Alike.refl U.vm) (h.2.2 k hk).1, (tabI_ok _ _ _).1 A U g mk a (h.2.2 k hk).2⟩⟩, fun A B s U H locs h hS hB hU hW => by
  subst hU
  exact ⟨va_AO.moved hW.alike h.1, va_AO.moved hW.alike h.2.1, fun k hk => ⟨((va_Z.moved hW.alike (h.2.2 k hk).1).kept hS.2.1).narrow hB, (tabI_ok _ _ _).2 A B s U _ locs (h.2.2 k hk).2 hS hB rfl hW⟩⟩⟩
theorem gpf4 (ad : Nat → Nat) : va_up (va_up (va_up (va_up (fun _ => none) 0 (some (ad 4))) 1 (some (ad 6))) 2 (some (ad 8))) 3 (some (ad 10)) = gpf ad := funext fun i => by
  match i with
  | 0 => rfl
  | 1 => rfl
  | 2 => rfl
  | 3 => rfl
  | i + 4 =>
    have h : ¬ i + 4 < 4 := by omega
    simp [va_up, gpf]
theorem brf0 (ad : Nat → Nat) : (fun _ => none) = brf ad 0 := funext fun i => (if_neg (Nat.not_lt_zero i)).symm
set_option maxRecDepth 100000 in
set_option maxHeartbeats 4000000 in
theorem c_X4_init {l : Launch} {D : va_G} {cs : Nat → ClassId} {sa : Nat → Nat} (hl : l.stackTraces = false)  {q : Nat} {tt : Nat → Nat} : EI l D cs sa (EST tt) yX4_init cX4_init 1 (RM 2 14 955) 14 955 [.ref q] [(q, .inr (4, [.null, .null, .null, .null, .int 0, .int 0, .int 0, .int 0, .int 0, .int 0, .int 0, .int 0]))] (X := Subtype fun ad : Nat → Nat => ad 0 = q) (fun x => EL x.1 cs 0 E0) := by
  refine EI.of RX4 hl (by decide +kernel) rfl (Nat.le_of_ble_eq_true rfl) ?_
  intro p e s m args below meth c A hc hmn hp2
  have hG := hp2.1
  have hB := hp2.2.1
  refine j_aload_n hc dX4_init_0 rfl ?_
  refine j_objInit hc wt_19 wt_20 wt_21 dX4_init_1 (by decide) (Nat.le_of_ble_eq_true rfl) ?_
  refine j_aload_n hc dX4_init_4 rfl ?_
  refine j_new hc (K := RX1) (T := TX1) (N := 2) (ci := 1) uw1 tyX1 tyX1_ok wt_22 wt_23 wt_2 rfl (fs := [.int 0, .null]) (fun j hj => by match j, hj with | 0, _ => rfl | 1, _ => rfl | j + 2, h => exact absurd h (by omega)) (Nat.le_of_ble_eq_true rfl) (Nat.le_of_ble_eq_true rfl) dX4_init_5 (fun q5 => ?_)
  refine j_w (w' := [(q, .inr (4, [.null, .null, .null, .null, .int 0, .int 0, .int 0, .int 0, .int 0, .int 0, .int 0, .int 0])), (q5, .inr (1, [.int 0, .null]))]) rfl ?_
  refine j_dup hc dX4_init_8 rfl ?_
  refine j_callI hc (w := [(q, .inr (4, [.null, .null, .null, .null, .int 0, .int 0, .int 0, .int 0, .int 0, .int 0, .int 0, .int 0])), (q5, .inr (1, [.int 0, .null]))]) [(q, .inr (4, [.null, .null, .null, .null, .int 0, .int 0, .int 0, .int 0, .int 0, .int 0, .int 0, .int 0]))] (c_X1_init hl) ic_X4_9 P2n_ok trivial rfl ⟨rfl, rfl, by decide, by decide⟩ rfl rfl (Nat.le_of_ble_eq_true rfl) ⟨by decide, by decide⟩ dX4_init_9 (fun z9 => ?_)
  refine j_w (w' := [(q, .inr (4, [.null, .null, .null, .null, .int 0, .int 0, .int 0, .int 0, .int 0, .int 0, .int 0, .int 0])), (q5, .inr (1, [.int 31, .ref z9])), (z9, .inl (cs 1, 485, .inr (.inl (fun _ => 0))))]) rfl ?_
  refine j_putf hc (w' := [(q, .inr (4, [.ref q5, .null, .null, .null, .int 0, .int 0, .int 0, .int 0, .int 0, .int 0, .int 0, .int 0])), (q5, .inr (1, [.int 31, .ref z9])), (z9, .inl (cs 1, 485, .inr (.inl (fun _ => 0))))]) (K := RX4) (T := TX4) (N := 12) uw4 tyX4 tyX4_ok nmX4 0 rfl rfl 0 (by decide) wt_77 rfl (Or.inr ⟨rfl, hmn, rfl⟩) (ty := (.object "CollectionsEngine$Calendar")) rfl rfl rfl (Nat.le_of_ble_eq_true rfl) rfl dX4_init_12 ?_
  refine j_aload_n hc dX4_init_15 rfl ?_
  refine j_iconst hc (v := 4) dX4_init_16 (by decide) ?_
  refine j_newqGaps hc wt_37 hG (N := 4) (by decide) rfl (Nat.le_of_ble_eq_true rfl) (Nat.le_of_ble_eq_true rfl) (Nat.le_of_ble_eq_true rfl) dX4_init_17 (fun q17 => ?_)
  refine j_w (w' := [(q, .inr (4, [.ref q5, .null, .null, .null, .int 0, .int 0, .int 0, .int 0, .int 0, .int 0, .int 0, .int 0])), (q5, .inr (1, [.int 31, .ref z9])), (z9, .inl (cs 1, 485, .inr (.inl (fun _ => 0)))), (q17, .inl (cs 4, 4, .inr (.inr (.inr (.inr (fun _ => none))))))]) rfl ?_
  refine j_dup hc dX4_init_20 rfl ?_
  refine j_iconst hc (v := 0) dX4_init_21 (by decide) ?_
  refine j_new hc (K := RX3) (T := TX3) (N := 2) (ci := 3) uw3 tyX3 tyX3_ok wt_37 wt_39 wt_3 rfl (fs := [.null, .int 0]) (fun j hj => by match j, hj with | 0, _ => rfl | 1, _ => rfl | j + 2, h => exact absurd h (by omega)) (Nat.le_of_ble_eq_true rfl) (Nat.le_of_ble_eq_true rfl) dX4_init_22 (fun q22 => ?_)
  refine j_w (w' := [(q, .inr (4, [.ref q5, .null, .null, .null, .int 0, .int 0, .int 0, .int 0, .int 0, .int 0, .int 0, .int 0])), (q5, .inr (1, [.int 31, .ref z9])), (z9, .inl (cs 1, 485, .inr (.inl (fun _ => 0)))), (q17, .inl (cs 4, 4, .inr (.inr (.inr (.inr (fun _ => none)))))), (q22, .inr (3, [.null, .int 0]))]) rfl ?_
  refine j_dup hc dX4_init_25 rfl ?_
  refine j_gets hc (hp2.2.2 0 (by decide)).1 wt_40 dX4_init_26 ?_
  refine j_callI hc (w := [(q, .inr (4, [.ref q5, .null, .null, .null, .int 0, .int 0, .int 0, .int 0, .int 0, .int 0, .int 0, .int 0])), (q5, .inr (1, [.int 31, .ref z9])), (z9, .inl (cs 1, 485, .inr (.inl (fun _ => 0)))), (q17, .inl (cs 4, 4, .inr (.inr (.inr (.inr (fun _ => none)))))), (q22, .inr (3, [.null, .int 0]))]) [(q, .inr (4, [.ref q5, .null, .null, .null, .int 0, .int 0, .int 0, .int 0, .int 0, .int 0, .int 0, .int 0])), (q5, .inr (1, [.int 31, .ref z9])), (z9, .inl (cs 1, 485, .inr (.inl (fun _ => 0)))), (q17, .inl (cs 4, 4, .inr (.inr (.inr (.inr (fun _ => none))))))] (c_X3_init (N := FGl 0) (f := FGf 0) (t := tt 0) hl (by decide)) ic_X4_22 (tabI_ok _ _ _) (hp2.2.2 0 (by decide)).2 rfl ⟨rfl, rfl, by decide, by decide⟩ rfl rfl (Nat.le_of_ble_eq_true rfl) ⟨by decide, by decide⟩ dX4_init_29 (fun z29 => ?_)
  refine j_w (w' := [(q, .inr (4, [.ref q5, .null, .null, .null, .int 0, .int 0, .int 0, .int 0, .int 0, .int 0, .int 0, .int 0])), (q5, .inr (1, [.int 31, .ref z9])), (z9, .inl (cs 1, 485, .inr (.inl (fun _ => 0)))), (q17, .inl (cs 4, 4, .inr (.inr (.inr (.inr (fun _ => none)))))), (q22, .inr (3, [.ref z29, .int (nI (FGl 0))])), (z29, .inl (cs 0, 6, .inl (gcp (FGf 0) (FGl 0))))]) rfl ?_
  refine j_aastore hc (w' := [(q, .inr (4, [.ref q5, .null, .null, .null, .int 0, .int 0, .int 0, .int 0, .int 0, .int 0, .int 0, .int 0])), (q5, .inr (1, [.int 31, .ref z9])), (z9, .inl (cs 1, 485, .inr (.inl (fun _ => 0)))), (q17, .inl (cs 4, 4, .inr (.inr (.inr (.inr (va_up (fun _ => none) 0 (some q22))))))), (q22, .inr (3, [.ref z29, .int (nI (FGl 0))])), (z29, .inl (cs 0, 6, .inl (gcp (FGf 0) (FGl 0))))]) 3 4 4 3 rfl rfl rfl rfl (n := 4) (vp_in_nI (n := 0) (N := 4) (by decide) (by decide)) rfl dX4_init_32 ?_
  refine j_dup hc dX4_init_33 rfl ?_
  refine j_iconst hc (v := 1) dX4_init_34 (by decide) ?_
  refine j_new hc (K := RX3) (T := TX3) (N := 2) (ci := 3) uw3 tyX3 tyX3_ok wt_37 wt_39 wt_3 rfl (fs := [.null, .int 0]) (fun j hj => by match j, hj with | 0, _ => rfl | 1, _ => rfl | j + 2, h => exact absurd h (by omega)) (Nat.le_of_ble_eq_true rfl) (Nat.le_of_ble_eq_true rfl) dX4_init_35 (fun q35 => ?_)
  refine j_w (w' := [(q, .inr (4, [.ref q5, .null, .null, .null, .int 0, .int 0, .int 0, .int 0, .int 0, .int 0, .int 0, .int 0])), (q5, .inr (1, [.int 31, .ref z9])), (z9, .inl (cs 1, 485, .inr (.inl (fun _ => 0)))), (q17, .inl (cs 4, 4, .inr (.inr (.inr (.inr (va_up (fun _ => none) 0 (some q22))))))), (q22, .inr (3, [.ref z29, .int (nI (FGl 0))])), (z29, .inl (cs 0, 6, .inl (gcp (FGf 0) (FGl 0)))), (q35, .inr (3, [.null, .int 0]))]) rfl ?_
  refine j_dup hc dX4_init_38 rfl ?_
  refine j_gets hc (hp2.2.2 1 (by decide)).1 wt_55 dX4_init_39 ?_
  refine j_callI hc (w := [(q, .inr (4, [.ref q5, .null, .null, .null, .int 0, .int 0, .int 0, .int 0, .int 0, .int 0, .int 0, .int 0])), (q5, .inr (1, [.int 31, .ref z9])), (z9, .inl (cs 1, 485, .inr (.inl (fun _ => 0)))), (q17, .inl (cs 4, 4, .inr (.inr (.inr (.inr (va_up (fun _ => none) 0 (some q22))))))), (q22, .inr (3, [.ref z29, .int (nI (FGl 0))])), (z29, .inl (cs 0, 6, .inl (gcp (FGf 0) (FGl 0)))), (q35, .inr (3, [.null, .int 0]))]) [(q, .inr (4, [.ref q5, .null, .null, .null, .int 0, .int 0, .int 0, .int 0, .int 0, .int 0, .int 0, .int 0])), (q5, .inr (1, [.int 31, .ref z9])), (z9, .inl (cs 1, 485, .inr (.inl (fun _ => 0)))), (q17, .inl (cs 4, 4, .inr (.inr (.inr (.inr (va_up (fun _ => none) 0 (some q22))))))), (q22, .inr (3, [.ref z29, .int (nI (FGl 0))])), (z29, .inl (cs 0, 6, .inl (gcp (FGf 0) (FGl 0))))] (c_X3_init (N := FGl 1) (f := FGf 1) (t := tt 1) hl (by decide)) ic_X4_22 (tabI_ok _ _ _) (hp2.2.2 1 (by decide)).2 rfl ⟨rfl, rfl, by decide, by decide⟩ rfl rfl (Nat.le_of_ble_eq_true rfl) ⟨by decide, by decide⟩ dX4_init_42 (fun z42 => ?_)
  refine j_w (w' := [(q, .inr (4, [.ref q5, .null, .null, .null, .int 0, .int 0, .int 0, .int 0, .int 0, .int 0, .int 0, .int 0])), (q5, .inr (1, [.int 31, .ref z9])), (z9, .inl (cs 1, 485, .inr (.inl (fun _ => 0)))), (q17, .inl (cs 4, 4, .inr (.inr (.inr (.inr (va_up (fun _ => none) 0 (some q22))))))), (q22, .inr (3, [.ref z29, .int (nI (FGl 0))])), (z29, .inl (cs 0, 6, .inl (gcp (FGf 0) (FGl 0)))), (q35, .inr (3, [.ref z42, .int (nI (FGl 1))])), (z42, .inl (cs 0, 6, .inl (gcp (FGf 1) (FGl 1))))]) rfl ?_
  refine j_aastore hc (w' := [(q, .inr (4, [.ref q5, .null, .null, .null, .int 0, .int 0, .int 0, .int 0, .int 0, .int 0, .int 0, .int 0])), (q5, .inr (1, [.int 31, .ref z9])), (z9, .inl (cs 1, 485, .inr (.inl (fun _ => 0)))), (q17, .inl (cs 4, 4, .inr (.inr (.inr (.inr (va_up (va_up (fun _ => none) 0 (some q22)) 1 (some q35))))))), (q22, .inr (3, [.ref z29, .int (nI (FGl 0))])), (z29, .inl (cs 0, 6, .inl (gcp (FGf 0) (FGl 0)))), (q35, .inr (3, [.ref z42, .int (nI (FGl 1))])), (z42, .inl (cs 0, 6, .inl (gcp (FGf 1) (FGl 1))))]) 3 4 6 3 rfl rfl rfl rfl (n := 4) (vp_in_nI (n := 1) (N := 4) (by decide) (by decide)) rfl dX4_init_45 ?_
  refine j_dup hc dX4_init_46 rfl ?_
  refine j_iconst hc (v := 2) dX4_init_47 (by decide) ?_
  refine j_new hc (K := RX3) (T := TX3) (N := 2) (ci := 3) uw3 tyX3 tyX3_ok wt_37 wt_39 wt_3 rfl (fs := [.null, .int 0]) (fun j hj => by match j, hj with | 0, _ => rfl | 1, _ => rfl | j + 2, h => exact absurd h (by omega)) (Nat.le_of_ble_eq_true rfl) (Nat.le_of_ble_eq_true rfl) dX4_init_48 (fun q48 => ?_)
  refine j_w (w' := [(q, .inr (4, [.ref q5, .null, .null, .null, .int 0, .int 0, .int 0, .int 0, .int 0, .int 0, .int 0, .int 0])), (q5, .inr (1, [.int 31, .ref z9])), (z9, .inl (cs 1, 485, .inr (.inl (fun _ => 0)))), (q17, .inl (cs 4, 4, .inr (.inr (.inr (.inr (va_up (va_up (fun _ => none) 0 (some q22)) 1 (some q35))))))), (q22, .inr (3, [.ref z29, .int (nI (FGl 0))])), (z29, .inl (cs 0, 6, .inl (gcp (FGf 0) (FGl 0)))), (q35, .inr (3, [.ref z42, .int (nI (FGl 1))])), (z42, .inl (cs 0, 6, .inl (gcp (FGf 1) (FGl 1)))), (q48, .inr (3, [.null, .int 0]))]) rfl ?_
  refine j_dup hc dX4_init_51 rfl ?_
  refine j_gets hc (hp2.2.2 2 (by decide)).1 wt_57 dX4_init_52 ?_
  refine j_callI hc (w := [(q, .inr (4, [.ref q5, .null, .null, .null, .int 0, .int 0, .int 0, .int 0, .int 0, .int 0, .int 0, .int 0])), (q5, .inr (1, [.int 31, .ref z9])), (z9, .inl (cs 1, 485, .inr (.inl (fun _ => 0)))), (q17, .inl (cs 4, 4, .inr (.inr (.inr (.inr (va_up (va_up (fun _ => none) 0 (some q22)) 1 (some q35))))))), (q22, .inr (3, [.ref z29, .int (nI (FGl 0))])), (z29, .inl (cs 0, 6, .inl (gcp (FGf 0) (FGl 0)))), (q35, .inr (3, [.ref z42, .int (nI (FGl 1))])), (z42, .inl (cs 0, 6, .inl (gcp (FGf 1) (FGl 1)))), (q48, .inr (3, [.null, .int 0]))]) [(q, .inr (4, [.ref q5, .null, .null, .null, .int 0, .int 0, .int 0, .int 0, .int 0, .int 0, .int 0, .int 0])), (q5, .inr (1, [.int 31, .ref z9])), (z9, .inl (cs 1, 485, .inr (.inl (fun _ => 0)))), (q17, .inl (cs 4, 4, .inr (.inr (.inr (.inr (va_up (va_up (fun _ => none) 0 (some q22)) 1 (some q35))))))), (q22, .inr (3, [.ref z29, .int (nI (FGl 0))])), (z29, .inl (cs 0, 6, .inl (gcp (FGf 0) (FGl 0)))), (q35, .inr (3, [.ref z42, .int (nI (FGl 1))])), (z42, .inl (cs 0, 6, .inl (gcp (FGf 1) (FGl 1))))] (c_X3_init (N := FGl 2) (f := FGf 2) (t := tt 2) hl (by decide)) ic_X4_22 (tabI_ok _ _ _) (hp2.2.2 2 (by decide)).2 rfl ⟨rfl, rfl, by decide, by decide⟩ rfl rfl (Nat.le_of_ble_eq_true rfl) ⟨by decide, by decide⟩ dX4_init_55 (fun z55 => ?_)
  refine j_w (w' := [(q, .inr (4, [.ref q5, .null, .null, .null, .int 0, .int 0, .int 0, .int 0, .int 0, .int 0, .int 0, .int 0])), (q5, .inr (1, [.int 31, .ref z9])), (z9, .inl (cs 1, 485, .inr (.inl (fun _ => 0)))), (q17, .inl (cs 4, 4, .inr (.inr (.inr (.inr (va_up (va_up (fun _ => none) 0 (some q22)) 1 (some q35))))))), (q22, .inr (3, [.ref z29, .int (nI (FGl 0))])), (z29, .inl (cs 0, 6, .inl (gcp (FGf 0) (FGl 0)))), (q35, .inr (3, [.ref z42, .int (nI (FGl 1))])), (z42, .inl (cs 0, 6, .inl (gcp (FGf 1) (FGl 1)))), (q48, .inr (3, [.ref z55, .int (nI (FGl 2))])), (z55, .inl (cs 0, 6, .inl (gcp (FGf 2) (FGl 2))))]) rfl ?_
  refine j_aastore hc (w' := [(q, .inr (4, [.ref q5, .null, .null, .null, .int 0, .int 0, .int 0, .int 0, .int 0, .int 0, .int 0, .int 0])), (q5, .inr (1, [.int 31, .ref z9])), (z9, .inl (cs 1, 485, .inr (.inl (fun _ => 0)))), (q17, .inl (cs 4, 4, .inr (.inr (.inr (.inr (va_up (va_up (va_up (fun _ => none) 0 (some q22)) 1 (some q35)) 2 (some q48))))))), (q22, .inr (3, [.ref z29, .int (nI (FGl 0))])), (z29, .inl (cs 0, 6, .inl (gcp (FGf 0) (FGl 0)))), (q35, .inr (3, [.ref z42, .int (nI (FGl 1))])), (z42, .inl (cs 0, 6, .inl (gcp (FGf 1) (FGl 1)))), (q48, .inr (3, [.ref z55, .int (nI (FGl 2))])), (z55, .inl (cs 0, 6, .inl (gcp (FGf 2) (FGl 2))))]) 3 4 8 3 rfl rfl rfl rfl (n := 4) (vp_in_nI (n := 2) (N := 4) (by decide) (by decide)) rfl dX4_init_58 ?_
  refine j_dup hc dX4_init_59 rfl ?_
  refine j_iconst hc (v := 3) dX4_init_60 (by decide) ?_
  refine j_new hc (K := RX3) (T := TX3) (N := 2) (ci := 3) uw3 tyX3 tyX3_ok wt_37 wt_39 wt_3 rfl (fs := [.null, .int 0]) (fun j hj => by match j, hj with | 0, _ => rfl | 1, _ => rfl | j + 2, h => exact absurd h (by omega)) (Nat.le_of_ble_eq_true rfl) (Nat.le_of_ble_eq_true rfl) dX4_init_61 (fun q61 => ?_)
  refine j_w (w' := [(q, .inr (4, [.ref q5, .null, .null, .null, .int 0, .int 0, .int 0, .int 0, .int 0, .int 0, .int 0, .int 0])), (q5, .inr (1, [.int 31, .ref z9])), (z9, .inl (cs 1, 485, .inr (.inl (fun _ => 0)))), (q17, .inl (cs 4, 4, .inr (.inr (.inr (.inr (va_up (va_up (va_up (fun _ => none) 0 (some q22)) 1 (some q35)) 2 (some q48))))))), (q22, .inr (3, [.ref z29, .int (nI (FGl 0))])), (z29, .inl (cs 0, 6, .inl (gcp (FGf 0) (FGl 0)))), (q35, .inr (3, [.ref z42, .int (nI (FGl 1))])), (z42, .inl (cs 0, 6, .inl (gcp (FGf 1) (FGl 1)))), (q48, .inr (3, [.ref z55, .int (nI (FGl 2))])), (z55, .inl (cs 0, 6, .inl (gcp (FGf 2) (FGl 2)))), (q61, .inr (3, [.null, .int 0]))]) rfl ?_
  refine j_dup hc dX4_init_64 rfl ?_
  refine j_gets hc (hp2.2.2 3 (by decide)).1 wt_59 dX4_init_65 ?_
  refine j_callI hc (w := [(q, .inr (4, [.ref q5, .null, .null, .null, .int 0, .int 0, .int 0, .int 0, .int 0, .int 0, .int 0, .int 0])), (q5, .inr (1, [.int 31, .ref z9])), (z9, .inl (cs 1, 485, .inr (.inl (fun _ => 0)))), (q17, .inl (cs 4, 4, .inr (.inr (.inr (.inr (va_up (va_up (va_up (fun _ => none) 0 (some q22)) 1 (some q35)) 2 (some q48))))))), (q22, .inr (3, [.ref z29, .int (nI (FGl 0))])), (z29, .inl (cs 0, 6, .inl (gcp (FGf 0) (FGl 0)))), (q35, .inr (3, [.ref z42, .int (nI (FGl 1))])), (z42, .inl (cs 0, 6, .inl (gcp (FGf 1) (FGl 1)))), (q48, .inr (3, [.ref z55, .int (nI (FGl 2))])), (z55, .inl (cs 0, 6, .inl (gcp (FGf 2) (FGl 2)))), (q61, .inr (3, [.null, .int 0]))]) [(q, .inr (4, [.ref q5, .null, .null, .null, .int 0, .int 0, .int 0, .int 0, .int 0, .int 0, .int 0, .int 0])), (q5, .inr (1, [.int 31, .ref z9])), (z9, .inl (cs 1, 485, .inr (.inl (fun _ => 0)))), (q17, .inl (cs 4, 4, .inr (.inr (.inr (.inr (va_up (va_up (va_up (fun _ => none) 0 (some q22)) 1 (some q35)) 2 (some q48))))))), (q22, .inr (3, [.ref z29, .int (nI (FGl 0))])), (z29, .inl (cs 0, 6, .inl (gcp (FGf 0) (FGl 0)))), (q35, .inr (3, [.ref z42, .int (nI (FGl 1))])), (z42, .inl (cs 0, 6, .inl (gcp (FGf 1) (FGl 1)))), (q48, .inr (3, [.ref z55, .int (nI (FGl 2))])), (z55, .inl (cs 0, 6, .inl (gcp (FGf 2) (FGl 2))))] (c_X3_init (N := FGl 3) (f := FGf 3) (t := tt 3) hl (by decide)) ic_X4_22 (tabI_ok _ _ _) (hp2.2.2 3 (by decide)).2 rfl ⟨rfl, rfl, by decide, by decide⟩ rfl rfl (Nat.le_of_ble_eq_true rfl) ⟨by decide, by decide⟩ dX4_init_68 (fun z68 => ?_)
  refine j_w (w' := [(q, .inr (4, [.ref q5, .null, .null, .null, .int 0, .int 0, .int 0, .int 0, .int 0, .int 0, .int 0, .int 0])), (q5, .inr (1, [.int 31, .ref z9])), (z9, .inl (cs 1, 485, .inr (.inl (fun _ => 0)))), (q17, .inl (cs 4, 4, .inr (.inr (.inr (.inr (va_up (va_up (va_up (fun _ => none) 0 (some q22)) 1 (some q35)) 2 (some q48))))))), (q22, .inr (3, [.ref z29, .int (nI (FGl 0))])), (z29, .inl (cs 0, 6, .inl (gcp (FGf 0) (FGl 0)))), (q35, .inr (3, [.ref z42, .int (nI (FGl 1))])), (z42, .inl (cs 0, 6, .inl (gcp (FGf 1) (FGl 1)))), (q48, .inr (3, [.ref z55, .int (nI (FGl 2))])), (z55, .inl (cs 0, 6, .inl (gcp (FGf 2) (FGl 2)))), (q61, .inr (3, [.ref z68, .int (nI (FGl 3))])), (z68, .inl (cs 0, 6, .inl (gcp (FGf 3) (FGl 3))))]) rfl ?_
  refine j_aastore hc (w' := [(q, .inr (4, [.ref q5, .null, .null, .null, .int 0, .int 0, .int 0, .int 0, .int 0, .int 0, .int 0, .int 0])), (q5, .inr (1, [.int 31, .ref z9])), (z9, .inl (cs 1, 485, .inr (.inl (fun _ => 0)))), (q17, .inl (cs 4, 4, .inr (.inr (.inr (.inr (va_up (va_up (va_up (va_up (fun _ => none) 0 (some q22)) 1 (some q35)) 2 (some q48)) 3 (some q61))))))), (q22, .inr (3, [.ref z29, .int (nI (FGl 0))])), (z29, .inl (cs 0, 6, .inl (gcp (FGf 0) (FGl 0)))), (q35, .inr (3, [.ref z42, .int (nI (FGl 1))])), (z42, .inl (cs 0, 6, .inl (gcp (FGf 1) (FGl 1)))), (q48, .inr (3, [.ref z55, .int (nI (FGl 2))])), (z55, .inl (cs 0, 6, .inl (gcp (FGf 2) (FGl 2)))), (q61, .inr (3, [.ref z68, .int (nI (FGl 3))])), (z68, .inl (cs 0, 6, .inl (gcp (FGf 3) (FGl 3))))]) 3 4 10 3 rfl rfl rfl rfl (n := 4) (vp_in_nI (n := 3) (N := 4) (by decide) (by decide)) rfl dX4_init_71 ?_
  refine j_putf hc (w' := [(q, .inr (4, [.ref q5, .ref q17, .null, .null, .int 0, .int 0, .int 0, .int 0, .int 0, .int 0, .int 0, .int 0])), (q5, .inr (1, [.int 31, .ref z9])), (z9, .inl (cs 1, 485, .inr (.inl (fun _ => 0)))), (q17, .inl (cs 4, 4, .inr (.inr (.inr (.inr (va_up (va_up (va_up (va_up (fun _ => none) 0 (some q22)) 1 (some q35)) 2 (some q48)) 3 (some q61))))))), (q22, .inr (3, [.ref z29, .int (nI (FGl 0))])), (z29, .inl (cs 0, 6, .inl (gcp (FGf 0) (FGl 0)))), (q35, .inr (3, [.ref z42, .int (nI (FGl 1))])), (z42, .inl (cs 0, 6, .inl (gcp (FGf 1) (FGl 1)))), (q48, .inr (3, [.ref z55, .int (nI (FGl 2))])), (z55, .inl (cs 0, 6, .inl (gcp (FGf 2) (FGl 2)))), (q61, .inr (3, [.ref z68, .int (nI (FGl 3))])), (z68, .inl (cs 0, 6, .inl (gcp (FGf 3) (FGl 3))))]) (K := RX4) (T := TX4) (N := 12) uw4 tyX4 tyX4_ok nmX4 0 rfl rfl 1 (by decide) wt_78 rfl (Or.inr ⟨rfl, hmn, rfl⟩) (ty := (.array (.object "CollectionsEngine$Gaps"))) rfl rfl rfl (Nat.le_of_ble_eq_true rfl) rfl dX4_init_72 ?_
  refine j_aload_n hc dX4_init_75 rfl ?_
  refine j_bipush hc (v := 30) dX4_init_76 (by decide) ?_
  refine j_newqBill hc wt_61 hB (N := 30) (by decide) rfl (Nat.le_of_ble_eq_true rfl) (Nat.le_of_ble_eq_true rfl) (Nat.le_of_ble_eq_true rfl) dX4_init_78 (fun q78 => ?_)
  refine j_w (w' := [(q, .inr (4, [.ref q5, .ref q17, .null, .null, .int 0, .int 0, .int 0, .int 0, .int 0, .int 0, .int 0, .int 0])), (q5, .inr (1, [.int 31, .ref z9])), (z9, .inl (cs 1, 485, .inr (.inl (fun _ => 0)))), (q17, .inl (cs 4, 4, .inr (.inr (.inr (.inr (va_up (va_up (va_up (va_up (fun _ => none) 0 (some q22)) 1 (some q35)) 2 (some q48)) 3 (some q61))))))), (q22, .inr (3, [.ref z29, .int (nI (FGl 0))])), (z29, .inl (cs 0, 6, .inl (gcp (FGf 0) (FGl 0)))), (q35, .inr (3, [.ref z42, .int (nI (FGl 1))])), (z42, .inl (cs 0, 6, .inl (gcp (FGf 1) (FGl 1)))), (q48, .inr (3, [.ref z55, .int (nI (FGl 2))])), (z55, .inl (cs 0, 6, .inl (gcp (FGf 2) (FGl 2)))), (q61, .inr (3, [.ref z68, .int (nI (FGl 3))])), (z68, .inl (cs 0, 6, .inl (gcp (FGf 3) (FGl 3)))), (q78, .inl (cs 3, 30, .inr (.inr (.inr (.inr (fun _ => none))))))]) rfl ?_
  refine j_putf hc (w' := [(q, .inr (4, [.ref q5, .ref q17, .ref q78, .null, .int 0, .int 0, .int 0, .int 0, .int 0, .int 0, .int 0, .int 0])), (q5, .inr (1, [.int 31, .ref z9])), (z9, .inl (cs 1, 485, .inr (.inl (fun _ => 0)))), (q17, .inl (cs 4, 4, .inr (.inr (.inr (.inr (va_up (va_up (va_up (va_up (fun _ => none) 0 (some q22)) 1 (some q35)) 2 (some q48)) 3 (some q61))))))), (q22, .inr (3, [.ref z29, .int (nI (FGl 0))])), (z29, .inl (cs 0, 6, .inl (gcp (FGf 0) (FGl 0)))), (q35, .inr (3, [.ref z42, .int (nI (FGl 1))])), (z42, .inl (cs 0, 6, .inl (gcp (FGf 1) (FGl 1)))), (q48, .inr (3, [.ref z55, .int (nI (FGl 2))])), (z55, .inl (cs 0, 6, .inl (gcp (FGf 2) (FGl 2)))), (q61, .inr (3, [.ref z68, .int (nI (FGl 3))])), (z68, .inl (cs 0, 6, .inl (gcp (FGf 3) (FGl 3)))), (q78, .inl (cs 3, 30, .inr (.inr (.inr (.inr (fun _ => none))))))]) (K := RX4) (T := TX4) (N := 12) uw4 tyX4 tyX4_ok nmX4 0 rfl rfl 2 (by decide) wt_79 rfl (Or.inr ⟨rfl, hmn, rfl⟩) (ty := (.array (.object "CollectionsEngine$Bill"))) rfl rfl rfl (Nat.le_of_ble_eq_true rfl) rfl dX4_init_81 ?_
  refine j_aload_n hc dX4_init_84 rfl ?_
  refine j_new hc (K := RX2) (T := TX2) (N := 2) (ci := 2) uw2 tyX2 tyX2_ok wt_63 wt_64 wt_4 rfl (fs := [.null, .int 0]) (fun j hj => by match j, hj with | 0, _ => rfl | 1, _ => rfl | j + 2, h => exact absurd h (by omega)) (Nat.le_of_ble_eq_true rfl) (Nat.le_of_ble_eq_true rfl) dX4_init_85 (fun q85 => ?_)
  refine j_w (w' := [(q, .inr (4, [.ref q5, .ref q17, .ref q78, .null, .int 0, .int 0, .int 0, .int 0, .int 0, .int 0, .int 0, .int 0])), (q5, .inr (1, [.int 31, .ref z9])), (z9, .inl (cs 1, 485, .inr (.inl (fun _ => 0)))), (q17, .inl (cs 4, 4, .inr (.inr (.inr (.inr (va_up (va_up (va_up (va_up (fun _ => none) 0 (some q22)) 1 (some q35)) 2 (some q48)) 3 (some q61))))))), (q22, .inr (3, [.ref z29, .int (nI (FGl 0))])), (z29, .inl (cs 0, 6, .inl (gcp (FGf 0) (FGl 0)))), (q35, .inr (3, [.ref z42, .int (nI (FGl 1))])), (z42, .inl (cs 0, 6, .inl (gcp (FGf 1) (FGl 1)))), (q48, .inr (3, [.ref z55, .int (nI (FGl 2))])), (z55, .inl (cs 0, 6, .inl (gcp (FGf 2) (FGl 2)))), (q61, .inr (3, [.ref z68, .int (nI (FGl 3))])), (z68, .inl (cs 0, 6, .inl (gcp (FGf 3) (FGl 3)))), (q78, .inl (cs 3, 30, .inr (.inr (.inr (.inr (fun _ => none)))))), (q85, .inr (2, [.null, .int 0]))]) rfl ?_
  refine j_dup hc dX4_init_88 rfl ?_
  refine j_callI hc (w := [(q, .inr (4, [.ref q5, .ref q17, .ref q78, .null, .int 0, .int 0, .int 0, .int 0, .int 0, .int 0, .int 0, .int 0])), (q5, .inr (1, [.int 31, .ref z9])), (z9, .inl (cs 1, 485, .inr (.inl (fun _ => 0)))), (q17, .inl (cs 4, 4, .inr (.inr (.inr (.inr (va_up (va_up (va_up (va_up (fun _ => none) 0 (some q22)) 1 (some q35)) 2 (some q48)) 3 (some q61))))))), (q22, .inr (3, [.ref z29, .int (nI (FGl 0))])), (z29, .inl (cs 0, 6, .inl (gcp (FGf 0) (FGl 0)))), (q35, .inr (3, [.ref z42, .int (nI (FGl 1))])), (z42, .inl (cs 0, 6, .inl (gcp (FGf 1) (FGl 1)))), (q48, .inr (3, [.ref z55, .int (nI (FGl 2))])), (z55, .inl (cs 0, 6, .inl (gcp (FGf 2) (FGl 2)))), (q61, .inr (3, [.ref z68, .int (nI (FGl 3))])), (z68, .inl (cs 0, 6, .inl (gcp (FGf 3) (FGl 3)))), (q78, .inl (cs 3, 30, .inr (.inr (.inr (.inr (fun _ => none)))))), (q85, .inr (2, [.null, .int 0]))]) [(q, .inr (4, [.ref q5, .ref q17, .ref q78, .null, .int 0, .int 0, .int 0, .int 0, .int 0, .int 0, .int 0, .int 0])), (q5, .inr (1, [.int 31, .ref z9])), (z9, .inl (cs 1, 485, .inr (.inl (fun _ => 0)))), (q17, .inl (cs 4, 4, .inr (.inr (.inr (.inr (va_up (va_up (va_up (va_up (fun _ => none) 0 (some q22)) 1 (some q35)) 2 (some q48)) 3 (some q61))))))), (q22, .inr (3, [.ref z29, .int (nI (FGl 0))])), (z29, .inl (cs 0, 6, .inl (gcp (FGf 0) (FGl 0)))), (q35, .inr (3, [.ref z42, .int (nI (FGl 1))])), (z42, .inl (cs 0, 6, .inl (gcp (FGf 1) (FGl 1)))), (q48, .inr (3, [.ref z55, .int (nI (FGl 2))])), (z55, .inl (cs 0, 6, .inl (gcp (FGf 2) (FGl 2)))), (q61, .inr (3, [.ref z68, .int (nI (FGl 3))])), (z68, .inl (cs 0, 6, .inl (gcp (FGf 3) (FGl 3)))), (q78, .inl (cs 3, 30, .inr (.inr (.inr (.inr (fun _ => none))))))] (c_X2_init hl) ic_X4_46 P2n_ok trivial rfl ⟨rfl, rfl, by decide, by decide⟩ rfl rfl (Nat.le_of_ble_eq_true rfl) ⟨by decide, by decide⟩ dX4_init_89 (fun z89 => ?_)
  refine j_w (w' := [(q, .inr (4, [.ref q5, .ref q17, .ref q78, .null, .int 0, .int 0, .int 0, .int 0, .int 0, .int 0, .int 0, .int 0])), (q5, .inr (1, [.int 31, .ref z9])), (z9, .inl (cs 1, 485, .inr (.inl (fun _ => 0)))), (q17, .inl (cs 4, 4, .inr (.inr (.inr (.inr (va_up (va_up (va_up (va_up (fun _ => none) 0 (some q22)) 1 (some q35)) 2 (some q48)) 3 (some q61))))))), (q22, .inr (3, [.ref z29, .int (nI (FGl 0))])), (z29, .inl (cs 0, 6, .inl (gcp (FGf 0) (FGl 0)))), (q35, .inr (3, [.ref z42, .int (nI (FGl 1))])), (z42, .inl (cs 0, 6, .inl (gcp (FGf 1) (FGl 1)))), (q48, .inr (3, [.ref z55, .int (nI (FGl 2))])), (z55, .inl (cs 0, 6, .inl (gcp (FGf 2) (FGl 2)))), (q61, .inr (3, [.ref z68, .int (nI (FGl 3))])), (z68, .inl (cs 0, 6, .inl (gcp (FGf 3) (FGl 3)))), (q78, .inl (cs 3, 30, .inr (.inr (.inr (.inr (fun _ => none)))))), (q85, .inr (2, [.ref z89, .int 0])), (z89, .inl (cs 0, 400, .inl (fun _ => 0)))]) rfl ?_
  refine j_putf hc (w' := [(q, .inr (4, [.ref q5, .ref q17, .ref q78, .ref q85, .int 0, .int 0, .int 0, .int 0, .int 0, .int 0, .int 0, .int 0])), (q5, .inr (1, [.int 31, .ref z9])), (z9, .inl (cs 1, 485, .inr (.inl (fun _ => 0)))), (q17, .inl (cs 4, 4, .inr (.inr (.inr (.inr (va_up (va_up (va_up (va_up (fun _ => none) 0 (some q22)) 1 (some q35)) 2 (some q48)) 3 (some q61))))))), (q22, .inr (3, [.ref z29, .int (nI (FGl 0))])), (z29, .inl (cs 0, 6, .inl (gcp (FGf 0) (FGl 0)))), (q35, .inr (3, [.ref z42, .int (nI (FGl 1))])), (z42, .inl (cs 0, 6, .inl (gcp (FGf 1) (FGl 1)))), (q48, .inr (3, [.ref z55, .int (nI (FGl 2))])), (z55, .inl (cs 0, 6, .inl (gcp (FGf 2) (FGl 2)))), (q61, .inr (3, [.ref z68, .int (nI (FGl 3))])), (z68, .inl (cs 0, 6, .inl (gcp (FGf 3) (FGl 3)))), (q78, .inl (cs 3, 30, .inr (.inr (.inr (.inr (fun _ => none)))))), (q85, .inr (2, [.ref z89, .int 0])), (z89, .inl (cs 0, 400, .inl (fun _ => 0)))]) (K := RX4) (T := TX4) (N := 12) uw4 tyX4 tyX4_ok nmX4 0 rfl rfl 3 (by decide) wt_80 rfl (Or.inr ⟨rfl, hmn, rfl⟩) (ty := (.object "CollectionsEngine$EventLog")) rfl rfl rfl (Nat.le_of_ble_eq_true rfl) rfl dX4_init_92 ?_
  refine j_aload_n hc dX4_init_95 rfl ?_
  refine j_bipush hc (v := 10) dX4_init_96 (by decide) ?_
  refine j_putf hc (w' := [(q, .inr (4, [.ref q5, .ref q17, .ref q78, .ref q85, .int 0, .int 0, .int 10, .int 0, .int 0, .int 0, .int 0, .int 0])), (q5, .inr (1, [.int 31, .ref z9])), (z9, .inl (cs 1, 485, .inr (.inl (fun _ => 0)))), (q17, .inl (cs 4, 4, .inr (.inr (.inr (.inr (va_up (va_up (va_up (va_up (fun _ => none) 0 (some q22)) 1 (some q35)) 2 (some q48)) 3 (some q61))))))), (q22, .inr (3, [.ref z29, .int (nI (FGl 0))])), (z29, .inl (cs 0, 6, .inl (gcp (FGf 0) (FGl 0)))), (q35, .inr (3, [.ref z42, .int (nI (FGl 1))])), (z42, .inl (cs 0, 6, .inl (gcp (FGf 1) (FGl 1)))), (q48, .inr (3, [.ref z55, .int (nI (FGl 2))])), (z55, .inl (cs 0, 6, .inl (gcp (FGf 2) (FGl 2)))), (q61, .inr (3, [.ref z68, .int (nI (FGl 3))])), (z68, .inl (cs 0, 6, .inl (gcp (FGf 3) (FGl 3)))), (q78, .inl (cs 3, 30, .inr (.inr (.inr (.inr (fun _ => none)))))), (q85, .inr (2, [.ref z89, .int 0])), (z89, .inl (cs 0, 400, .inl (fun _ => 0)))]) (K := RX4) (T := TX4) (N := 12) uw4 tyX4 tyX4_ok nmX4 0 rfl rfl 6 (by decide) wt_83 rfl (Or.inl rfl) (ty := .int) rfl rfl rfl (Nat.le_of_ble_eq_true rfl) rfl dX4_init_98 ?_
  refine j_aload_n hc dX4_init_101 rfl ?_
  refine j_bipush hc (v := 30) dX4_init_102 (by decide) ?_
  refine j_putf hc (w' := [(q, .inr (4, [.ref q5, .ref q17, .ref q78, .ref q85, .int 0, .int 0, .int 10, .int 30, .int 0, .int 0, .int 0, .int 0])), (q5, .inr (1, [.int 31, .ref z9])), (z9, .inl (cs 1, 485, .inr (.inl (fun _ => 0)))), (q17, .inl (cs 4, 4, .inr (.inr (.inr (.inr (va_up (va_up (va_up (va_up (fun _ => none) 0 (some q22)) 1 (some q35)) 2 (some q48)) 3 (some q61))))))), (q22, .inr (3, [.ref z29, .int (nI (FGl 0))])), (z29, .inl (cs 0, 6, .inl (gcp (FGf 0) (FGl 0)))), (q35, .inr (3, [.ref z42, .int (nI (FGl 1))])), (z42, .inl (cs 0, 6, .inl (gcp (FGf 1) (FGl 1)))), (q48, .inr (3, [.ref z55, .int (nI (FGl 2))])), (z55, .inl (cs 0, 6, .inl (gcp (FGf 2) (FGl 2)))), (q61, .inr (3, [.ref z68, .int (nI (FGl 3))])), (z68, .inl (cs 0, 6, .inl (gcp (FGf 3) (FGl 3)))), (q78, .inl (cs 3, 30, .inr (.inr (.inr (.inr (fun _ => none)))))), (q85, .inr (2, [.ref z89, .int 0])), (z89, .inl (cs 0, 400, .inl (fun _ => 0)))]) (K := RX4) (T := TX4) (N := 12) uw4 tyX4 tyX4_ok nmX4 0 rfl rfl 7 (by decide) wt_84 rfl (Or.inl rfl) (ty := .int) rfl rfl rfl (Nat.le_of_ble_eq_true rfl) rfl dX4_init_104 ?_
  refine j_ivret hc (⟨fun k => match k with | 0 => q | 1 => q5 | 2 => z9 | 3 => q17 | 4 => q22 | 5 => z29 | 6 => q35 | 7 => z42 | 8 => q48 | 9 => z55 | 10 => q61 | 11 => z68 | 12 => q78 | 13 => q85 | 14 => z89 | _ => 0, rfl⟩ : (Subtype fun ad : Nat → Nat => ad 0 = q)) rfl (by decide) (by decide) ?_ dX4_init_107
  have e1 : va_up (va_up (va_up (va_up (fun _ => none) 0 (some q22)) 1 (some q35)) 2 (some q48)) 3 (some q61) = gpf (fun k => match k with | 0 => q | 1 => q5 | 2 => z9 | 3 => q17 | 4 => q22 | 5 => z29 | 6 => q35 | 7 => z42 | 8 => q48 | 9 => z55 | 10 => q61 | 11 => z68 | 12 => q78 | 13 => q85 | 14 => z89 | _ => 0) := gpf4 (fun k => match k with | 0 => q | 1 => q5 | 2 => z9 | 3 => q17 | 4 => q22 | 5 => z29 | 6 => q35 | 7 => z42 | 8 => q48 | 9 => z55 | 10 => q61 | 11 => z68 | 12 => q78 | 13 => q85 | 14 => z89 | _ => 0)
  rw [e1, brf0 (fun k => match k with | 0 => q | 1 => q5 | 2 => z9 | 3 => q17 | 4 => q22 | 5 => z29 | 6 => q35 | 7 => z42 | 8 => q48 | 9 => z55 | 10 => q61 | 11 => z68 | 12 => q78 | 13 => q85 | 14 => z89 | _ => 0)]
  rfl
end
section
def adB (ad : Nat → Nat) (n q1 q2 : Nat) : Nat → Nat := va_up (va_up ad (24 + 2 * n) q1) (25 + 2 * n) q2
def bfv (n : Nat) (x v : Int32) : Nat → Int32 := fun k => match k with | 0 => nI n | 1 => x | 3 => v | _ => 0
def e_bill0 (E : ES) (n : Nat) (x v : Int32) : ES := (E.1, fun k => if k = 40 + n then fun _ => 0 else if k ≤ 10 then upd (E.2.1 k) n (bfv n x v k) else E.2.1 k, E.2.2)
def e_bill1 (E : ES) (n : Nat) (x v : Int32) : ES :=
  let E1 := eG (e_bill0 E n x v) 4 (nI n + 1)
  eG E1 8 (E1.1 8 + v)
def e_billE (E : ES) (n : Nat) (x v : Int32) : ES := e_enter (e_bill1 E n x v) n 0 (e_fcf (e_bill1 E n x v) 1000 ((e_bill1 E n x v).1 5 + 1))
def e_billT (E : ES) (x v : Int32) : Option String := match e_acc x with
  | some t => some t
  | none => match e_rng v 1 9999 with
    | some t => some t
    | none => if E.1 4 < 0 then some xIS else if E.1 4 < 30 then none else some xIS
theorem adB_old (ad : Nat → Nat) (n q1 q2 k : Nat) (h : k < 24 + 2 * n) : adB ad n q1 q2 k = ad k := by
  unfold adB va_up
  rw [if_neg (by omega), if_neg (by omega)]
theorem adB_1 (ad : Nat → Nat) (n q1 q2 : Nat) : adB ad n q1 q2 (24 + 2 * n) = q1 := by
  unfold adB va_up
  rw [if_neg (by omega), if_pos rfl]
theorem adB_2 (ad : Nat → Nat) (n q1 q2 : Nat) : adB ad n q1 q2 (25 + 2 * n) = q2 := by
  unfold adB va_up
  rw [if_pos rfl]
theorem brf_s (ad : Nat → Nat) (n q1 q2 : Nat) : brf (adB ad n q1 q2) (n + 1) = va_up (brf ad n) n (some q1) := funext fun i => by
  unfold brf va_up
  by_cases h : i = n
  · subst h; rw [if_pos (Nat.lt_succ_self i), if_pos rfl, adB_1]
  · rw [if_neg h]
    by_cases h2 : i < n
    · simp only [if_pos h2, if_pos (show i < n + 1 by omega)]; rw [adB_old _ _ _ _ _ (by omega)]
    · simp only [if_neg h2, if_neg (show ¬ i < n + 1 by omega)]
theorem gpf_s (ad : Nat → Nat) (n q1 q2 : Nat) : gpf (adB ad n q1 q2) = gpf ad := funext fun i => by
  unfold gpf
  by_cases h : i < 4
  · rw [if_pos h, if_pos h, adB_old _ _ _ _ _ (by omega)]
  · rw [if_neg h, if_neg h]
theorem e_bill0_hi (E : ES) (n : Nat) (x v : Int32) (k : Nat) (h1 : 10 < k) (h2 : k ≠ 40 + n) : (e_bill0 E n x v).2.1 k = E.2.1 k := by
  unfold e_bill0
  simp only []
  rw [if_neg h2, if_neg (by omega)]
theorem e_bill0_lo (E : ES) (n : Nat) (x v : Int32) (k b : Nat) (h1 : k ≤ 10) (h2 : b ≠ n) : (e_bill0 E n x v).2.1 k b = E.2.1 k b := by
  unfold e_bill0
  simp only []
  rw [if_neg (by omega), if_pos h1, upd, if_neg h2]
theorem e_bill0_n (E : ES) (n : Nat) (x v : Int32) (k : Nat) (h1 : k ≤ 10) : (e_bill0 E n x v).2.1 k n = bfv n x v k := by
  unfold e_bill0
  simp only []
  rw [if_neg (by omega), if_pos h1, upd, if_pos rfl]
theorem e_bill0_f (E : ES) (n : Nat) (x v : Int32) : (e_bill0 E n x v).2.1 (40 + n) = fun _ => 0 := by
  unfold e_bill0
  simp only [if_true]
theorem fx_bill (ad : Nat → Nat) (cs : Nat → ClassId) (n : Nat) (E : ES) (S : MS) (o : Nat → Int64) (q1 q2 : Nat) (x v : Int32) : FX (adB ad n q1 q2) cs (n + 1) (e_bill0 E n x v) S o = (FX ad cs n E S o).set 12 (ad 12, .inl (cs 3, 30, .inr (.inr (.inr (.inr (va_up (brf ad n) n (some q1))))))) := by
  have e20 := e_bill0_hi E n x v 20 (by decide) (by omega)
  have e21 := e_bill0_hi E n x v 21 (by decide) (by omega)
  have e22 := e_bill0_hi E n x v 22 (by decide) (by omega)
  have e23 := e_bill0_hi E n x v 23 (by decide) (by omega)
  have e30 := e_bill0_hi E n x v 30 (by decide) (by omega)
  have eA : ∀ k, k < 24 → adB ad n q1 q2 k = ad k := fun k hk => adB_old _ _ _ _ _ (by omega)
  unfold FX
  rw [brf_s, gpf_s, e20, e21, e22, e23, e30, eA 0 (by decide), eA 1 (by decide), eA 2 (by decide), eA 3 (by decide), eA 4 (by decide), eA 5 (by decide), eA 6 (by decide), eA 7 (by decide), eA 8 (by decide), eA 9 (by decide), eA 10 (by decide), eA 11 (by decide), eA 12 (by decide), eA 13 (by decide), eA 14 (by decide), eA 15 (by decide), eA 16 (by decide), eA 17 (by decide), eA 18 (by decide), eA 19 (by decide), eA 20 (by decide), eA 21 (by decide), eA 22 (by decide), eA 23 (by decide)]
  rfl
theorem wd_billE (ad : Nat → Nat) (cs : Nat → ClassId) (n : Nat) (E : ES) (S : MS) (o : Nat → Int64) (q1 q2 : Nat) (x v : Int32) (hn : n < 30) : (WD ad cs n E S o ++ ([(q1, .inr (0, [.int (nI n), .int x, .ref q2, .int v, .int 0, .int 0, .int 0, .int 0, .int 0, .int 0, .int 0])), (q2, .inl (cs 0, 4, .inl (fun _ => 0)))] : va_W)).set 12 (ad 12, .inl (cs 3, 30, .inr (.inr (.inr (.inr (va_up (brf ad n) (nI n).toNatClampNeg (some q1))))))) = WD (adB ad n q1 q2) cs (n + 1) (e_bill0 E n x v) S o := by
  rw [nI_clamp (show n < 2 ^ 31 by omega)]
  have e1 : PL (en1 ad E) (en2 ad cs E) n = PL (en1 (adB ad n q1 q2) (e_bill0 E n x v)) (en2 (adB ad n q1 q2) cs (e_bill0 E n x v)) n := by
    refine pl_congr n fun b hb => ⟨?_, ?_⟩
    · have q : ∀ k, k ≤ 10 → (e_bill0 E n x v).2.1 k b = E.2.1 k b := fun k hk => e_bill0_lo E n x v k b hk (by omega)
      rw [en1, en1, blf, blf, adB_old ad n q1 q2 (24 + 2 * b) (by omega), adB_old ad n q1 q2 (25 + 2 * b) (by omega), q 0 (by decide), q 1 (by decide), q 3 (by decide), q 4 (by decide), q 5 (by decide), q 6 (by decide), q 7 (by decide), q 8 (by decide), q 9 (by decide), q 10 (by decide)]
    · rw [en2, en2, adB_old ad n q1 q2 (25 + 2 * b) (by omega), e_bill0_hi E n x v (40 + b) (by omega) (by omega)]
  have e2 : en1 (adB ad n q1 q2) (e_bill0 E n x v) n = (q1, .inr (0, [.int (nI n), .int x, .ref q2, .int v, .int 0, .int 0, .int 0, .int 0, .int 0, .int 0, .int 0])) := by
    have q := fun k hk => e_bill0_n E n x v k hk
    rw [en1, blf, adB_1, adB_2, q 0 (by decide), q 1 (by decide), q 3 (by decide), q 4 (by decide), q 5 (by decide), q 6 (by decide), q 7 (by decide), q 8 (by decide), q 9 (by decide), q 10 (by decide)]
    rfl
  have e3 : en2 (adB ad n q1 q2) cs (e_bill0 E n x v) n = (q2, .inl (cs 0, 4, .inl (fun _ => 0))) := by
    rw [en2, adB_2, e_bill0_f]
  unfold WD
  rw [fx_bill, PL, e2, e3, ← e1, ← List.append_assoc]
  rfl
theorem wd_pos (ad : Nat → Nat) (cs : Nat → ClassId) (n : Nat) (E : ES) (S : MS) (o : Nat → Int64) (z1 z2 : Nat × va_E) : (WD ad cs n E S o ++ [z1, z2])[24 + 2 * n]? = some z1 := by
  have hl : (WD ad cs n E S o).length = 24 + 2 * n := by
    unfold WD
    rw [List.length_append, pl_len]; rfl
  rw [List.getElem?_append_right (by omega), hl, Nat.sub_self]; rfl
section R14
variable {p : Program} {l : Launch} {e : Env} {R : Room} {s : State} {m : MethodId} {args : Array Value} {below : List Frame} {meth : Method} {c : Code} {D : va_G} {cs : Nat → ClassId} {sa : Nat → Nat} {A : Nat → Prop} {cc : ByteArray} {nL : Nat} {own : String} {ret : Option FieldType} {cells slots : Nat} {Q : State → Prop} {w : va_W} {pc : Nat} {lv : List (Nat × Value)} {st : List Value}
theorem j_throwY (hc : CX p l e R s m args below meth c D cs sa A cc nL RX4 ret) {mc0 ms0 : Nat} {w0 : va_W} {X : Type} {t0 : Option String} {r : X → Option Value × va_W} (ho : ∀ x ∈ c.exceptionTable.toList, False) {cls tx : String} {ik is ic : Nat} (hfit : Bundle.fit cls = true) (hs : (is, tx) ∈ strs) (hk : Cond.classLink RX4 ik cls ∈ WT) (hini : Cond.initialized cls ∈ WT)
    (hg : ∀ w ∈ (vx_atS RX4 ic cls exN).filter goodWord, w ∈ WT) (hb : ∀ w ∈ (vx_atS RX4 ic cls exN).filter (fun w => !goodWord w), w ∈ exB) (hot : ∀ w ∈ Cond.classLink RX4 ik cls :: Cond.initialized cls :: vx_atS RX4 ic cls exN, vx_ot w = true)
    (d0 : decode cc pc = .ok (.new ik, 3)) (d3 : decode cc (pc + 3) = .ok (.dup, 1)) (d4 : decode cc (pc + 4) = .ok (.ldc is, 2)) (d6 : decode cc (pc + 6) = .ok (.invokespecial ic, 3)) (d9 : decode cc (pc + 9) = .ok (.athrow, 1))
    (hf : 5 < R.frames) (hlo : (st.map fun v => v.category).sum + 82 ≤ R.locals) (hrc : cells + 1 ≤ R.cells) (hrs : slots + 6 ≤ R.slots) (h1 : cells + 1 ≤ mc0) (h2 : slots + 6 ≤ ms0) (hr : t0 = some cls ∧ w = w0) : J p l e R s m args below meth c D A nL cells slots (QY below args s D A mc0 ms0 w0 t0 r) w pc lv st := fun H locs ls hP hD hS hl => by
  obtain ⟨hr, rfl⟩ := hr
  obtain ⟨z1, z2, z3, z4, z5, z6⟩ := hc.2.2.2.2.2.1
  have hB : ∀ w ∈ exB, w.before args s = true := fun w hw => by
    rcases List.mem_append.mp hw with h | h
    · obtain ⟨x, hx, rfl⟩ := List.mem_map.mp h
      exact va_Nw.use rfl (z3 x hx)
    · obtain ⟨x, hx, rfl⟩ := List.mem_map.mp h
      exact va_Nw.use rfl (z4 x hx)
  refine vx_throwS (names := exN) hc.1.1 hc.1.2.1 hc.2.2.2.2.2.2 hc.1.2.2.2.1 hfit (by decide) (hc.1.2.2.2.2 _ hk) (hc.1.2.2.2.2 _ hini) (z5 _ hs) (vx_hat (fun w h => hc.1.2.2.2.2 _ (hg w h)) hb hB) hot z1 z2 hS (hl.1.trans hc.1.2.2.1.symm) d0 d3 d4 d6 d9 (fun x hx => (ho x hx).elim) hf hlo hrc hrs hc.2.2.1 (fun t ht hz hk2 => ?_) hS.2.2 h1 h2
  have hP2 : va_P D vwCl w t.heap := hP.kept fun k q hq => hk2 _ (vx_lt hP hq)
  exact ⟨⟨hr, hP2, hD⟩, Nat.le_trans hS.1 hz, fun q h1 h2 => (hk2 q (Nat.lt_of_lt_of_le h1 hS.1)).trans (hS.2.1 q h1 h2)⟩
end R14
set_option maxRecDepth 100000 in
set_option maxHeartbeats 4000000 in
theorem c_X4_bill {l : Launch} {D : va_G} {cs : Nat → ClassId} {sa : Nat → Nat} (hl : l.stackTraces = false)  {ad : Nat → Nat} {n : Nat} {E : ES} {S : MS} {o : Nat → Int64} {x v : Int32} (hE : E.1 4 = nI n) (hn30 : n ≤ 30) : EX l D cs sa yX4_bill cX4_bill 5 (Option.some Jvm.ClassFile.FieldType.int) (RM 7 8 64) 8 64 [.ref (ad 0), .int x, .int v] (WD ad cs n E S o) (e_billT E x v) (fun t : Nat × Nat => (some (.int (nI n)), WD (adB ad n t.1 t.2) cs (n + 1) (e_billE E n x v) S o)) := by
  refine EX.of RX4 hl (by decide +kernel) rfl (Nat.le_of_ble_eq_true rfl) ?_
  intro p e s m args below meth c A hc ho
  refine j_iload_n hc dX4_bill_0 rfl ?_
  refine j_callS' hc (c_X4_checkAccount hl) sc_X4_109 rfl ⟨rfl, rfl, by decide, by decide⟩ rfl (Nat.le_of_ble_eq_true rfl) ⟨by decide, by decide⟩ dX4_bill_1 (fun E9 h9 => jx_outY ho hc.2.2.1 (by decide) (by decide) ⟨by simp only [e_billT, show e_acc x = some E9 from h9], rfl⟩) (fun h1 => ?_)
  have h1 : e_acc x = none := h1
  refine j_iload_n hc dX4_bill_4 rfl ?_
  refine j_iconst hc (v := 1) dX4_bill_5 (by decide) ?_
  refine j_sipush hc (v := 9999) dX4_bill_6 (by decide) ?_
  refine j_callS' hc (c_X4_checkRange hl) sc_X4_86 rfl ⟨rfl, rfl, by decide, by decide⟩ rfl (Nat.le_of_ble_eq_true rfl) ⟨by decide, by decide⟩ dX4_bill_9 (fun E9 h9 => jx_outY ho hc.2.2.1 (by decide) (by decide) ⟨by simp only [e_billT, h1, show e_rng v 1 9999 = some E9 from h9], rfl⟩) (fun h2 => ?_)
  have h2 : e_rng v 1 9999 = none := h2
  refine j_aload_n hc dX4_bill_12 rfl ?_
  refine gf_X4_112 hc dX4_bill_13 ?_
  refine j_istore_n hc dX4_bill_16 rfl ?_
  refine j_iload_n hc dX4_bill_17 rfl ?_
  refine j_if_lt hc 30 dX4_bill_18 (by decide) (fun h3 => ?_) (fun h3 => ?_)
  · exact j_throwY hc ho (by decide) (is := 115) (tx := "there are as many bills as there can be") (by decide) wt_232 wt_11 xg_73 xb_73 xo_73 dX4_bill_30 dX4_bill_33 dX4_bill_34 dX4_bill_36 dX4_bill_39 (by decide) (Nat.le_of_ble_eq_true rfl) (by decide) (by decide) (by decide) (by decide) ⟨by simp only [e_billT, h1, h2, if_pos h3] <;> rfl, rfl⟩
  refine j_iload_n hc dX4_bill_21 rfl ?_
  refine j_aload_n hc dX4_bill_22 rfl ?_
  refine gf_X4_40 hc dX4_bill_23 ?_
  refine ln_row hc dX4_bill_26 ?_
  refine j_icmp_lt hc 40 dX4_bill_27 (by decide) (fun h4 => ?_) (fun h4 => ?_)
  rotate_left
  · exact j_throwY hc ho (by decide) (is := 115) (tx := "there are as many bills as there can be") (by decide) wt_232 wt_11 xg_73 xb_73 xo_73 dX4_bill_30 dX4_bill_33 dX4_bill_34 dX4_bill_36 dX4_bill_39 (by decide) (Nat.le_of_ble_eq_true rfl) (by decide) (by decide) (by decide) (by decide) ⟨by simp only [e_billT, h1, h2, if_neg h3, if_neg h4] <;> rfl, rfl⟩
  have hn : n < 30 := by
    by_cases z : n < 30
    · exact z
    · rw [hE] at h4
      have h5 : (30 : Int32) ≤ nI n := nI_le (a := 30) (by omega) (by omega)
      simp only [i32_lt, i32_le] at h4 h5
      omega
  have ht0 : e_billT E x v = none := by simp only [e_billT, h1, h2, if_neg h3, if_pos h4]
  refine j_new hc (K := RX0) (T := TX0) (N := 11) (ci := 0) uw0 tyX0 tyX0_ok wt_61 wt_248 wt_12 rfl (fs := [.int 0, .int 0, .null, .int 0, .int 0, .int 0, .int 0, .int 0, .int 0, .int 0, .int 0]) (fun j hj => by match j, hj with | 0, _ => rfl | 1, _ => rfl | 2, _ => rfl | 3, _ => rfl | 4, _ => rfl | 5, _ => rfl | 6, _ => rfl | 7, _ => rfl | 8, _ => rfl | 9, _ => rfl | 10, _ => rfl | j + 11, h => exact absurd h (by omega)) (Nat.le_of_ble_eq_true rfl) (Nat.le_of_ble_eq_true rfl) dX4_bill_40 (fun q => ?_)
  refine j_dup hc dX4_bill_43 rfl ?_
  refine j_iload_n hc dX4_bill_44 rfl ?_
  refine j_iload_n hc dX4_bill_45 rfl ?_
  refine j_iload_n hc dX4_bill_46 rfl ?_
  refine j_callI hc (WD ad cs n E S o) (c_X0_init hl) ic_X4_117 P2n_ok trivial rfl ⟨rfl, rfl, by decide, by decide⟩ rfl rfl (Nat.le_of_ble_eq_true rfl) ⟨by decide, by decide⟩ dX4_bill_47 (fun z => ?_)
  refine j_astore hc dX4_bill_50 rfl ?_
  refine j_aload_n hc dX4_bill_52 rfl ?_
  refine j_getf hc (K := RX4) (T := TX4) (N := 12) uw4 0 rfl rfl 2 (by decide) wt_79 rfl rfl dX4_bill_53 ?_
  refine j_iload_n hc dX4_bill_56 rfl ?_
  refine j_aload hc dX4_bill_57 rfl ?_
  rw [hE]
  refine j_aastore hc (w' := WD (adB ad n q z) cs (n + 1) (e_bill0 E n x v) S o) 12 3 (24 + 2 * n) 0 rfl rfl (wd_pos ad cs n E S o _ _) rfl (n := 30) (vp_in_nI hn (by decide)) (wd_billE ad cs n E S o q z x v hn) dX4_bill_59 ?_
  have a0 : ad 0 = adB ad n q z 0 := (adB_old _ _ _ _ _ (by omega)).symm
  have aq : q = adB ad n q z (24 + 2 * n) := (adB_1 _ _ _ _).symm
  refine j_lv [(0, .ref (ad 0)), (2, .int v), (3, .int (nI n)), (4, .ref q)] ⟨rfl, rfl, rfl, rfl, trivial⟩ ?_
  have key : ∀ ad2 : Nat → Nat, ad2 0 = ad 0 → ad2 (24 + 2 * n) = q → ad2 = adB ad n q z → J p l e (RM 7 8 64) s m args below meth c D A 5 4 27 (QY below args s D A 8 64 (WD ad cs n E S o) (e_billT E x v) fun t : Nat × Nat => (some (.int (nI n)), WD (adB ad n t.1 t.2) cs (n + 1) (e_billE E n x v) S o)) (WD ad2 cs (n + 1) (e_bill0 E n x v) S o) 60 [(0, .ref (ad2 0)), (2, .int v), (3, .int (nI n)), (4, .ref (ad2 (24 + 2 * n)))] [] := by
    intro ad2 k0 k1 k2
    have hb : n < n + 1 := Nat.lt_succ_self n
    refine j_aload_n hc dX4_bill_60 rfl ?_
    refine j_iload_n hc dX4_bill_61 rfl ?_
    refine j_iconst hc (v := 1) dX4_bill_62 (by decide) ?_
    refine j_iadd hc dX4_bill_63 ?_
    refine pf_X4_112 hc dX4_bill_64 ?_
    refine j_aload_n hc dX4_bill_67 rfl ?_
    refine j_dup hc dX4_bill_68 rfl ?_
    refine gf_X4_119 hc dX4_bill_69 ?_
    refine j_iload_n hc dX4_bill_72 rfl ?_
    refine j_iadd hc dX4_bill_73 ?_
    refine pf_X4_119 hc dX4_bill_74 ?_
    refine j_aload_n hc dX4_bill_77 rfl ?_
    refine j_aload hc dX4_bill_78 rfl ?_
    refine j_iconst hc (v := 0) dX4_bill_80 (by decide) ?_
    refine j_aload_n hc dX4_bill_81 rfl ?_
    refine gf_X4_10 hc dX4_bill_82 ?_
    refine j_aload_n hc dX4_bill_85 rfl ?_
    refine gf_X4_83 hc dX4_bill_86 ?_
    refine j_iconst hc (v := 1) dX4_bill_89 (by decide) ?_
    refine j_iadd hc dX4_bill_90 ?_
    refine j_callV' hc (c_X1_firstChargingFrom hl) vc_X4_122 rfl ⟨rfl, rfl, by decide, by decide⟩ 1 rfl rfl rfl (Nat.le_of_ble_eq_true rfl) ⟨by decide, by decide⟩ dX4_bill_91 (fun E9 h9 => by cases h9) (fun _ => ?_)
    refine j_callV' hc (c_X4_enter hl hb) vc_X4_125 rfl ⟨rfl, rfl, by decide, by decide⟩ 0 rfl rfl rfl (Nat.le_of_ble_eq_true rfl) ⟨by decide, by decide⟩ dX4_bill_94 (fun E9 h9 => by cases h9) (fun _ => ?_)
    refine j_iload_n hc dX4_bill_97 rfl ?_
    exact j_xiret hc ((q, z) : Nat × Nat) rfl (by decide) (by decide) ht0 (by rw [k2]; rfl) dX4_bill_98
  have k := key (adB ad n q z) a0.symm aq.symm rfl
  rw [← a0, ← aq] at k
  exact k
end
section
section R15
variable {p : Program} {l : Launch} {e : Env} {R : Room} {s : State} {m : MethodId} {args : Array Value} {below : List Frame} {meth : Method} {c : Code} {D : va_G} {cs : Nat → ClassId} {sa : Nat → Nat} {A : Nat → Prop} {cc : ByteArray} {nL : Nat} {own : String} {ret : Option FieldType} {cells slots : Nat} {Q : State → Prop} {w : va_W} {pc : Nat} {lv : List (Nat × Value)} {st : List Value}
theorem j_catch (hc : CX p l e R s m args below meth c D cs sa A cc nL own ret) {E : String} (pre : List ExceptionTableEntry) (x : ExceptionTableEntry) (suf : List ExceptionTableEntry) (hsplit : c.exceptionTable.toList = pre ++ x :: suf) (hpass : ∀ z ∈ pre, z.catchType ≠ 0 ∧ ∃ nm : String, Cond.classLink own z.catchType nm ∈ WT ∧ (E, nm) ∈ ncs) (hx : covers x pc = true) (h0 : x.catchType ≠ 0) (hlink : Cond.classLink own x.catchType E ∈ WT) (hC : E ∈ nwC) {rest : List Value} {h : Nat} (hh : x.handlerPc = h) (kk : ∀ q : Nat, J p l e R s m args below meth c D A nL cells slots Q w h lv [.ref q]) : JX p l e R s m args below meth c D A nL cells slots Q w pc lv rest E := fun H locs ls ce q hP hD hS hl hq hv hcl => by
  subst hh
  obtain ⟨z1, z2, z3, z4, z5, z6⟩ := hc.2.2.2.2.2.1
  exact vx_catch hc.1.2.2.2.1 pre x suf hsplit (fun z hz => Or.inr ⟨(hpass z hz).1, (hpass z hz).2.elim fun nm h => ⟨nm, hc.1.2.2.2.2 _ h.1, z6 _ h.2⟩⟩) hx h0 (hc.1.2.2.2.2 _ hlink) (va_Nw.use rfl (z4 _ hC)) hq hv hcl (kk q H locs ls hP hD hS hl)
def SH (own : String) (index : Nat) (y : MethodName) (cc : ByteArray) (maxL : Nat) (ret : Option FieldType) (hh : List (Nat × Nat × Nat × Nat)) (n : Nat) : Prop := Cond.methodLink own index y ∈ WT ∧ Cond.static y ∈ WT ∧ Cond.initialized y.cls ∈ WT ∧ Cond.codeWith y cc maxL ret hh ∈ WT ∧ y.cls ≠ "java/lang/invoke/MethodHandle" ∧ y.cls ≠ "java/lang/invoke/VarHandle" ∧ (parseMethodDescriptor y.desc).map (fun d => d.parameters.length) = some n
theorem j_callSH (hc : CX p l e R s m args below meth c D cs sa A cc nL own ret) {y : MethodName} {cc2 : ByteArray} {maxL : Nat} {ret2 : Option FieldType} {hh : List (Nat × Nat × Nat × Nat)} {rm : Room} {mc ms n index : Nat} {As : List Value} {r : Option Value × va_W} (hM : CH l D cs sa y cc2 maxL ret2 hh rm mc ms As w (none, r.1, r.2)) (hv : SH own index y cc2 maxL ret2 hh n) (hn : As.length = n) (hrm : rm.cells = mc ∧ rm.slots = ms ∧ rm.frames + 1 ≤ R.frames ∧ 8 + (maxL + 11) + rm.locals ≤ R.locals) {st0 : List Value} (hst : st0 = As.reverse ++ st) (hroom : (st.map fun v => v.category).sum ≤ 8) (hf : cells + mc ≤ R.cells ∧ slots + ms ≤ R.slots) (hdg : decode cc pc = .ok (.invokestatic index, 3)) (kk : J p l e R s m args below meth c D A nL (cells + mc) (slots + ms) Q r.2 (pc + 3) lv (r.1.toList ++ st)) : J p l e R s m args below meth c D A nL cells slots Q w pc lv st0 := fun H locs ls hP hD hS hl => by
  obtain ⟨v1, v2, v4, v5, v7, v8, v9⟩ := hv
  have hF : ∀ q, va_A w H.size q → A q := fun q h => h.elim (fun ⟨k, e, h⟩ => hD.2 k _ h) (fun h => hc.2.2.2.2.1 q (Nat.le_trans hS.1 h))
  have hr := vx_runSX (As := As) (rest := st) (Ts := WT) (locs := locs) (cells := cells) (slots := slots) (g := F0 m pc ls st0) (p := p) (e := e) (below := below) (meth := meth) (args := args) (R := R) hc.1 (hM H.size) (hh := hh) (bytes := cc2) (maxL := maxL) (ret := ret2) (own := own) (index := index) ⟨⟨hrm.1, hrm.2.1, hrm.2.2.1, hrm.2.2.2, pay_in hc.1.2.2.2.2 (wt_gi (ws := .codeWith y cc2 maxL ret2 hh :: WT) (fun w h => (List.mem_cons.mp h).elim (fun h => h ▸ v5) id)), List.mem_cons_self⟩, hc.1.2.2.2.2 _ v5, hc.1.2.2.2.2 _ v4, ⟨v7, v8⟩, fun sig h => by rw [h] at v9; exact (Option.some.inj v9).symm, hc.1.2.2.2.2 _ v1, hc.1.2.2.2.2 _ v2⟩ (j_pre hc (av := As) hP hD hS) rfl hn hl.1 hst (lv_room hroom) hdg hf
  intro T hT X9
  rcases hr T hT X9 with ⟨v, st₀, t, T', L, h0, X', hL, e1, e2, ⟨⟨-, hv, hP1, hD1⟩, hF1⟩, st9⟩ | ⟨q, st₀, t, T', L, E, ce, h0, X', hL, e1, e2, ⟨⟨hE, hP1, hD1⟩, hF1⟩, hce, hcv, hcl, st9⟩
  · cases hv
    obtain ⟨k1, k2, k3⟩ := vx_keep h0 e1 hS (fun q _ h => hF q h) hF hL hF1
    rw [← e1] at hP1
    obtain ⟨t2, a1, b1⟩ := kk T'.heap (locs ++ L) ls hP1 (hD1.weaken fun _ q _ h => hF _ h) k3 hl T' rfl X'
    exact ⟨t2, st9 t2 a1, b1⟩
  · cases hE
theorem j_callXS (hc : CX p l e R s m args below meth c D cs sa A cc nL own ret) {y : MethodName} {cc2 : ByteArray} {maxL : Nat} {ret2 : Option FieldType} {rm : Room} {mc ms n index : Nat} {As : List Value} {X : Type} {r : X → Option Value × va_W} (hM : EX l D cs sa y cc2 maxL ret2 rm mc ms As w none r) (hv : SC own index y cc2 maxL ret2 n) (hn : As.length = n) (hrm : rm.cells = mc ∧ rm.slots = ms ∧ rm.frames + 1 ≤ R.frames ∧ 8 + (maxL + 11) + rm.locals ≤ R.locals) {st0 : List Value} (hst : st0 = As.reverse ++ st) (hroom : (st.map fun v => v.category).sum ≤ 8) (hf : cells + mc ≤ R.cells ∧ slots + ms ≤ R.slots) (hdg : decode cc pc = .ok (.invokestatic index, 3)) (kk : ∀ x, J p l e R s m args below meth c D A nL (cells + mc) (slots + ms) Q (r x).2 (pc + 3) lv ((r x).1.toList ++ st)) : J p l e R s m args below meth c D A nL cells slots Q w pc lv st0 := fun H locs ls hP hD hS hl => by
  obtain ⟨v1, v2, v4, v5, v7, v8, v9⟩ := hv
  have hF : ∀ q, va_A w H.size q → A q := fun q h => h.elim (fun ⟨k, e, h⟩ => hD.2 k _ h) (fun h => hc.2.2.2.2.1 q (Nat.le_trans hS.1 h))
  have hr := vx_runS (As := As) (rest := st) (Ts := WT) (locs := locs) (cells := cells) (slots := slots) (g := F0 m pc ls st0) (p := p) (e := e) (below := below) (meth := meth) (args := args) (R := R) hc.1 (hM H.size) ⟨callB_of n hc.1.2.2.2.2 (wt_gi (ws := .code y cc2 maxL ret2 :: WT) (fun w h => (List.mem_cons.mp h).elim (fun h => h ▸ v5) id)) rfl hrm.1 hrm.2.1 (hc.1.2.2.2.2 _ v4) (hc.1.2.2.2.2 _ v1) ⟨v7, v8, v9⟩ hrm.2.2, hc.1.2.2.2.2 _ v2⟩ (j_pre hc (av := As) hP hD hS) rfl hn hl.1 hst (lv_room hroom) hdg hf
  intro T hT X9
  rcases hr T hT X9 with ⟨v, st₀, t, T', L, h0, X', hL, e1, e2, ⟨⟨hn, x, hv, hP1, hD1⟩, hF1⟩, st9⟩ | ⟨q, st₀, t, T', L, E, ce, h0, X', hL, e1, e2, ⟨⟨hE, hP1, hD1⟩, hF1⟩, hce, hcv, hcl, st9⟩
  · cases hv
    obtain ⟨k1, k2, k3⟩ := vx_keep h0 e1 hS (fun q _ h => hF q h) hF hL hF1
    rw [← e1] at hP1
    obtain ⟨t2, a1, b1⟩ := kk x T'.heap (locs ++ L) ls hP1 (hD1.weaken fun _ q _ h => hF _ h) k3 hl T' rfl X'
    exact ⟨t2, st9 t2 a1, b1⟩
  · cases hE
theorem j_xvret (hc : CX p l e R s m args below meth c D cs sa A cc nL own ret) {mc ms : Nat} {w0 : va_W} {X : Type} {t0 : Option String} {r : X → Option Value × va_W} (x : X) (hret : ret = none) (h1 : cells ≤ mc) (h2 : slots ≤ ms) (ht0 : t0 = none) (hr : r x = (none, w)) (hdg : decode cc pc = .ok (.return_, 1)) : J p l e R s m args below meth c D A nL cells slots (QY below args s D A mc ms w0 t0 r) w pc lv [] := fun H locs ls hP hD hS hlv =>
  vx_ret (W.widen h1 h2 (W.vret hc.1.1 hc.1.2.1 (hc.2.1.trans hret) (fun t ht _ => ⟨⟨ht0, x, by rw [hr], by rw [PO, ht, hr]; exact ⟨hP, hD⟩⟩, hS.F ht⟩) hS.2.2 hdg hc.2.2.1))
theorem j_iaddE (hc : CX p l e R s m args below meth c D cs sa A cc nL own ret) {x y z : Int32} (hz : x + y = z) (hdg : decode cc pc = .ok (.iadd, 1)) (k : J p l e R s m args below meth c D A nL cells slots Q w (pc + 1) lv (.int z :: st)) : J p l e R s m args below meth c D A nL cells slots Q w pc lv (.int y :: .int x :: st) := by
  subst hz
  exact j_iadd hc hdg k
theorem j_isubE (hc : CX p l e R s m args below meth c D cs sa A cc nL own ret) {x y z : Int32} (hz : x - y = z) (hdg : decode cc pc = .ok (.isub, 1)) (k : J p l e R s m args below meth c D A nL cells slots Q w (pc + 1) lv (.int z :: st)) : J p l e R s m args below meth c D A nL cells slots Q w pc lv (.int y :: .int x :: st) := by
  subst hz
  exact j_isub hc hdg k
theorem j_imulE (hc : CX p l e R s m args below meth c D cs sa A cc nL own ret) {x y z : Int32} (hz : x * y = z) (hdg : decode cc pc = .ok (.imul, 1)) (k : J p l e R s m args below meth c D A nL cells slots Q w (pc + 1) lv (.int z :: st)) : J p l e R s m args below meth c D A nL cells slots Q w pc lv (.int y :: .int x :: st) := by
  subst hz
  exact j_imul hc hdg k
theorem j_iandE (hc : CX p l e R s m args below meth c D cs sa A cc nL own ret) {x y z : Int32} (hz : x &&& y = z) (hdg : decode cc pc = .ok (.iand, 1)) (k : J p l e R s m args below meth c D A nL cells slots Q w (pc + 1) lv (.int z :: st)) : J p l e R s m args below meth c D A nL cells slots Q w pc lv (.int y :: .int x :: st) := by
  subst hz
  exact j_iand hc hdg k
theorem j_iorE (hc : CX p l e R s m args below meth c D cs sa A cc nL own ret) {x y z : Int32} (hz : x ||| y = z) (hdg : decode cc pc = .ok (.ior, 1)) (k : J p l e R s m args below meth c D A nL cells slots Q w (pc + 1) lv (.int z :: st)) : J p l e R s m args below meth c D A nL cells slots Q w pc lv (.int y :: .int x :: st) := by
  subst hz
  exact j_ior hc hdg k
theorem j_ixorE (hc : CX p l e R s m args below meth c D cs sa A cc nL own ret) {x y z : Int32} (hz : x ^^^ y = z) (hdg : decode cc pc = .ok (.ixor, 1)) (k : J p l e R s m args below meth c D A nL cells slots Q w (pc + 1) lv (.int z :: st)) : J p l e R s m args below meth c D A nL cells slots Q w pc lv (.int y :: .int x :: st) := by
  subst hz
  exact j_ixor hc hdg k
theorem j_ishlE (hc : CX p l e R s m args below meth c D cs sa A cc nL own ret) {x y z : Int32} (hz : x <<< (y &&& 31) = z) (hdg : decode cc pc = .ok (.ishl, 1)) (k : J p l e R s m args below meth c D A nL cells slots Q w (pc + 1) lv (.int z :: st)) : J p l e R s m args below meth c D A nL cells slots Q w pc lv (.int y :: .int x :: st) := by
  subst hz
  exact j_ishl hc hdg k
theorem j_ishrE (hc : CX p l e R s m args below meth c D cs sa A cc nL own ret) {x y z : Int32} (hz : x >>> (y &&& 31) = z) (hdg : decode cc pc = .ok (.ishr, 1)) (k : J p l e R s m args below meth c D A nL cells slots Q w (pc + 1) lv (.int z :: st)) : J p l e R s m args below meth c D A nL cells slots Q w pc lv (.int y :: .int x :: st) := by
  subst hz
  exact j_ishr hc hdg k
theorem j_idivE (hc : CX p l e R s m args below meth c D cs sa A cc nL own ret) {x y z : Int32} (h0 : ¬ y = 0) (hz : x / y = z) (hdg : decode cc pc = .ok (.idiv, 1)) (k : J p l e R s m args below meth c D A nL cells slots Q w (pc + 1) lv (.int z :: st)) : J p l e R s m args below meth c D A nL cells slots Q w pc lv (.int y :: .int x :: st) := by
  subst hz
  exact j_idiv hc hdg h0 k
theorem j_iremE (hc : CX p l e R s m args below meth c D cs sa A cc nL own ret) {x y z : Int32} (h0 : ¬ y = 0) (hz : x - x / y * y = z) (hdg : decode cc pc = .ok (.irem, 1)) (k : J p l e R s m args below meth c D A nL cells slots Q w (pc + 1) lv (.int z :: st)) : J p l e R s m args below meth c D A nL cells slots Q w pc lv (.int y :: .int x :: st) := by
  subst hz
  exact j_irem hc hdg h0 k
theorem j_incE (hc : CX p l e R s m args below meth c D cs sa A cc nL own ret) {i : Nat} {n : Int} {x v : Int32} (hdg : decode cc pc = .ok (.iinc i n, 3)) (hg : lgt lv i = some (.int x)) (hv : x + Int32.ofInt n = v) (hn : Nat.blt i nL = true) (k : J p l e R s m args below meth c D A nL cells slots Q w (pc + 3) (lst lv i (.int v)) st) : J p l e R s m args below meth c D A nL cells slots Q w pc lv st := j_iinc hc hdg hg hv hn k
variable {ad : Nat → Nat} {n : Nat} {E : ES} {S : MS} {o : Nat → Int64}
theorem xl_0 (hc : CX p l e R s m args below meth c D cs sa A cc nL own ret) {i : Nat} (hi : i < 9) {v : Int32} (hv : S 0 i = v) (hdg : decode cc pc = .ok (.iaload, 1)) (kk : J p l e R s m args below meth c D A nL cells slots Q (WD ad cs n E S o) (pc + 1) lv (.int v :: st)) : J p l e R s m args below meth c D A nL cells slots Q (WD ad cs n E S o) pc lv (.int (nI i) :: .ref (ad 15) :: st) := al_ln hc (vp_in_nI hi (by decide)) hdg (by rw [nI_clamp (by omega), hv]; exact kk)
theorem xs_0 (hc : CX p l e R s m args below meth c D cs sa A cc nL own ret) {i : Nat} (hi : i < 9) {x : Int32} (hdg : decode cc pc = .ok (.iastore, 1)) (kk : J p l e R s m args below meth c D A nL cells slots Q (WD ad cs n E (mA S 0 i x) o) (pc + 1) lv st) : J p l e R s m args below meth c D A nL cells slots Q (WD ad cs n E S o) pc lv (.int x :: .int (nI i) :: .ref (ad 15) :: st) := as_ln hc (vp_in_nI hi (by decide)) hdg (by rw [nI_clamp (by omega)]; exact kk)
theorem xl_1 (hc : CX p l e R s m args below meth c D cs sa A cc nL own ret) {i : Nat} (hi : i < 64) {v : Int32} (hv : S 1 i = v) (hdg : decode cc pc = .ok (.iaload, 1)) (kk : J p l e R s m args below meth c D A nL cells slots Q (WD ad cs n E S o) (pc + 1) lv (.int v :: st)) : J p l e R s m args below meth c D A nL cells slots Q (WD ad cs n E S o) pc lv (.int (nI i) :: .ref (ad 16) :: st) := al_lw hc (vp_in_nI hi (by decide)) hdg (by rw [nI_clamp (by omega), hv]; exact kk)
theorem xs_1 (hc : CX p l e R s m args below meth c D cs sa A cc nL own ret) {i : Nat} (hi : i < 64) {x : Int32} (hdg : decode cc pc = .ok (.iastore, 1)) (kk : J p l e R s m args below meth c D A nL cells slots Q (WD ad cs n E (mA S 1 i x) o) (pc + 1) lv st) : J p l e R s m args below meth c D A nL cells slots Q (WD ad cs n E S o) pc lv (.int x :: .int (nI i) :: .ref (ad 16) :: st) := as_lw hc (vp_in_nI hi (by decide)) hdg (by rw [nI_clamp (by omega)]; exact kk)
theorem xl_2 (hc : CX p l e R s m args below meth c D cs sa A cc nL own ret) {i : Nat} (hi : i < 30) {v : Int32} (hv : S 2 i = v) (hdg : decode cc pc = .ok (.iaload, 1)) (kk : J p l e R s m args below meth c D A nL cells slots Q (WD ad cs n E S o) (pc + 1) lv (.int v :: st)) : J p l e R s m args below meth c D A nL cells slots Q (WD ad cs n E S o) pc lv (.int (nI i) :: .ref (ad 17) :: st) := al_lg hc (vp_in_nI hi (by decide)) hdg (by rw [nI_clamp (by omega), hv]; exact kk)
theorem xs_2 (hc : CX p l e R s m args below meth c D cs sa A cc nL own ret) {i : Nat} (hi : i < 30) {x : Int32} (hdg : decode cc pc = .ok (.iastore, 1)) (kk : J p l e R s m args below meth c D A nL cells slots Q (WD ad cs n E (mA S 2 i x) o) (pc + 1) lv st) : J p l e R s m args below meth c D A nL cells slots Q (WD ad cs n E S o) pc lv (.int x :: .int (nI i) :: .ref (ad 17) :: st) := as_lg hc (vp_in_nI hi (by decide)) hdg (by rw [nI_clamp (by omega)]; exact kk)
theorem xl_3 (hc : CX p l e R s m args below meth c D cs sa A cc nL own ret) {i : Nat} (hi : i < 5) {v : Int32} (hv : S 3 i = v) (hdg : decode cc pc = .ok (.iaload, 1)) (kk : J p l e R s m args below meth c D A nL cells slots Q (WD ad cs n E S o) (pc + 1) lv (.int v :: st)) : J p l e R s m args below meth c D A nL cells slots Q (WD ad cs n E S o) pc lv (.int (nI i) :: .ref (ad 18) :: st) := al_lq hc (vp_in_nI hi (by decide)) hdg (by rw [nI_clamp (by omega), hv]; exact kk)
theorem xs_3 (hc : CX p l e R s m args below meth c D cs sa A cc nL own ret) {i : Nat} (hi : i < 5) {x : Int32} (hdg : decode cc pc = .ok (.iastore, 1)) (kk : J p l e R s m args below meth c D A nL cells slots Q (WD ad cs n E (mA S 3 i x) o) (pc + 1) lv st) : J p l e R s m args below meth c D A nL cells slots Q (WD ad cs n E S o) pc lv (.int x :: .int (nI i) :: .ref (ad 18) :: st) := as_lq hc (vp_in_nI hi (by decide)) hdg (by rw [nI_clamp (by omega)]; exact kk)
theorem xl_4 (hc : CX p l e R s m args below meth c D cs sa A cc nL own ret) {i : Nat} (hi : i < 36) {v : Int32} (hv : S 4 i = v) (hdg : decode cc pc = .ok (.iaload, 1)) (kk : J p l e R s m args below meth c D A nL cells slots Q (WD ad cs n E S o) (pc + 1) lv (.int v :: st)) : J p l e R s m args below meth c D A nL cells slots Q (WD ad cs n E S o) pc lv (.int (nI i) :: .ref (ad 19) :: st) := al_lb hc (vp_in_nI hi (by decide)) hdg (by rw [nI_clamp (by omega), hv]; exact kk)
theorem xs_4 (hc : CX p l e R s m args below meth c D cs sa A cc nL own ret) {i : Nat} (hi : i < 36) {x : Int32} (hdg : decode cc pc = .ok (.iastore, 1)) (kk : J p l e R s m args below meth c D A nL cells slots Q (WD ad cs n E (mA S 4 i x) o) (pc + 1) lv st) : J p l e R s m args below meth c D A nL cells slots Q (WD ad cs n E S o) pc lv (.int x :: .int (nI i) :: .ref (ad 19) :: st) := as_lb hc (vp_in_nI hi (by decide)) hdg (by rw [nI_clamp (by omega)]; exact kk)
theorem xl_5 (hc : CX p l e R s m args below meth c D cs sa A cc nL own ret) {i : Nat} (hi : i < 48) {v : Int32} (hv : S 5 i = v) (hdg : decode cc pc = .ok (.iaload, 1)) (kk : J p l e R s m args below meth c D A nL cells slots Q (WD ad cs n E S o) (pc + 1) lv (.int v :: st)) : J p l e R s m args below meth c D A nL cells slots Q (WD ad cs n E S o) pc lv (.int (nI i) :: .ref (ad 20) :: st) := al_lc hc (vp_in_nI hi (by decide)) hdg (by rw [nI_clamp (by omega), hv]; exact kk)
theorem xs_5 (hc : CX p l e R s m args below meth c D cs sa A cc nL own ret) {i : Nat} (hi : i < 48) {x : Int32} (hdg : decode cc pc = .ok (.iastore, 1)) (kk : J p l e R s m args below meth c D A nL cells slots Q (WD ad cs n E (mA S 5 i x) o) (pc + 1) lv st) : J p l e R s m args below meth c D A nL cells slots Q (WD ad cs n E S o) pc lv (.int x :: .int (nI i) :: .ref (ad 20) :: st) := as_lc hc (vp_in_nI hi (by decide)) hdg (by rw [nI_clamp (by omega)]; exact kk)
theorem xl_6 (hc : CX p l e R s m args below meth c D cs sa A cc nL own ret) {i : Nat} (hi : i < 60) {v : Int32} (hv : S 6 i = v) (hdg : decode cc pc = .ok (.iaload, 1)) (kk : J p l e R s m args below meth c D A nL cells slots Q (WD ad cs n E S o) (pc + 1) lv (.int v :: st)) : J p l e R s m args below meth c D A nL cells slots Q (WD ad cs n E S o) pc lv (.int (nI i) :: .ref (ad 21) :: st) := al_lf hc (vp_in_nI hi (by decide)) hdg (by rw [nI_clamp (by omega), hv]; exact kk)
theorem xs_6 (hc : CX p l e R s m args below meth c D cs sa A cc nL own ret) {i : Nat} (hi : i < 60) {x : Int32} (hdg : decode cc pc = .ok (.iastore, 1)) (kk : J p l e R s m args below meth c D A nL cells slots Q (WD ad cs n E (mA S 6 i x) o) (pc + 1) lv st) : J p l e R s m args below meth c D A nL cells slots Q (WD ad cs n E S o) pc lv (.int x :: .int (nI i) :: .ref (ad 21) :: st) := as_lf hc (vp_in_nI hi (by decide)) hdg (by rw [nI_clamp (by omega)]; exact kk)
theorem xl_7 (hc : CX p l e R s m args below meth c D cs sa A cc nL own ret) {i : Nat} (hi : i < 36) {v : Int32} (hv : S 7 i = v) (hdg : decode cc pc = .ok (.iaload, 1)) (kk : J p l e R s m args below meth c D A nL cells slots Q (WD ad cs n E S o) (pc + 1) lv (.int v :: st)) : J p l e R s m args below meth c D A nL cells slots Q (WD ad cs n E S o) pc lv (.int (nI i) :: .ref (ad 22) :: st) := al_lk hc (vp_in_nI hi (by decide)) hdg (by rw [nI_clamp (by omega), hv]; exact kk)
theorem xs_7 (hc : CX p l e R s m args below meth c D cs sa A cc nL own ret) {i : Nat} (hi : i < 36) {x : Int32} (hdg : decode cc pc = .ok (.iastore, 1)) (kk : J p l e R s m args below meth c D A nL cells slots Q (WD ad cs n E (mA S 7 i x) o) (pc + 1) lv st) : J p l e R s m args below meth c D A nL cells slots Q (WD ad cs n E S o) pc lv (.int x :: .int (nI i) :: .ref (ad 22) :: st) := as_lk hc (vp_in_nI hi (by decide)) hdg (by rw [nI_clamp (by omega)]; exact kk)
theorem xl_8 (hc : CX p l e R s m args below meth c D cs sa A cc nL own ret) {i : Nat} (hi : i < 60) {v : Int32} (hv : S 8 i = v) (hdg : decode cc pc = .ok (.iaload, 1)) (kk : J p l e R s m args below meth c D A nL cells slots Q (WD ad cs n E S o) (pc + 1) lv (.int v :: st)) : J p l e R s m args below meth c D A nL cells slots Q (WD ad cs n E S o) pc lv (.int (nI i) :: .ref (ad 23) :: st) := al_le hc (vp_in_nI hi (by decide)) hdg (by rw [nI_clamp (by omega), hv]; exact kk)
theorem xs_8 (hc : CX p l e R s m args below meth c D cs sa A cc nL own ret) {i : Nat} (hi : i < 60) {x : Int32} (hdg : decode cc pc = .ok (.iastore, 1)) (kk : J p l e R s m args below meth c D A nL cells slots Q (WD ad cs n E (mA S 8 i x) o) (pc + 1) lv st) : J p l e R s m args below meth c D A nL cells slots Q (WD ad cs n E S o) pc lv (.int x :: .int (nI i) :: .ref (ad 23) :: st) := as_le hc (vp_in_nI hi (by decide)) hdg (by rw [nI_clamp (by omega)]; exact kk)
theorem j_sld (hc : CX p l e R s m args below meth c D cs sa A cc nL own ret) {b L : Nat} {xs : Nat → Int32} (hX : va_X b L xs s s.heap ∧ b < s.heap.size ∧ ¬ A b) {v : Int32} {j : Nat} (hv : v = nI j) (hj : j < L ∧ L ≤ 1536) (hdg : decode cc pc = .ok (.iaload, 1)) (kk : J p l e R s m args below meth c D A nL cells slots Q w (pc + 1) lv (.int (xs j) :: st)) : J p l e R s m args below meth c D A nL cells slots Q w pc lv (.int v :: .ref b :: st) := fun H locs ls hP hD hS hl => by
  subst hv
  have t := va_sld (rest := st) hc.1.1 hc.1.2.1 hX.1 hX.2.1 hX.2.2 hS (vp_in_nI hj.1 (by omega)) hdg (p := p) (e := e) (below := below) (m := m) (meth := meth) (args := args) (R := R) (l := l) (locs := locs) (H := H) (cells := cells) (slots := slots) (Q := Q) (ls := ls)
  rw [nI_clamp (show j < 2 ^ 31 by omega)] at t
  exact t (kk H locs ls hP hD hS hl)
theorem j_slen (hc : CX p l e R s m args below meth c D cs sa A cc nL own ret) {b L : Nat} {xs : Nat → Int32} (hX : va_X b L xs s s.heap ∧ b < s.heap.size ∧ ¬ A b) (hdg : decode cc pc = .ok (.arraylength, 1)) (kk : J p l e R s m args below meth c D A nL cells slots Q w (pc + 1) lv (.int (nI L) :: st)) : J p l e R s m args below meth c D A nL cells slots Q w pc lv (.ref b :: st) := fun H locs ls hP hD hS hl => va_slen hc.1.1 hc.1.2.1 hX.1 hX.2.1 hX.2.2 hS hdg (kk H locs ls hP hD hS hl)
theorem j_widen {k n : Nat} (h1 : cells ≤ k) (h2 : slots ≤ n) (kk : J p l e R s m args below meth c D A nL k n Q w pc lv st) : J p l e R s m args below meth c D A nL cells slots Q w pc lv st := fun H locs ls hP hD hS hl => W.widen h1 h2 (kk H locs ls hP hD hS hl)
end R15
theorem mA_ne {S : MS} {k0 i k c : Nat} {v : Int32} (h : k ≠ k0 ∨ c ≠ i) : mA S k0 i v k c = S k c := by
  show va_up S k0 (upd (S k0) i v) k c = _
  unfold va_up
  by_cases z : k = k0
  · subst z; rw [if_pos rfl]; exact if_neg (by omega)
  · rw [if_neg z]
theorem mA_c {S : MS} {k0 i k c : Nat} {v : Int32} (h : c ≠ i) : mA S k0 i v k c = S k c := mA_ne (Or.inr h)
theorem mA_ro {S : MS} {k0 i k c : Nat} {v : Int32} (h : k ≠ k0) : mA S k0 i v k c = S k c := mA_ne (Or.inl h)
theorem mA_r {S : MS} {k0 i k : Nat} {v : Int32} (h : k ≠ k0) : mA S k0 i v k = S k := if_neg h
theorem mA_s {S : MS} {k0 i : Nat} {v : Int32} : mA S k0 i v k0 i = v := by
  show va_up S k0 (upd (S k0) i v) k0 i = _
  unfold va_up upd
  rw [if_pos rfl, if_pos rfl]
theorem eV_c {E : ES} {k0 b k c : Nat} {v : Int32} (h : c ≠ b) : (eV E k0 b v).2.1 k c = E.2.1 k c := by
  show va_up E.2.1 k0 (upd (E.2.1 k0) b v) k c = _
  unfold va_up
  by_cases z : k = k0
  · subst z; rw [if_pos rfl]; exact if_neg h
  · rw [if_neg z]
theorem eV_r {E : ES} {k0 b k : Nat} {v : Int32} (h : k ≠ k0) : (eV E k0 b v).2.1 k = E.2.1 k := if_neg h
theorem eV_s {E : ES} {k0 b : Nat} {v : Int32} : (eV E k0 b v).2.1 k0 b = v := by
  show va_up E.2.1 k0 (upd (E.2.1 k0) b v) k0 b = _
  unfold va_up upd
  rw [if_pos rfl, if_pos rfl]
theorem nI_n0 {a : Nat} (h : a < 2 ^ 31) (h0 : 0 < a) : ¬ nI a = 0 := nI_ne0 h0 h
theorem sh_L_112 : SH RL 112 yL_does cL_does 5 (Option.some Jvm.ClassFile.FieldType.int) [((0 : Nat), (70 : Nat), (71 : Nat), (44 : Nat))] 4 := ⟨wt_363, wt_364, wt_0, wt_365, by decide, by decide, by decide +kernel⟩
end
section
theorem ts_bit {w : Int64} {s : UInt64} {j : Nat} (hj : j < 64) (hs : s.toNat = j) : ((w.toUInt64 >>> s).toInt64 &&& 1) = 0 ↔ w.toBitVec.getLsbD j = false := by
  have e : (w.toUInt64 >>> s).toInt64.toBitVec = w.toBitVec >>> j := by
    apply BitVec.eq_of_toNat_eq
    show (w.toUInt64 >>> s).toNat = _
    rw [UInt64.toNat_shiftRight, hs, Nat.mod_eq_of_lt hj, BitVec.toNat_ushiftRight]
    rfl
  rw [← Int64.toBitVec_inj, Int64.toBitVec_and, e]
  show w.toBitVec >>> j &&& 1#64 = 0#64 ↔ _
  constructor
  · intro h
    have t := congrArg (fun x => x.getLsbD 0) h
    simpa using t
  · intro h
    apply BitVec.eq_of_getLsbD_eq
    intro i hi
    cases i with
    | zero => simp [h]
    | succ i => simp
theorem bl_shr6 {x : Nat} (h : x < 2 ^ 31) : nI x >>> ((6 : Int32) &&& 31) = nI (x / 64) := by
  apply Int32.toInt_inj.mp
  have e1 : (nI x >>> ((6 : Int32) &&& 31)).toInt = (nI x).toInt >>> 6 := by
    have e2 : (nI x >>> ((6 : Int32) &&& 31)).toBitVec = (nI x).toBitVec.sshiftRight 6 := rfl
    show (nI x >>> ((6 : Int32) &&& 31)).toBitVec.toInt = _
    rw [e2, BitVec.toInt_sshiftRight]
    rfl
  rw [e1, nI_toInt h, nI_toInt (by omega), Int.shiftRight_eq_div_pow]
  norm_cast
theorem bl_and63 {x : Nat} (h : x < 2 ^ 31) : nI x &&& 63 = nI (x % 64) := pk_andN (by omega) 6 (by decide)
theorem bl_s : ∀ c, c < 64 → ((nI c).toInt64.toUInt64 &&& Int64.toUInt64 63).toNat = c := by decide +kernel
theorem bl_tp : ∀ c, c < 64 → ((1 : Int64) <<< ((nI c).toInt64 &&& 63)).toBitVec = BitVec.twoPow 64 c := by decide +kernel
theorem bl_one {z : Int64} : (z &&& 1) = 1 ↔ ¬ (z &&& 1) = 0 := by
  constructor
  · intro h; rw [h]; decide
  · intro h
    have e : (z &&& 1).toBitVec = z.toBitVec &&& 1#64 := rfl
    have e2 : z.toBitVec &&& 1#64 = if z.toBitVec.getLsbD 0 = true then 1#64 else 0#64 := by
      apply BitVec.eq_of_getLsbD_eq
      intro i hi
      cases i with
      | zero => by_cases g : z.toBitVec.getLsbD 0 = true <;> simp_all
      | succ i => by_cases g : z.toBitVec.getLsbD 0 = true <;> simp_all
    by_cases g : z.toBitVec.getLsbD 0 = true
    · rw [if_pos g] at e2; exact Int64.toBitVec_inj.mp (e.trans e2)
    · rw [if_neg g] at e2; exact absurd (Int64.toBitVec_inj.mp (show (z &&& 1).toBitVec = (0 : Int64).toBitVec from e.trans e2)) h
theorem bl_cmp {x y : Int64} : lg_cmp x y = 0 ↔ x = y := by
  unfold lg_cmp
  constructor
  · intro h
    by_cases h1 : y < x
    · rw [if_pos h1] at h; exact absurd h (by decide)
    · rw [if_neg h1] at h
      by_cases h2 : x = y
      · exact h2
      · rw [if_neg h2] at h; exact absurd h (by decide)
  · intro h
    subst h
    have h1 : ¬ x < x := by simp only [Int64.lt_iff_toInt_lt]; omega
    rw [if_neg h1, if_pos rfl]
/-- the day's bit -/
def dbit (E : ES) (x : Nat) : Bool := decide (x < 31040) && (E.2.2 (x / 64)).toBitVec.getLsbD (x % 64)
theorem hol_bit (E : ES) {x : Nat} (h : x < 2 ^ 31) : e_hol E (nI x) = 0 ↔ dbit E x = false := by
  unfold e_hol dbit
  rw [bl_shr6 h, bl_and63 h, if_neg (nI_pos (by omega))]
  by_cases h2 : x < 31040
  · have h3 : ¬ (485 : Int32) ≤ nI (x / 64) := nI_ge (b := 485) (by omega) (by omega)
    rw [if_neg h3, nI_clamp (by omega)]
    have t := ts_bit (w := E.2.2 (x / 64)) (s := ((nI (x % 64)).toInt64.toUInt64 &&& Int64.toUInt64 63)) (j := x % 64) (by omega) (bl_s _ (by omega))
    by_cases g : (E.2.2 (x / 64)).toBitVec.getLsbD (x % 64) = true
    · have g2 := bl_one.mpr (fun z => by rw [t.mp z] at g; cases g)
      rw [if_pos (bl_cmp.mpr g2)]
      simp [g, h2]
    · have g3 : (E.2.2 (x / 64)).toBitVec.getLsbD (x % 64) = false := by simpa using g
      rw [if_neg (fun z => (bl_one.mp (bl_cmp.mp z)) (t.mpr g3))]
      simp [g3]
  · have h3 : (485 : Int32) ≤ nI (x / 64) := nI_le (a := 485) (by omega) (by omega)
    rw [if_pos h3]
    simp [h2]
theorem khol_bit (E : ES) {x y : Nat} (hx : x < 31040) : dbit (e_khol E (nI x)) y = (decide (y = x) || dbit E y) := by
  have e : e_khol E (nI x) = eH E (x / 64) (E.2.2 (x / 64) ||| ((1 : Int64) <<< ((nI (x % 64)).toInt64 &&& 63))) := by
    unfold e_khol
    have h3 : ¬ (485 : Int32) ≤ nI (x / 64) := nI_ge (b := 485) (by omega) (by omega)
    rw [bl_shr6 (by omega), bl_and63 (by omega), if_neg (nI_pos (by omega)), if_neg h3, nI_clamp (by omega)]
  rw [e]
  unfold dbit eH vp_updL
  by_cases h2 : y < 31040
  · by_cases hw : y / 64 = x / 64
    · simp only [hw, if_true, Int64.toBitVec_or, BitVec.getLsbD_or, bl_tp _ (show x % 64 < 64 by omega), BitVec.getLsbD_twoPow]
      by_cases hy : y = x
      · subst hy
        have : y % 64 < 64 := by omega
        simp [h2, this]
      · have : ¬ x % 64 = y % 64 := by omega
        simp [h2, this, hy]
    · have hy : ¬ y = x := fun z => hw (by rw [z])
      simp [h2, hw, hy]
  · have hy : ¬ y = x := by omega
    simp [h2, hy]
theorem hol_01 (E : ES) (d : Int32) : e_hol E d = 0 ∨ e_hol E d = 1 := by
  unfold e_hol
  split
  · exact Or.inl rfl
  · split
    · exact Or.inl rfl
    · split
      · exact Or.inr rfl
      · exact Or.inl rfl
theorem fm_nn {x y : Int32} (hx : 0 ≤ x.toInt) (hy : 0 < y.toInt) : fmod x y = x - x / y * y := by
  unfold fmod
  have h : 0 ≤ x ^^^ y := by
    have := xor_neg x y
    rw [i32_le]
    have e0 : (0 : Int32).toInt = 0 := by decide
    omega
  rw [if_pos h]
/-! the weekdays -/
theorem wk_b : ∀ m, m < 128 → ∀ k, k < 7 → ((nI m &&& ((1 : Int32) <<< (nI k &&& 31)) = 0) ↔ ¬ ((nI m >>> (nI k &&& 31)) &&& nI 1 = nI 1)) := by decide +kernel
theorem wk_e : ∀ m, m < 128 → 0 < m → ∃ k, k < 7 ∧ (nI m >>> (nI k &&& 31)) &&& nI 1 = nI 1 := by decide +kernel
/-- the law's charges -/
def m_wl (w : Nat → Int32) (d : Int32) : Nat → Nat → Int32 → Int32
  | 0, _, c => c
  | k + 1, i, c => m_wl w d k (i + 1) (if c = 0 then 0 else if w i = d then 0 else 1)
def m_chg (m : Int32) (w : Nat → Int32) (h x : Nat) : Int32 := m_wl w (nI x) h 0 (if (m >>> (nI (x % 7) &&& 31)) &&& nI 1 = nI 1 then 1 else 0)
def m_cf (m : Int32) (w : Nat → Int32) (h : Nat) : Nat → Nat → Nat
  | 0, x => x
  | k + 1, x => if m_chg m w h x = 0 then m_cf m w h k (x + 1) else x
theorem wl_0 {w : Nat → Int32} {d : Int32} : ∀ k i, m_wl w d k i 0 = 0
  | 0, _ => rfl
  | k + 1, i => by
    unfold m_wl
    rw [if_pos rfl]
    exact wl_0 k (i + 1)
theorem wl_1 {w : Nat → Int32} {d : Int32} : ∀ k i, (m_wl w d k i 1 = 1 ∧ ∀ j, i ≤ j → j < i + k → ¬ w j = d) ∨ (m_wl w d k i 1 = 0 ∧ ∃ j, i ≤ j ∧ j < i + k ∧ w j = d)
  | 0, i => Or.inl ⟨rfl, fun j h1 h2 => absurd h1 (by omega)⟩
  | k + 1, i => by
    unfold m_wl
    rw [if_neg (by decide)]
    by_cases z : w i = d
    · rw [if_pos z, wl_0]
      exact Or.inr ⟨rfl, i, Nat.le_refl i, by omega, z⟩
    · rw [if_neg z]
      rcases wl_1 (w := w) (d := d) k (i + 1) with ⟨h1, h2⟩ | ⟨h1, j, j1, j2, j3⟩
      · refine Or.inl ⟨h1, fun j j1 j2 => ?_⟩
        by_cases y : j = i
        · subst y; exact z
        · exact h2 j (by omega) (by omega)
      · exact Or.inr ⟨h1, j, by omega, by omega, j3⟩
theorem chgm_01 (m : Int32) (w : Nat → Int32) (h x : Nat) : m_chg m w h x = 0 ∨ m_chg m w h x = 1 := by
  unfold m_chg
  split
  · rcases wl_1 (w := w) (d := nI x) h 0 with ⟨h1, -⟩ | ⟨h1, -⟩
    · exact Or.inr h1
    · exact Or.inl h1
  · exact Or.inl (wl_0 h 0)
theorem cf_ok {m : Int32} {w : Nat → Int32} {h : Nat} : ∀ (K x t : Nat), t < K → ¬ m_chg m w h (x + t) = 0 → ¬ m_chg m w h (m_cf m w h K x) = 0
  | 0, x, t, h1, _ => absurd h1 (Nat.not_lt_zero _)
  | K + 1, x, t, h1, h2 => by
    unfold m_cf
    by_cases z : m_chg m w h x = 0
    · rw [if_pos z]
      have t0 : t ≠ 0 := fun y => h2 (by rw [y]; exact z)
      obtain ⟨t, rfl⟩ : ∃ u, t = u + 1 := ⟨t - 1, by omega⟩
      exact cf_ok K (x + 1) t (by omega) (by rw [show x + 1 + t = x + (t + 1) by omega]; exact h2)
    · rw [if_neg z]; exact z
theorem cf_bd {m : Int32} {w : Nat → Int32} {h : Nat} : ∀ (K x : Nat), x ≤ m_cf m w h K x ∧ m_cf m w h K x ≤ x + K
  | 0, x => ⟨Nat.le_refl _, Nat.le_refl _⟩
  | K + 1, x => by
    unfold m_cf
    have := cf_bd (m := m) (w := w) (h := h) K (x + 1)
    split
    · omega
    · omega
end
section
/-- the day a bill waits for, by its state -/
def wf (σ : Nat) (d : Int32) : Int32 := if σ = 1 ∨ σ = 5 ∨ σ = 6 then -1 else d
def bs (f : Nat → Int32) : Nat → Int32
  | 0 => 0
  | k + 1 => bs f k + f (12 + k)
def RGp (E : ES) (S : MS) (i : Nat) : Prop := ∃ c, c ≤ 6 ∧ E.1 (14 + i) = nI c ∧ S 3 (i + 1) = nI c ∧ ∀ j, j < c → ∃ g, 1 ≤ g ∧ g ≤ 30 ∧ E.2.1 (20 + i) j = nI g ∧ S 2 (6 * (i + 1) + j) = nI g
def RK (E : ES) (S : MS) : Prop := ∃ m, m < 128 ∧ 0 < m ∧ E.1 12 = nI m ∧ S 0 1 = nI m
def RHd (h : Nat) (E : ES) (w : Nat → Int32) : Prop := ∀ x, x < 2 ^ 31 → (dbit E x = false ↔ ∀ j, j < h → ¬ w j = nI x)
/-- side by side, but for the bills: h holidays, n bills, N events, the day Y -/
def RG (h n N Y : Nat) (E : ES) (S : MS) : Prop := (E.1 4 = nI n) ∧ (S 0 2 = nI n) ∧ (E.1 5 = nI Y) ∧ (S 0 0 = nI Y) ∧ (E.1 6 = S 0 3) ∧ (E.1 7 = S 0 4) ∧ (E.1 8 = bs (S 4) n) ∧ (E.1 9 = S 0 5) ∧ (E.1 10 = S 0 6) ∧ (E.1 11 = S 0 7) ∧ (E.1 13 = nI N) ∧ (S 0 8 = nI N) ∧ (∀ t, t < N → N ≤ t + 60 → S 8 (t % 60) = E.2.1 30 (t % 400)) ∧ (∀ j, j < 60 → ∃ c, c < 2 ^ 31 ∧ S 8 j = nI c) ∧ (∀ i, i < 4 → RGp E S i) ∧ (RK E S) ∧ (S 1 63 = nI h) ∧ (RHd h E (S 1)) ∧ (∀ j, j < h → ∃ x, x ≤ Y + 60 ∧ S 1 j = nI x) ∧ (h ≤ 60) ∧ (n ≤ 12)
theorem RG.n4 {h n N Y : Nat} {E : ES} {S : MS} (G : RG h n N Y E S) : E.1 4 = nI n := G.1
theorem RG.n2 {h n N Y : Nat} {E : ES} {S : MS} (G : RG h n N Y E S) : S 0 2 = nI n := G.2.1
theorem RG.d5 {h n N Y : Nat} {E : ES} {S : MS} (G : RG h n N Y E S) : E.1 5 = nI Y := G.2.2.1
theorem RG.d0 {h n N Y : Nat} {E : ES} {S : MS} (G : RG h n N Y E S) : S 0 0 = nI Y := G.2.2.2.1
theorem RG.g6 {h n N Y : Nat} {E : ES} {S : MS} (G : RG h n N Y E S) : E.1 6 = S 0 3 := G.2.2.2.2.1
theorem RG.g7 {h n N Y : Nat} {E : ES} {S : MS} (G : RG h n N Y E S) : E.1 7 = S 0 4 := G.2.2.2.2.2.1
theorem RG.g8 {h n N Y : Nat} {E : ES} {S : MS} (G : RG h n N Y E S) : E.1 8 = bs (S 4) n := G.2.2.2.2.2.2.1
theorem RG.g9 {h n N Y : Nat} {E : ES} {S : MS} (G : RG h n N Y E S) : E.1 9 = S 0 5 := G.2.2.2.2.2.2.2.1
theorem RG.g10 {h n N Y : Nat} {E : ES} {S : MS} (G : RG h n N Y E S) : E.1 10 = S 0 6 := G.2.2.2.2.2.2.2.2.1
theorem RG.g11 {h n N Y : Nat} {E : ES} {S : MS} (G : RG h n N Y E S) : E.1 11 = S 0 7 := G.2.2.2.2.2.2.2.2.2.1
theorem RG.t13 {h n N Y : Nat} {E : ES} {S : MS} (G : RG h n N Y E S) : E.1 13 = nI N := G.2.2.2.2.2.2.2.2.2.2.1
theorem RG.t8 {h n N Y : Nat} {E : ES} {S : MS} (G : RG h n N Y E S) : S 0 8 = nI N := G.2.2.2.2.2.2.2.2.2.2.2.1
theorem RG.ring {h n N Y : Nat} {E : ES} {S : MS} (G : RG h n N Y E S) : ∀ t, t < N → N ≤ t + 60 → S 8 (t % 60) = E.2.1 30 (t % 400) := G.2.2.2.2.2.2.2.2.2.2.2.2.1
theorem RG.cod {h n N Y : Nat} {E : ES} {S : MS} (G : RG h n N Y E S) : ∀ j, j < 60 → ∃ c, c < 2 ^ 31 ∧ S 8 j = nI c := G.2.2.2.2.2.2.2.2.2.2.2.2.2.1
theorem RG.gp {h n N Y : Nat} {E : ES} {S : MS} (G : RG h n N Y E S) : ∀ i, i < 4 → RGp E S i := G.2.2.2.2.2.2.2.2.2.2.2.2.2.2.1
theorem RG.rk {h n N Y : Nat} {E : ES} {S : MS} (G : RG h n N Y E S) : RK E S := G.2.2.2.2.2.2.2.2.2.2.2.2.2.2.2.1
theorem RG.w63 {h n N Y : Nat} {E : ES} {S : MS} (G : RG h n N Y E S) : S 1 63 = nI h := G.2.2.2.2.2.2.2.2.2.2.2.2.2.2.2.2.1
theorem RG.hd {h n N Y : Nat} {E : ES} {S : MS} (G : RG h n N Y E S) : RHd h E (S 1) := G.2.2.2.2.2.2.2.2.2.2.2.2.2.2.2.2.2.1
theorem RG.hl {h n N Y : Nat} {E : ES} {S : MS} (G : RG h n N Y E S) : ∀ j, j < h → ∃ x, x ≤ Y + 60 ∧ S 1 j = nI x := G.2.2.2.2.2.2.2.2.2.2.2.2.2.2.2.2.2.2.1
theorem RG.h60 {h n N Y : Nat} {E : ES} {S : MS} (G : RG h n N Y E S) : h ≤ 60 := G.2.2.2.2.2.2.2.2.2.2.2.2.2.2.2.2.2.2.2.1
theorem RG.n12 {h n N Y : Nat} {E : ES} {S : MS} (G : RG h n N Y E S) : n ≤ 12 := G.2.2.2.2.2.2.2.2.2.2.2.2.2.2.2.2.2.2.2.2
/-- what the law's rows hold of the bill c -/
def bv (S : MS) (c : Nat) : Nat → Int32 := fun k => match k with
  | 0 => S 4 c
  | 1 => S 4 (24 + c)
  | 2 => S 5 c
  | 3 => S 5 (12 + c)
  | 4 => S 5 (24 + c)
  | 5 => S 5 (36 + c)
  | 6 => S 7 c
  | 7 => S 7 (12 + c)
  | 8 => S 7 (24 + c)
  | 9 => S 6 (5 * c + 1)
  | 10 => S 6 (5 * c + 2)
  | 11 => S 6 (5 * c + 3)
  | 12 => S 6 (5 * c + 4)
  | _ => 0
theorem bv_f (S : MS) (c : Nat) : ∀ r, r < 4 → bv S c (9 + r) = S 6 (5 * c + (r + 1))
  | 0, _ => rfl
  | 1, _ => rfl
  | 2, _ => rfl
  | 3, _ => rfl
  | r + 4, h => absurd h (by omega)
theorem bv_ext {S S' : MS} {c c' : Nat} (h0 : S' 4 c' = S 4 c) (h1 : S' 4 (24 + c') = S 4 (24 + c)) (h2 : S' 5 c' = S 5 c) (h3 : S' 5 (12 + c') = S 5 (12 + c)) (h4 : S' 5 (24 + c') = S 5 (24 + c)) (h5 : S' 5 (36 + c') = S 5 (36 + c)) (h6 : S' 7 c' = S 7 c) (h7 : S' 7 (12 + c') = S 7 (12 + c)) (h8 : S' 7 (24 + c') = S 7 (24 + c)) (h9 : ∀ r, r < 4 → S' 6 (5 * c' + (r + 1)) = S 6 (5 * c + (r + 1))) : bv S' c' = bv S c := funext fun k => match k with
  | 0 => h0
  | 1 => h1
  | 2 => h2
  | 3 => h3
  | 4 => h4
  | 5 => h5
  | 6 => h6
  | 7 => h7
  | 8 => h8
  | 9 => h9 0 (by decide)
  | 10 => h9 1 (by decide)
  | 11 => h9 2 (by decide)
  | 12 => h9 3 (by decide)
  | k + 13 => rfl
/-- a place of the bill b, or of none -/
def slb (a i b : Nat) : Prop := (a = 4 → i = b ∨ i = 24 + b ∨ i = 12 + b) ∧ (a = 5 → i = b ∨ i = 12 + b ∨ i = 24 + b ∨ i = 36 + b) ∧ (a = 7 → i = b ∨ i = 12 + b ∨ i = 24 + b) ∧ (a = 6 → 5 * b < i ∧ i ≤ 5 * b + 4)
theorem bv_o {S : MS} {a i b c : Nat} {v : Int32} (hs : slb a i b) (hcb : c ≠ b) (hc : c < 12) (hb : b < 12) : bv (mA S a i v) c = bv S c := by
  obtain ⟨s4, s5, s7, s6⟩ := hs
  have h4 : ∀ j, (j = c ∨ j = 24 + c) → mA S a i v 4 j = S 4 j := fun j hj => (Classical.em (a = 4)).elim (fun z => mA_ne (Or.inr (by have := s4 z; omega))) (fun z => mA_ro (Ne.symm z))
  have h5 : ∀ j, (j = c ∨ j = 12 + c ∨ j = 24 + c ∨ j = 36 + c) → mA S a i v 5 j = S 5 j := fun j hj => (Classical.em (a = 5)).elim (fun z => mA_ne (Or.inr (by have := s5 z; omega))) (fun z => mA_ro (Ne.symm z))
  have h7 : ∀ j, (j = c ∨ j = 12 + c ∨ j = 24 + c) → mA S a i v 7 j = S 7 j := fun j hj => (Classical.em (a = 7)).elim (fun z => mA_ne (Or.inr (by have := s7 z; omega))) (fun z => mA_ro (Ne.symm z))
  have h6 : ∀ r, r < 4 → mA S a i v 6 (5 * c + (r + 1)) = S 6 (5 * c + (r + 1)) := fun r hr => (Classical.em (a = 6)).elim (fun z => mA_ne (Or.inr (by have := s6 z; omega))) (fun z => mA_ro (Ne.symm z))
  exact bv_ext (h4 _ (by omega)) (h4 _ (by omega)) (h5 _ (by omega)) (h5 _ (by omega)) (h5 _ (by omega)) (h5 _ (by omega)) (h7 _ (by omega)) (h7 _ (by omega)) (h7 _ (by omega)) h6
theorem bv_0 {S : MS} {c : Nat} {v : Int32} (hc : c < 12) : bv (mA S 4 (c) v) c = upd (bv S c) 0 v := funext fun k => match k with
  | 0 => by rw [show upd (bv S c) 0 v 0 = v from rfl]; exact mA_s
  | 1 => mA_c (by omega)
  | 2 => rfl
  | 3 => rfl
  | 4 => rfl
  | 5 => rfl
  | 6 => rfl
  | 7 => rfl
  | 8 => rfl
  | 9 => rfl
  | 10 => rfl
  | 11 => rfl
  | 12 => rfl
  | k + 13 => rfl
theorem bv_1 {S : MS} {c : Nat} {v : Int32} (hc : c < 12) : bv (mA S 4 (24 + c) v) c = upd (bv S c) 1 v := funext fun k => match k with
  | 0 => mA_c (by omega)
  | 1 => by rw [show upd (bv S c) 1 v 1 = v from rfl]; exact mA_s
  | 2 => rfl
  | 3 => rfl
  | 4 => rfl
  | 5 => rfl
  | 6 => rfl
  | 7 => rfl
  | 8 => rfl
  | 9 => rfl
  | 10 => rfl
  | 11 => rfl
  | 12 => rfl
  | k + 13 => rfl
theorem bv_2 {S : MS} {c : Nat} {v : Int32} (hc : c < 12) : bv (mA S 5 (c) v) c = upd (bv S c) 2 v := funext fun k => match k with
  | 0 => rfl
  | 1 => rfl
  | 2 => by rw [show upd (bv S c) 2 v 2 = v from rfl]; exact mA_s
  | 3 => mA_c (by omega)
  | 4 => mA_c (by omega)
  | 5 => mA_c (by omega)
  | 6 => rfl
  | 7 => rfl
  | 8 => rfl
  | 9 => rfl
  | 10 => rfl
  | 11 => rfl
  | 12 => rfl
  | k + 13 => rfl
theorem bv_3 {S : MS} {c : Nat} {v : Int32} (hc : c < 12) : bv (mA S 5 (12 + c) v) c = upd (bv S c) 3 v := funext fun k => match k with
  | 0 => rfl
  | 1 => rfl
  | 2 => mA_c (by omega)
  | 3 => by rw [show upd (bv S c) 3 v 3 = v from rfl]; exact mA_s
  | 4 => mA_c (by omega)
  | 5 => mA_c (by omega)
  | 6 => rfl
  | 7 => rfl
  | 8 => rfl
  | 9 => rfl
  | 10 => rfl
  | 11 => rfl
  | 12 => rfl
  | k + 13 => rfl
theorem bv_4 {S : MS} {c : Nat} {v : Int32} (hc : c < 12) : bv (mA S 5 (24 + c) v) c = upd (bv S c) 4 v := funext fun k => match k with
  | 0 => rfl
  | 1 => rfl
  | 2 => mA_c (by omega)
  | 3 => mA_c (by omega)
  | 4 => by rw [show upd (bv S c) 4 v 4 = v from rfl]; exact mA_s
  | 5 => mA_c (by omega)
  | 6 => rfl
  | 7 => rfl
  | 8 => rfl
  | 9 => rfl
  | 10 => rfl
  | 11 => rfl
  | 12 => rfl
  | k + 13 => rfl
theorem bv_5 {S : MS} {c : Nat} {v : Int32} (hc : c < 12) : bv (mA S 5 (36 + c) v) c = upd (bv S c) 5 v := funext fun k => match k with
  | 0 => rfl
  | 1 => rfl
  | 2 => mA_c (by omega)
  | 3 => mA_c (by omega)
  | 4 => mA_c (by omega)
  | 5 => by rw [show upd (bv S c) 5 v 5 = v from rfl]; exact mA_s
  | 6 => rfl
  | 7 => rfl
  | 8 => rfl
  | 9 => rfl
  | 10 => rfl
  | 11 => rfl
  | 12 => rfl
  | k + 13 => rfl
theorem bv_6 {S : MS} {c : Nat} {v : Int32} (hc : c < 12) : bv (mA S 7 (c) v) c = upd (bv S c) 6 v := funext fun k => match k with
  | 0 => rfl
  | 1 => rfl
  | 2 => rfl
  | 3 => rfl
  | 4 => rfl
  | 5 => rfl
  | 6 => by rw [show upd (bv S c) 6 v 6 = v from rfl]; exact mA_s
  | 7 => mA_c (by omega)
  | 8 => mA_c (by omega)
  | 9 => rfl
  | 10 => rfl
  | 11 => rfl
  | 12 => rfl
  | k + 13 => rfl
theorem bv_7 {S : MS} {c : Nat} {v : Int32} (hc : c < 12) : bv (mA S 7 (12 + c) v) c = upd (bv S c) 7 v := funext fun k => match k with
  | 0 => rfl
  | 1 => rfl
  | 2 => rfl
  | 3 => rfl
  | 4 => rfl
  | 5 => rfl
  | 6 => mA_c (by omega)
  | 7 => by rw [show upd (bv S c) 7 v 7 = v from rfl]; exact mA_s
  | 8 => mA_c (by omega)
  | 9 => rfl
  | 10 => rfl
  | 11 => rfl
  | 12 => rfl
  | k + 13 => rfl
theorem bv_8 {S : MS} {c : Nat} {v : Int32} (hc : c < 12) : bv (mA S 7 (24 + c) v) c = upd (bv S c) 8 v := funext fun k => match k with
  | 0 => rfl
  | 1 => rfl
  | 2 => rfl
  | 3 => rfl
  | 4 => rfl
  | 5 => rfl
  | 6 => mA_c (by omega)
  | 7 => mA_c (by omega)
  | 8 => by rw [show upd (bv S c) 8 v 8 = v from rfl]; exact mA_s
  | 9 => rfl
  | 10 => rfl
  | 11 => rfl
  | 12 => rfl
  | k + 13 => rfl
theorem bv_9 {S : MS} {c r : Nat} {v : Int32} (hr : r < 4) : bv (mA S 6 (5 * c + (r + 1)) v) c = upd (bv S c) (9 + r) v := by
  match r, hr with
  | 0, _ => exact funext fun k => match k with
    | 0 => rfl
    | 1 => rfl
    | 2 => rfl
    | 3 => rfl
    | 4 => rfl
    | 5 => rfl
    | 6 => rfl
    | 7 => rfl
    | 8 => rfl
    | 9 => (by rw [show upd (bv S c) 9 v 9 = v from rfl]; exact mA_s)
    | 10 => (mA_c (by omega))
    | 11 => (mA_c (by omega))
    | 12 => (mA_c (by omega))
    | k + 13 => rfl
  | 1, _ => exact funext fun k => match k with
    | 0 => rfl
    | 1 => rfl
    | 2 => rfl
    | 3 => rfl
    | 4 => rfl
    | 5 => rfl
    | 6 => rfl
    | 7 => rfl
    | 8 => rfl
    | 9 => (mA_c (by omega))
    | 10 => (by rw [show upd (bv S c) 10 v 10 = v from rfl]; exact mA_s)
    | 11 => (mA_c (by omega))
    | 12 => (mA_c (by omega))
    | k + 13 => rfl
  | 2, _ => exact funext fun k => match k with
    | 0 => rfl
    | 1 => rfl
    | 2 => rfl
    | 3 => rfl
    | 4 => rfl
    | 5 => rfl
    | 6 => rfl
    | 7 => rfl
    | 8 => rfl
    | 9 => (mA_c (by omega))
    | 10 => (mA_c (by omega))
    | 11 => (by rw [show upd (bv S c) 11 v 11 = v from rfl]; exact mA_s)
    | 12 => (mA_c (by omega))
    | k + 13 => rfl
  | 3, _ => exact funext fun k => match k with
    | 0 => rfl
    | 1 => rfl
    | 2 => rfl
    | 3 => rfl
    | 4 => rfl
    | 5 => rfl
    | 6 => rfl
    | 7 => rfl
    | 8 => rfl
    | 9 => (mA_c (by omega))
    | 10 => (mA_c (by omega))
    | 11 => (mA_c (by omega))
    | 12 => (by rw [show upd (bv S c) 12 v 12 = v from rfl]; exact mA_s)
    | k + 13 => rfl
  | r + 4, h => exact absurd h (by omega)
theorem bv_n {S : MS} {a i c : Nat} {v : Int32} (ha : a = 0 ∨ a = 1 ∨ a = 2 ∨ a = 3 ∨ a = 8) : bv (mA S a i v) c = bv S c := bv_ext (mA_ro (by omega)) (mA_ro (by omega)) (mA_ro (by omega)) (mA_ro (by omega)) (mA_ro (by omega)) (mA_ro (by omega)) (mA_ro (by omega)) (mA_ro (by omega)) (mA_ro (by omega)) (fun r _ => mA_ro (by omega))
def RC (N : Nat) (E : ES) (c : Nat) (f : Nat → Int32) : Prop := E.2.1 0 c = nI c ∧ E.2.1 1 c = f 0 ∧ E.2.1 3 c = f 1 ∧ E.2.1 6 c = f 4 ∧ E.2.1 7 c = f 5 ∧ E.2.1 8 c = f 8 ∧ E.2.1 9 c = f 6 ∧ E.2.1 10 c = f 7 ∧ (∀ r, r < 4 → E.2.1 (40 + c) r = f (9 + r) ∧ ∃ κ, κ ≤ N ∧ f (9 + r) = nI κ) ∧ (∃ v, v ≤ 9999 ∧ f 1 = nI v) ∧ (f 6 = nI 0 ∨ f 6 = nI 2 ∨ f 6 = nI 3)
def RW (E : ES) (c : Nat) (f : Nat → Int32) : Prop := ∃ σ, σ ≤ 6 ∧ f 2 = nI σ ∧ E.2.1 4 c = nI σ ∧ E.2.1 5 c = wf σ (f 3)
def RZ (f : Nat → Int32) : Prop := f 4 = nI 0 ∧ f 5 = nI 0 ∧ f 6 = nI 0 ∧ f 7 = nI 0 ∧ f 8 = nI 0 ∧ ∀ r, r < 4 → f (9 + r) = nI 0
/-- side by side, but for the state of the bill b -/
def RX (h n N M Y : Nat) (E : ES) (S : MS) (b : Nat) : Prop := RG h n N Y E S ∧ RC M E b (bv S b) ∧ (∀ c, c < n → c ≠ b → RC N E c (bv S c) ∧ RW E c (bv S c)) ∧ ∀ c, n ≤ c → c < 12 → RZ (bv S c)
def Rel (h n N Y : Nat) (E : ES) (S : MS) : Prop := RG h n N Y E S ∧ (∀ c, c < n → RC N E c (bv S c) ∧ RW E c (bv S c)) ∧ ∀ c, n ≤ c → c < 12 → RZ (bv S c)
theorem Rel.x {h n N Y b : Nat} {E : ES} {S : MS} (H : Rel h n N Y E S) (hb : b < n) : RX h n N N Y E S b := ⟨H.1, (H.2.1 b hb).1, fun c hc _ => H.2.1 c hc, H.2.2⟩
theorem RX.rel {h n N Y b : Nat} {E : ES} {S : MS} (H : RX h n N N Y E S b) (hw : RW E b (bv S b)) : Rel h n N Y E S := ⟨H.1, fun c hc => by
  by_cases z : c = b
  · subst z; exact ⟨H.2.1, hw⟩
  · exact H.2.2.1 c hc z, H.2.2.2⟩
theorem RC.mono {N N' c : Nat} {E : ES} {f : Nat → Int32} (h : RC N E c f) (hN : N ≤ N') : RC N' E c f := by
  obtain ⟨q0, q1, q3, q6, q7, q8, q9, q10, qf, ql, qj⟩ := h
  exact ⟨q0, q1, q3, q6, q7, q8, q9, q10, fun r hr => ⟨(qf r hr).1, (qf r hr).2.elim fun κ w => ⟨κ, by omega, w.2⟩⟩, ql, qj⟩
/-- the class's cells of other bills are as they were -/
def OE (E E' : ES) (b : Nat) : Prop := (∀ k c, c ≠ b → k ≤ 10 → E'.2.1 k c = E.2.1 k c) ∧ ∀ c, c ≠ b → E'.2.1 (40 + c) = E.2.1 (40 + c)
theorem oe_rf {E : ES} {b : Nat} : OE E E b := ⟨fun _ _ _ _ => rfl, fun _ _ => rfl⟩
theorem oe_eV {E E' : ES} {b k0 : Nat} {v : Int32} (H : OE E E' b) (hk : k0 < 40 ∨ k0 = 40 + b) : OE E (eV E' k0 b v) b := ⟨fun k c hc hk => (eV_c hc).trans (H.1 k c hc hk), fun c hc => (eV_r (by omega)).trans (H.2 c hc)⟩
theorem oe_eF {E E' : ES} {b i : Nat} {v : Int32} (H : OE E E' b) : OE E (eV E' (40 + b) i v) b := ⟨fun k c hc hk => by rw [eV_r (by omega)]; exact H.1 k c hc hk, fun c hc => (eV_r (by omega)).trans (H.2 c hc)⟩
theorem oe_eV' {E E' : ES} {b k0 i : Nat} {v : Int32} (H : OE E E' b) (hk : 10 < k0 ∧ k0 < 40) : OE E (eV E' k0 i v) b := ⟨fun k c hc hk => by rw [eV_r (by omega)]; exact H.1 k c hc hk, fun c hc => (eV_r (by omega)).trans (H.2 c hc)⟩
theorem oe_c {E E' : ES} {N b c : Nat} {f : Nat → Int32} (O : OE E E' b) (hcb : c ≠ b) (H : RC N E c f ∧ RW E c f) : RC N E' c f ∧ RW E' c f := by
  obtain ⟨⟨q0, q1, q3, q6, q7, q8, q9, q10, qf, ql, qj⟩, σ, w1, w2, w3, w4⟩ := H
  have e := fun k hk => O.1 k c hcb hk
  refine ⟨⟨?_, ?_, ?_, ?_, ?_, ?_, ?_, ?_, fun r hr => ?_, ql, qj⟩, σ, w1, w2, ?_, ?_⟩
  · rw [e 0 (by decide)]; exact q0
  · rw [e 1 (by decide)]; exact q1
  · rw [e 3 (by decide)]; exact q3
  · rw [e 6 (by decide)]; exact q6
  · rw [e 7 (by decide)]; exact q7
  · rw [e 8 (by decide)]; exact q8
  · rw [e 9 (by decide)]; exact q9
  · rw [e 10 (by decide)]; exact q10
  · rw [O.2 c hcb]; exact qf r hr
  · rw [e 4 (by decide)]; exact w3
  · rw [e 5 (by decide)]; exact w4
/-- a step that touches the bill b alone -/
theorem rx_of {h n N N' M M' Y b : Nat} {E E' : ES} {S S' : MS} (H : RX h n N M Y E S b) (hb : b < n) (hG : RG h n N' Y E' S') (hN : N ≤ N') (hC : RC M' E' b (bv S' b)) (hO : OE E E' b) (hS : ∀ c, c ≠ b → c < 12 → bv S' c = bv S c) : RX h n N' M' Y E' S' b := by
  have n12 := hG.n12
  refine ⟨hG, hC, fun c hc hcb => ?_, fun c h1 h2 => ?_⟩
  · rw [hS c hcb (by omega)]
    have := oe_c hO hcb (H.2.2.1 c hc hcb)
    exact ⟨this.1.mono hN, this.2⟩
  · rw [hS c (by omega) h2]; exact H.2.2.2 c h1 h2
theorem bs_u {S : MS} {i : Nat} {v : Int32} : ∀ n, (∀ k, k < n → 12 + k ≠ i) → bs (mA S 4 i v 4) n = bs (S 4) n
  | 0, _ => rfl
  | n + 1, h => by
    unfold bs
    rw [bs_u n (fun k hk => h k (by omega)), mA_c (h n (by omega))]
end
section
theorem all4 {P : Nat → Prop} (h0 : P 0) (h1 : P 1) (h2 : P 2) (h3 : P 3) : ∀ i, i < 4 → P i
  | 0, _ => h0
  | 1, _ => h1
  | 2, _ => h2
  | 3, _ => h3
  | i + 4, h => absurd h (by omega)
theorem upd_ne {f : Nat → Int32} {j k : Nat} {v : Int32} (h : k ≠ j) : upd f j v k = f k := if_neg h
theorem wf_d {σ : Nat} {d : Int32} (h : σ = 0 ∨ σ = 2 ∨ σ = 3 ∨ σ = 4) : wf σ d = d := by
  unfold wf
  rw [if_neg (by omega)]
theorem wf_m {σ : Nat} {d : Int32} (h : σ = 1 ∨ σ = 5 ∨ σ = 6) : wf σ d = -1 := if_pos h
/-- a new state of the bill b and its event -/
abbrev m_ent (S : MS) (Y N b σ : Nat) : MS := mA (mA (mA S 5 b (nI σ)) 8 (N % 60) (nI ((Y * 100 + b) * 10 + σ))) 0 8 (nI (N + 1))
theorem rc_w {N c : Nat} {E E' : ES} {f f' : Nat → Int32} (H : RC N E c f) (hE : ∀ k, k ≠ 4 → k ≠ 5 → k ≤ 10 → E'.2.1 k c = E.2.1 k c) (hF : E'.2.1 (40 + c) = E.2.1 (40 + c)) (hf : ∀ k, k ≠ 2 → k ≠ 3 → f' k = f k) : RC N E' c f' := by
  obtain ⟨q0, q1, q3, q6, q7, q8, q9, q10, qf, ql, qj⟩ := H
  have e := hE
  refine ⟨?_, ?_, ?_, ?_, ?_, ?_, ?_, ?_, fun r hr => ?_, ?_, ?_⟩
  · rw [e 0 (by decide) (by decide) (by decide)]; exact q0
  · rw [e 1 (by decide) (by decide) (by decide), hf 0 (by decide) (by decide)]; exact q1
  · rw [e 3 (by decide) (by decide) (by decide), hf 1 (by decide) (by decide)]; exact q3
  · rw [e 6 (by decide) (by decide) (by decide), hf 4 (by decide) (by decide)]; exact q6
  · rw [e 7 (by decide) (by decide) (by decide), hf 5 (by decide) (by decide)]; exact q7
  · rw [e 8 (by decide) (by decide) (by decide), hf 8 (by decide) (by decide)]; exact q8
  · rw [e 9 (by decide) (by decide) (by decide), hf 6 (by decide) (by decide)]; exact q9
  · rw [e 10 (by decide) (by decide) (by decide), hf 7 (by decide) (by decide)]; exact q10
  · rw [hF, hf (9 + r) (by omega) (by omega)]; exact qf r hr
  · rw [hf 1 (by decide) (by decide)]; exact ql
  · rw [hf 6 (by decide) (by decide)]; exact qj
section SIM
variable {h n N M Y b : Nat} {E : ES} {S : MS}
theorem sim_chg (G : RG h n N Y E S) {x : Nat} (hx : x < 2 ^ 31) : e_chg E (nI x) = m_chg (S 0 1) (S 1) h x := by
  obtain ⟨m, hm, m0, e12, s1⟩ := G.rk
  have e1 : nI x - nI x / 7 * 7 = nI (x % 7) := pk_rem (d := 7) hx (by decide) (by decide)
  unfold e_chg m_chg
  rw [e12, s1, fm_nn (by rw [nI_toInt hx]; omega) (by decide), e1]
  have wb := wk_b m hm (x % 7) (by omega)
  by_cases q : (nI m >>> (nI (x % 7) &&& 31)) &&& nI 1 = nI 1
  · rw [if_neg (fun z => wb.mp z q), if_pos q]
    rcases wl_1 (w := S 1) (d := nI x) h 0 with ⟨h1, h2⟩ | ⟨h1, j, j1, j2, j3⟩
    · rw [h1, if_pos ((hol_bit E hx).mpr ((G.hd x hx).mpr fun j hj => h2 j (by omega) (by omega)))]
    · rw [h1, if_neg (fun z => (G.hd x hx).mp ((hol_bit E hx).mp z) j (by omega) j3)]
  · rw [if_pos (wb.mpr q), if_neg q, wl_0]
theorem sim_fcf (G : RG h n N Y E S) : ∀ (K x : Nat), x + K < 2 ^ 31 → e_fcf E K (nI x) = nI (m_cf (S 0 1) (S 1) h K x)
  | 0, _, _ => rfl
  | K + 1, x, hx => by
    unfold e_fcf m_cf
    rw [sim_chg G (by omega)]
    by_cases z : m_chg (S 0 1) (S 1) h x = 0
    · rw [if_pos z, if_pos z, nI_1]
      exact sim_fcf G K (x + 1) (by omega)
    · rw [if_neg z, if_neg z]
theorem from_ok (G : RG h n N Y E S) {x : Nat} (h1 : Y ≤ x) (h2 : x ≤ 1000000) : ¬ m_chg (S 0 1) (S 1) h (m_cf (S 0 1) (S 1) h 1000 x) = 0 := by
  obtain ⟨m, hm, m0, e12, s1⟩ := G.rk
  obtain ⟨k, hk, hb⟩ := wk_e m hm m0
  refine cf_ok 1000 x (61 + (k + 7 - (x + 61) % 7) % 7) (by omega) ?_
  have hmod : (x + (61 + (k + 7 - (x + 61) % 7) % 7)) % 7 = k := by omega
  unfold m_chg
  rw [hmod, s1, if_pos hb]
  rcases wl_1 (w := S 1) (d := nI (x + (61 + (k + 7 - (x + 61) % 7) % 7))) h 0 with ⟨h1, -⟩ | ⟨-, j, j1, j2, j3⟩
  · rw [h1]; decide
  · exfalso
    obtain ⟨y, y1, y2⟩ := G.hl j (by omega)
    rw [y2] at j3
    have := (nI_eq (by omega) (by omega)).mp j3
    omega
theorem ent_bv {c σ : Nat} (hb : b < 12) (hc : c < 12) (hcb : c ≠ b) : bv (m_ent S Y N b σ) c = bv S c := by
  rw [bv_n (by omega), bv_n (by omega), bv_o (by refine ⟨?_, ?_, ?_, ?_⟩ <;> omega) hcb hc hb]
theorem ent_bvb {σ : Nat} (hb : b < 12) : bv (m_ent S Y N b σ) b = upd (bv S b) 2 (nI σ) := by
  rw [bv_n (by omega), bv_n (by omega), bv_2 hb]
theorem sim_ent (H : RX h n N M Y E S b) (hb : b < n) (hY : Y ≤ 8000) (hN : N ≤ 200000) (hM : M ≤ N + 1) {σ : Nat} (hσ : σ ≤ 6) {s wd : Int32} (hs : s = nI σ) (hwd : wd = wf σ (S 5 (12 + b))) : Rel h n (N + 1) Y (e_enter E b s wd) (m_ent S Y N b σ) := by
  subst hs
  have G := H.1
  have n12 := G.n12
  have hix : (fmod (E.1 13) 400).toNatClampNeg = N % 400 := by
    have e1 : nI N - nI N / 400 * 400 = nI (N % 400) := pk_rem (d := 400) (by omega) (by decide) (by decide)
    rw [G.t13, fm_nn (by rw [nI_toInt (by omega)]; omega) (by decide), e1, nI_clamp (by omega)]
  have hcode : 1000 * E.1 5 + 10 * E.2.1 0 b + nI σ = nI ((Y * 100 + b) * 10 + σ) := by
    have e1 : (1000 : Int32) * nI Y = nI (1000 * Y) := pk_mul 1000 Y
    have e2 : (10 : Int32) * nI b = nI (10 * b) := pk_mul 10 b
    rw [G.d5, H.2.1.1, e1, e2, nI_add, nI_add]
    congr 1
    omega
  have ee : e_enter E b (nI σ) wd = eG (eV (eV (eV E 4 b (nI σ)) 5 b wd) 30 (N % 400) (nI ((Y * 100 + b) * 10 + σ))) 13 (nI (N + 1)) := by
    show eG (eV (eV (eV E 4 b (nI σ)) 5 b wd) 30 (fmod (E.1 13) 400).toNatClampNeg (1000 * E.1 5 + 10 * E.2.1 0 b + nI σ)) 13 (E.1 13 + 1) = _
    rw [hix, hcode, G.t13, nI_1]
  rw [ee]
  have hX : RX h n (N + 1) (N + 1) Y (eG (eV (eV (eV E 4 b (nI σ)) 5 b wd) 30 (N % 400) (nI ((Y * 100 + b) * 10 + σ))) 13 (nI (N + 1))) (m_ent S Y N b σ) b := by
    refine rx_of H hb ⟨G.n4, G.n2, G.d5, G.d0, G.g6, G.g7, G.g8, G.g9, G.g10, G.g11, rfl, rfl, fun t t1 t2 => ?_, fun j hj => ?_, (all4 (G.gp 0 (by decide)) (G.gp 1 (by decide)) (G.gp 2 (by decide)) (G.gp 3 (by decide))), G.rk, G.w63, G.hd, G.hl, G.h60, G.n12⟩ (Nat.le_succ N) ?_ ?_ (fun c h1 h2 => ent_bv (by omega) h2 h1)
    · show mA S 8 (N % 60) (nI ((Y * 100 + b) * 10 + σ)) 8 (t % 60) = (eV E 30 (N % 400) (nI ((Y * 100 + b) * 10 + σ))).2.1 30 (t % 400)
      by_cases z : t = N
      · subst z; rw [mA_s, eV_s]
      · rw [mA_c (by omega), eV_c (by omega)]; exact G.ring t (by omega) (by omega)
    · show ∃ c, c < 2 ^ 31 ∧ mA S 8 (N % 60) (nI ((Y * 100 + b) * 10 + σ)) 8 j = nI c
      by_cases z : j = N % 60
      · rw [z]; exact ⟨_, (by omega), mA_s⟩
      · rw [mA_c z]; exact G.cod j hj
    · rw [ent_bvb (by omega)]
      refine (rc_w H.2.1 (fun k h4 h5 h10 => ?_) ?_ (fun k h2 h3 => upd_ne h2)).mono hM
      · show (eV (eV (eV E 4 b (nI σ)) 5 b wd) 30 (N % 400) (nI ((Y * 100 + b) * 10 + σ))).2.1 k b = _
        rw [eV_r (by omega), eV_r h5, eV_r h4]
      · show (eV (eV (eV E 4 b (nI σ)) 5 b wd) 30 (N % 400) (nI ((Y * 100 + b) * 10 + σ))).2.1 (40 + b) = _
        rw [eV_r (by omega), eV_r (by omega), eV_r (by omega)]
    · exact oe_eV' (oe_eV (oe_eV oe_rf (Or.inl (by decide))) (Or.inl (by decide))) (by decide)
  refine hX.rel ⟨σ, hσ, ?_, ?_, ?_⟩
  · rw [ent_bvb (by omega)]; rfl
  · show (eV E 4 b (nI σ)).2.1 4 b = _
    exact eV_s
  · rw [ent_bvb (by omega)]
    show (eV (eV E 4 b (nI σ)) 5 b wd).2.1 5 b = wf σ (S 5 (12 + b))
    rw [eV_s]; exact hwd
/-- another day to wait for -/
theorem rx_13 (H : RX h n N M Y E S b) (hb : b < n) (v : Int32) : RX h n N M Y E (mA S 5 (12 + b) v) b := by
  have n12 := H.1.n12
  refine rx_of H hb H.1 (Nat.le_refl N) ?_ oe_rf (fun c h1 h2 => bv_o (by refine ⟨?_, ?_, ?_, ?_⟩ <;> omega) h1 h2 (by omega))
  rw [bv_3 (by omega)]
  exact rc_w H.2.1 (fun _ _ _ _ => rfl) rfl (fun k h2 h3 => upd_ne h3)
theorem sim_fail (H : Rel h n N Y E S) (hb : b < n) (hY : Y ≤ 8000) (hN : N ≤ 200000) {i κ q : Nat} (hi : i < 4) (eκ : S 6 (5 * b + (i + 1)) = nI κ) (hκ : κ ≤ N) (eq : S 3 (i + 1) = nI q) (hq : q ≤ 6) :
    (∀ g, κ < q → S 2 (6 * (i + 1) + κ) = nI g → g ≤ 30 → Rel h n (N + 1) Y (e_fail E b (nI (i + 1))) (m_ent (mA (mA S 6 (5 * b + (i + 1)) (nI (κ + 1))) 5 (12 + b) (nI (m_cf (S 0 1) (S 1) h 1000 (Y + g)))) Y N b 0)) ∧ (¬ κ < q → Rel h n (N + 1) Y (e_fail E b (nI (i + 1))) (m_ent (mA (mA S 6 (5 * b + (i + 1)) (nI (κ + 1))) 5 (12 + b) (nI Y + S 0 3)) Y N b 2)) := by
  have G := H.1
  have n12 := G.n12
  have ci : (nI (i + 1) - 1).toNatClampNeg = i := by rw [nI_pred]; exact nI_clamp (by omega)
  obtain ⟨qc, qc6, gp1, gp2, gp3⟩ := G.gp i hi
  have hqc : qc = q := (nI_eq (by omega) (by omega)).mp (gp2.symm.trans eq)
  subst hqc
  obtain ⟨⟨q0, q1, q3, q6, q7, q8, q9, q10, qf, ql, qj⟩, w⟩ := H.2.1 b hb
  have qfi : E.2.1 (40 + b) i = nI κ := ((qf i hi).1.trans (bv_f S b i hi)).trans eκ
  have hX : RX h n N (N + 1) Y (eV E (40 + b) i (nI (κ + 1))) (mA S 6 (5 * b + (i + 1)) (nI (κ + 1))) b := by
    have rw_ : ∀ k, k < 40 → (eV E (40 + b) i (nI (κ + 1))).2.1 k = E.2.1 k := fun k hk => eV_r (by omega)
    refine rx_of (H.x hb) hb ⟨G.n4, G.n2, G.d5, G.d0, G.g6, G.g7, G.g8, G.g9, G.g10, G.g11, G.t13, G.t8, fun t t1 t2 => by rw [rw_ 30 (by decide)]; exact G.ring t t1 t2, G.cod, fun j hj => (G.gp j hj).elim fun c w => ⟨c, w.1, w.2.1, w.2.2.1, fun k hk => by rw [rw_ (20 + j) (by omega)]; exact w.2.2.2 k hk⟩, G.rk, G.w63, G.hd, G.hl, G.h60, G.n12⟩ (Nat.le_refl N) ?_ (oe_eF oe_rf) (fun c h1 h2 => bv_o (by refine ⟨?_, ?_, ?_, ?_⟩ <;> omega) h1 h2 (by omega))
    rw [bv_9 hi]
    have u : ∀ k, k < 9 → upd (bv S b) (9 + i) (nI (κ + 1)) k = bv S b k := fun k hk => upd_ne (by omega)
    refine ⟨?_, ?_, ?_, ?_, ?_, ?_, ?_, ?_, fun r hr => ?_, ?_, ?_⟩
    · rw [rw_ 0 (by decide)]; exact q0
    · rw [rw_ 1 (by decide), u 0 (by decide)]; exact q1
    · rw [rw_ 3 (by decide), u 1 (by decide)]; exact q3
    · rw [rw_ 6 (by decide), u 4 (by decide)]; exact q6
    · rw [rw_ 7 (by decide), u 5 (by decide)]; exact q7
    · rw [rw_ 8 (by decide), u 8 (by decide)]; exact q8
    · rw [rw_ 9 (by decide), u 6 (by decide)]; exact q9
    · rw [rw_ 10 (by decide), u 7 (by decide)]; exact q10
    · by_cases z : r = i
      · subst z
        rw [eV_s]
        have e9 : upd (bv S b) (9 + r) (nI (κ + 1)) (9 + r) = nI (κ + 1) := if_pos rfl
        rw [e9]
        exact ⟨rfl, κ + 1, by omega, rfl⟩
      · rw [eV_c z, upd_ne (by omega)]
        obtain ⟨a1, κ2, a2, a3⟩ := qf r hr
        exact ⟨a1, κ2, by omega, a3⟩
    · rw [u 1 (by decide)]; exact ql
    · rw [u 6 (by decide)]; exact qj
  have ee : e_fail E b (nI (i + 1)) = (if e_db E i (nI (κ + 1)) = 0 then e_enter (eV E (40 + b) i (nI (κ + 1))) b 2 (E.1 5 + E.1 6) else e_enter (eV E (40 + b) i (nI (κ + 1))) b 0 (e_fcf (eV E (40 + b) i (nI (κ + 1))) 1000 (E.1 5 + e_db E i (nI (κ + 1))))) := by
    have t : e_db (eV E (40 + b) i (E.2.1 (40 + b) i + 1)) i ((eV E (40 + b) i (E.2.1 (40 + b) i + 1)).2.1 (40 + b) i) = e_db E i (nI (κ + 1)) := by
      rw [eV_s, qfi, nI_1]
      unfold e_db
      have r20 : (eV E (40 + b) i (nI (κ + 1))).2.1 (20 + i) = E.2.1 (20 + i) := eV_r (by omega)
      rw [r20]
      rfl
    unfold e_fail
    dsimp only
    rw [ci, t, qfi, nI_1]
    rfl
  rw [ee]
  constructor
  · intro g z eg hg
    obtain ⟨g', g1, g30, gE, gS⟩ := gp3 κ z
    have hgg : g' = g := (nI_eq (by omega) (by omega)).mp (gS.symm.trans eg)
    subst hgg
    have hd0 : e_db E i (nI (κ + 1)) = nI g' := by
      unfold e_db
      have z1 : ¬ nI (κ + 1) < 1 := nI_nlt (a := κ + 1) (b := 1) (by omega) (by omega)
      have z2 : ¬ nI qc < nI (κ + 1) := nI_nlt (by omega) (by omega)
      have z3 : ¬ (6 : Int32) < nI (κ + 1) := nI_nlt (a := 6) (b := κ + 1) (by omega) (by omega)
      rw [gp1, if_neg z1, if_neg z2, if_neg z3, nI_pred, nI_clamp (by omega)]
      exact gE
    rw [hd0, if_neg (nI_n0 (by omega) (by omega)), G.d5, nI_add]
    refine sim_ent (rx_13 hX hb _) hb hY hN (Nat.le_refl _) (by decide) rfl ?_
    rw [wf_d (by omega), mA_s]
    exact sim_fcf hX.1 1000 (Y + g') (by omega)
  · intro z
    have hd0 : e_db E i (nI (κ + 1)) = 0 := by
      unfold e_db
      have z1 : ¬ nI (κ + 1) < 1 := nI_nlt (a := κ + 1) (b := 1) (by omega) (by omega)
      have z2 : nI qc < nI (κ + 1) := nI_lt (by omega) (by omega)
      rw [gp1, if_neg z1, if_pos z2]
    rw [hd0, if_pos rfl]
    refine sim_ent (rx_13 hX hb _) hb hY hN (Nat.le_refl _) (by decide) rfl ?_
    rw [wf_d (by omega), mA_s, G.d5, G.g6]
theorem lk_0w (H : Rel h n N Y E S) (hb : b < n) (hY : Y ≤ 8000) (hN : N ≤ 200000) (s : S 5 b = nI 0) (hd : nI Y < S 5 (12 + b)) : (e_look E b).1 = 0 ∧ Rel h n N Y (e_look E b).2 (S) := by
  have G := H.1
  have n12 := G.n12
  obtain ⟨⟨q0, q1, q3, q6, q7, q8, q9, q10, qf, ql, qj⟩, σ, w1, w2, w3, w4⟩ := H.2.1 b hb
  have hσ : nI σ = nI 0 := w2.symm.trans s
  have hσ2 : σ = 0 := (nI_eq (by omega) (by decide)).mp hσ
  subst hσ2
  have w4' : E.2.1 5 b = S 5 (12 + b) := w4.trans (wf_d (by omega))
  have w3 : E.2.1 4 b = 0 := w3
  unfold e_look
  rw [if_pos w3, G.d5, w4', if_pos hd]
  exact ⟨rfl, H⟩
theorem lk_0t (H : Rel h n N Y E S) (hb : b < n) (hY : Y ≤ 8000) (hN : N ≤ 200000) (s : S 5 b = nI 0) (hd : ¬ nI Y < S 5 (12 + b)) (hc : ¬ m_chg (S 0 1) (S 1) h Y = 0) : (e_look E b).1 = 1 ∧ Rel h n (N + 1) Y (e_look E b).2 (m_ent (mA S 5 (24 + b) (S 5 (24 + b) + nI 1)) Y N b 1) := by
  have G := H.1
  have n12 := G.n12
  obtain ⟨⟨q0, q1, q3, q6, q7, q8, q9, q10, qf, ql, qj⟩, σ, w1, w2, w3, w4⟩ := H.2.1 b hb
  have hσ : nI σ = nI 0 := w2.symm.trans s
  have hσ2 : σ = 0 := (nI_eq (by omega) (by decide)).mp hσ
  subst hσ2
  have w4' : E.2.1 5 b = S 5 (12 + b) := w4.trans (wf_d (by omega))
  have w3 : E.2.1 4 b = 0 := w3
  unfold e_look
  rw [if_pos w3, G.d5, w4', if_neg hd]
  unfold e_bt
  rw [G.d5, sim_chg G (by omega), if_neg hc]
  refine ⟨rfl, ?_⟩
  have hX : RX h n N N Y (eV E 6 b (E.2.1 6 b + 1)) (mA S 5 (24 + b) (S 5 (24 + b) + nI 1)) b := by
    refine rx_of (H.x hb) hb ⟨G.n4, G.n2, G.d5, G.d0, G.g6, G.g7, G.g8, G.g9, G.g10, G.g11, G.t13, G.t8, G.ring, G.cod, (all4 (G.gp 0 (by decide)) (G.gp 1 (by decide)) (G.gp 2 (by decide)) (G.gp 3 (by decide))), G.rk, G.w63, G.hd, G.hl, G.h60, G.n12⟩ (Nat.le_refl N) ?_ (oe_eV oe_rf (Or.inl (by decide))) (fun c h1 h2 => bv_o (by refine ⟨?_, ?_, ?_, ?_⟩ <;> omega) h1 h2 (by omega))
    rw [bv_4 (by omega)]
    refine ⟨q0, q1, q3, ?_, q7, q8, q9, q10, fun r hr => ?_, ql, qj⟩
    · rw [eV_s, q6]; rfl
    · rw [eV_r (by omega), upd_ne (by omega)]; exact qf r hr
  exact sim_ent hX hb hY hN (Nat.le_succ N) (by decide) rfl (wf_m (by omega)).symm
theorem lk_0f (H : Rel h n N Y E S) (hb : b < n) (hY : Y ≤ 8000) (hN : N ≤ 200000) (s : S 5 b = nI 0) (hd : ¬ nI Y < S 5 (12 + b)) (hc : m_chg (S 0 1) (S 1) h Y = 0) : (e_look E b).1 = 0 ∧ Rel h n N Y (e_look E b).2 (mA S 5 (12 + b) (nI (m_cf (S 0 1) (S 1) h 1000 (Y + 1)))) := by
  have G := H.1
  have n12 := G.n12
  obtain ⟨⟨q0, q1, q3, q6, q7, q8, q9, q10, qf, ql, qj⟩, σ, w1, w2, w3, w4⟩ := H.2.1 b hb
  have hσ : nI σ = nI 0 := w2.symm.trans s
  have hσ2 : σ = 0 := (nI_eq (by omega) (by decide)).mp hσ
  subst hσ2
  have w4' : E.2.1 5 b = S 5 (12 + b) := w4.trans (wf_d (by omega))
  have w3 : E.2.1 4 b = 0 := w3
  unfold e_look
  rw [if_pos w3, G.d5, w4', if_neg hd]
  unfold e_bt
  rw [G.d5, sim_chg G (by omega), if_pos hc]
  refine ⟨rfl, ?_⟩
  have e1 : e_fcf E 1000 (nI Y + 1) = nI (m_cf (S 0 1) (S 1) h 1000 (Y + 1)) := by rw [nI_1]; exact sim_fcf G 1000 (Y + 1) (by omega)
  rw [e1]
  have hX : RX h n N N Y (eV E 5 b (nI (m_cf (S 0 1) (S 1) h 1000 (Y + 1)))) (mA S 5 (12 + b) (nI (m_cf (S 0 1) (S 1) h 1000 (Y + 1)))) b := by
    refine rx_of (H.x hb) hb ⟨G.n4, G.n2, G.d5, G.d0, G.g6, G.g7, G.g8, G.g9, G.g10, G.g11, G.t13, G.t8, G.ring, G.cod, (all4 (G.gp 0 (by decide)) (G.gp 1 (by decide)) (G.gp 2 (by decide)) (G.gp 3 (by decide))), G.rk, G.w63, G.hd, G.hl, G.h60, G.n12⟩ (Nat.le_refl N) ?_ (oe_eV oe_rf (Or.inl (by decide))) (fun c h1 h2 => bv_o (by refine ⟨?_, ?_, ?_, ?_⟩ <;> omega) h1 h2 (by omega))
    rw [bv_3 (by omega)]
    exact rc_w (H.2.1 b hb).1 (fun k h4 h5 _ => by rw [eV_r h5]) (by rw [eV_r (by omega)]) (fun k h2 h3 => upd_ne h3)
  refine hX.rel ⟨0, by decide, ?_, w3, ?_⟩
  · rw [bv_3 (by omega)]; exact w2
  · rw [eV_s, bv_3 (by omega), wf_d (by omega)]; rfl
theorem lk_2 (H : Rel h n N Y E S) (hb : b < n) (hY : Y ≤ 8000) (hN : N ≤ 200000) (s : S 5 b = nI 2) (hd : S 5 (12 + b) = nI Y) : (e_look E b).1 = 0 ∧ Rel h n (N + 1) Y (e_look E b).2 (m_ent (mA S 5 (12 + b) (S 5 (12 + b) + S 0 4)) Y N b 3) := by
  have G := H.1
  have n12 := G.n12
  obtain ⟨⟨q0, q1, q3, q6, q7, q8, q9, q10, qf, ql, qj⟩, σ, w1, w2, w3, w4⟩ := H.2.1 b hb
  have hσ : nI σ = nI 2 := w2.symm.trans s
  have hσ2 : σ = 2 := (nI_eq (by omega) (by decide)).mp hσ
  subst hσ2
  have w4' : E.2.1 5 b = S 5 (12 + b) := w4.trans (wf_d (by omega))
  have w3 : E.2.1 4 b = 2 := w3
  have z0 : ¬ E.2.1 4 b = 0 := by rw [w3]; decide
  unfold e_look
  rw [if_neg z0, G.d5, w4', if_pos hd, if_pos w3]
  refine ⟨rfl, sim_ent (rx_13 (H.x hb) hb _) hb hY hN (Nat.le_succ N) (by decide) rfl ?_⟩
  rw [wf_d (by omega), mA_s, G.g7, hd]
theorem lk_3 (H : Rel h n N Y E S) (hb : b < n) (hY : Y ≤ 8000) (hN : N ≤ 200000) (s : S 5 b = nI 3) (hd : S 5 (12 + b) = nI Y) : (e_look E b).1 = 0 ∧ Rel h n (N + 1) Y (e_look E b).2 (m_ent (mA S 0 6 (S 0 6 + S 4 (24 + b))) Y N b 5) := by
  have G := H.1
  have n12 := G.n12
  obtain ⟨⟨q0, q1, q3, q6, q7, q8, q9, q10, qf, ql, qj⟩, σ, w1, w2, w3, w4⟩ := H.2.1 b hb
  have hσ : nI σ = nI 3 := w2.symm.trans s
  have hσ2 : σ = 3 := (nI_eq (by omega) (by decide)).mp hσ
  subst hσ2
  have w4' : E.2.1 5 b = S 5 (12 + b) := w4.trans (wf_d (by omega))
  have w3 : E.2.1 4 b = 3 := w3
  have z0 : ¬ E.2.1 4 b = 0 := by rw [w3]; decide
  have z2 : ¬ E.2.1 4 b = 2 := by rw [w3]; decide
  unfold e_look
  rw [if_neg z0, G.d5, w4', if_pos hd, if_neg z2, if_pos w3]
  have q3' : E.2.1 3 b = S 4 (24 + b) := q3
  have hX : RX h n N N Y (eG E 10 (E.1 10 + E.2.1 3 b)) (mA S 0 6 (S 0 6 + S 4 (24 + b))) b := by
    refine rx_of (H.x hb) hb ⟨G.n4, G.n2, G.d5, G.d0, G.g6, G.g7, G.g8, G.g9, (by show E.1 10 + E.2.1 3 b = S 0 6 + S 4 (24 + b); rw [G.g10, q3']), G.g11, G.t13, G.t8, G.ring, G.cod, (all4 (G.gp 0 (by decide)) (G.gp 1 (by decide)) (G.gp 2 (by decide)) (G.gp 3 (by decide))), G.rk, G.w63, G.hd, G.hl, G.h60, G.n12⟩ (Nat.le_refl N) ?_ oe_rf (fun c h1 h2 => bv_n (by omega))
    rw [bv_n (by omega)]
    exact (H.2.1 b hb).1
  exact ⟨rfl, sim_ent hX hb hY hN (Nat.le_succ N) (by decide) rfl (wf_m (by omega)).symm⟩
theorem lk_4a (H : Rel h n N Y E S) (hb : b < n) (hY : Y ≤ 8000) (hN : N ≤ 200000) (s : S 5 b = nI 4) (hd : S 5 (12 + b) = nI Y) (hk : S 7 b = 0) : (e_look E b).1 = 0 ∧ Rel h n (N + 1) Y (e_look E b).2 (m_ent (mA (mA S 7 (24 + b) (S 7 (24 + b) + nI 1)) 5 (12 + b) (nI (m_cf (S 0 1) (S 1) h 1000 (Y + 1)))) Y N b 0) := by
  have G := H.1
  have n12 := G.n12
  obtain ⟨⟨q0, q1, q3, q6, q7, q8, q9, q10, qf, ql, qj⟩, σ, w1, w2, w3, w4⟩ := H.2.1 b hb
  have hσ : nI σ = nI 4 := w2.symm.trans s
  have hσ2 : σ = 4 := (nI_eq (by omega) (by decide)).mp hσ
  subst hσ2
  have w4' : E.2.1 5 b = S 5 (12 + b) := w4.trans (wf_d (by omega))
  have w3 : E.2.1 4 b = 4 := w3
  have z0 : ¬ E.2.1 4 b = 0 := by rw [w3]; decide
  have z2 : ¬ E.2.1 4 b = 2 := by rw [w3]; decide
  have z3 : ¬ E.2.1 4 b = 3 := by rw [w3]; decide
  unfold e_look
  rw [if_neg z0, G.d5, w4', if_pos hd, if_neg z2, if_neg z3, if_pos w3]
  have hX : RX h n N N Y (eV E 8 b (E.2.1 8 b + 1)) (mA S 7 (24 + b) (S 7 (24 + b) + nI 1)) b := by
    refine rx_of (H.x hb) hb ⟨G.n4, G.n2, G.d5, G.d0, G.g6, G.g7, G.g8, G.g9, G.g10, G.g11, G.t13, G.t8, G.ring, G.cod, (all4 (G.gp 0 (by decide)) (G.gp 1 (by decide)) (G.gp 2 (by decide)) (G.gp 3 (by decide))), G.rk, G.w63, G.hd, G.hl, G.h60, G.n12⟩ (Nat.le_refl N) ?_ (oe_eV oe_rf (Or.inl (by decide))) (fun c h1 h2 => bv_o (by refine ⟨?_, ?_, ?_, ?_⟩ <;> omega) h1 h2 (by omega))
    rw [bv_8 (by omega)]
    refine ⟨q0, q1, q3, q6, q7, ?_, q9, q10, fun r hr => ?_, ql, qj⟩
    · rw [eV_s, q8]; rfl
    · rw [eV_r (by omega), upd_ne (by omega)]; exact qf r hr
  have ebp : e_bp E b = (if E.2.1 9 b = 0 then e_enter (eV E 8 b (E.2.1 8 b + 1)) b 0 (e_fcf (eV E 8 b (E.2.1 8 b + 1)) 1000 (E.1 5 + 1)) else e_enter (eV E 8 b (E.2.1 8 b + 1)) b (E.2.1 9 b) (E.1 5 + E.2.1 10 b)) := rfl
  have q9' : E.2.1 9 b = S 7 b := q9
  have q10' : E.2.1 10 b = S 7 (12 + b) := q10
  rw [ebp, q9', if_pos hk, G.d5, nI_1]
  refine ⟨rfl, sim_ent (rx_13 hX hb _) hb hY hN (Nat.le_succ N) (by decide) rfl ?_⟩
  rw [wf_d (by omega), mA_s]
  exact sim_fcf hX.1 1000 (Y + 1) (by omega)
theorem lk_4b (H : Rel h n N Y E S) (hb : b < n) (hY : Y ≤ 8000) (hN : N ≤ 200000) (s : S 5 b = nI 4) (hd : S 5 (12 + b) = nI Y) (hk : ¬ S 7 b = 0) {τ : Nat} (hτ : S 7 b = nI τ) (hτ2 : τ = 0 ∨ τ = 2 ∨ τ = 3) : (e_look E b).1 = 0 ∧ Rel h n (N + 1) Y (e_look E b).2 (m_ent (mA (mA S 7 (24 + b) (S 7 (24 + b) + nI 1)) 5 (12 + b) (nI Y + S 7 (12 + b))) Y N b τ) := by
  have G := H.1
  have n12 := G.n12
  obtain ⟨⟨q0, q1, q3, q6, q7, q8, q9, q10, qf, ql, qj⟩, σ, w1, w2, w3, w4⟩ := H.2.1 b hb
  have hσ : nI σ = nI 4 := w2.symm.trans s
  have hσ2 : σ = 4 := (nI_eq (by omega) (by decide)).mp hσ
  subst hσ2
  have w4' : E.2.1 5 b = S 5 (12 + b) := w4.trans (wf_d (by omega))
  have w3 : E.2.1 4 b = 4 := w3
  have z0 : ¬ E.2.1 4 b = 0 := by rw [w3]; decide
  have z2 : ¬ E.2.1 4 b = 2 := by rw [w3]; decide
  have z3 : ¬ E.2.1 4 b = 3 := by rw [w3]; decide
  unfold e_look
  rw [if_neg z0, G.d5, w4', if_pos hd, if_neg z2, if_neg z3, if_pos w3]
  have hX : RX h n N N Y (eV E 8 b (E.2.1 8 b + 1)) (mA S 7 (24 + b) (S 7 (24 + b) + nI 1)) b := by
    refine rx_of (H.x hb) hb ⟨G.n4, G.n2, G.d5, G.d0, G.g6, G.g7, G.g8, G.g9, G.g10, G.g11, G.t13, G.t8, G.ring, G.cod, (all4 (G.gp 0 (by decide)) (G.gp 1 (by decide)) (G.gp 2 (by decide)) (G.gp 3 (by decide))), G.rk, G.w63, G.hd, G.hl, G.h60, G.n12⟩ (Nat.le_refl N) ?_ (oe_eV oe_rf (Or.inl (by decide))) (fun c h1 h2 => bv_o (by refine ⟨?_, ?_, ?_, ?_⟩ <;> omega) h1 h2 (by omega))
    rw [bv_8 (by omega)]
    refine ⟨q0, q1, q3, q6, q7, ?_, q9, q10, fun r hr => ?_, ql, qj⟩
    · rw [eV_s, q8]; rfl
    · rw [eV_r (by omega), upd_ne (by omega)]; exact qf r hr
  have ebp : e_bp E b = (if E.2.1 9 b = 0 then e_enter (eV E 8 b (E.2.1 8 b + 1)) b 0 (e_fcf (eV E 8 b (E.2.1 8 b + 1)) 1000 (E.1 5 + 1)) else e_enter (eV E 8 b (E.2.1 8 b + 1)) b (E.2.1 9 b) (E.1 5 + E.2.1 10 b)) := rfl
  have q9' : E.2.1 9 b = S 7 b := q9
  have q10' : E.2.1 10 b = S 7 (12 + b) := q10
  rw [ebp, q9', if_neg hk, G.d5]
  refine ⟨rfl, sim_ent (rx_13 hX hb _) hb hY hN (Nat.le_succ N) (by omega) hτ ?_⟩
  rw [wf_d (by omega), mA_s, q10']
theorem lk_n (H : Rel h n N Y E S) (hb : b < n) (hy : (∃ σ, (σ = 2 ∨ σ = 3 ∨ σ = 4) ∧ S 5 b = nI σ ∧ ¬ S 5 (12 + b) = nI Y) ∨ ∃ σ, (σ = 1 ∨ σ = 5 ∨ σ = 6) ∧ S 5 b = nI σ) : (e_look E b).1 = 0 ∧ Rel h n N Y (e_look E b).2 S := by
  have G := H.1
  obtain ⟨-, σ, w1, w2, w3, w4⟩ := H.2.1 b hb
  have key : e_look E b = (0, E) := by
    unfold e_look
    rcases hy with ⟨τ, t1, t2, t3⟩ | ⟨τ, t1, t2⟩
    · have hσ : σ = τ := (nI_eq (by omega) (by omega)).mp (w2.symm.trans t2)
      subst hσ
      have z0 : ¬ E.2.1 4 b = 0 := by rw [w3]; exact nI_n0 (by omega) (by omega)
      have w4' : E.2.1 5 b = S 5 (12 + b) := w4.trans (wf_d (by omega))
      rw [if_neg z0, w4', G.d5, if_neg t3]
    · have hσ : σ = τ := (nI_eq (by omega) (by omega)).mp (w2.symm.trans t2)
      subst hσ
      have ne : ∀ k, k < 5 → k ≠ 1 → ¬ nI σ = nI k := fun k hk h1 z => by have := (nI_eq (by omega) (by omega)).mp z; omega
      have z0 : ¬ E.2.1 4 b = 0 := by rw [w3]; exact ne 0 (by decide) (by decide)
      have z2 : ¬ E.2.1 4 b = 2 := by rw [w3]; exact ne 2 (by decide) (by decide)
      have z3 : ¬ E.2.1 4 b = 3 := by rw [w3]; exact ne 3 (by decide) (by decide)
      have z4 : ¬ E.2.1 4 b = 4 := by rw [w3]; exact ne 4 (by decide) (by decide)
      rw [if_neg z0, if_neg z2, if_neg z3, if_neg z4]
      split <;> rfl
  rw [key]
  exact ⟨rfl, H⟩
theorem fut_hi : ∀ (k i : Nat) (E : ES), n ≤ i → e_fut n k i E = E
  | 0, _, _, _ => rfl
  | k + 1, i, E, h => by
    unfold e_fut
    rw [if_neg (by omega)]
    exact fut_hi k (i + 1) E (by omega)
theorem lab_hi : ∀ (k i : Nat) (c : Int32) (E : ES), n ≤ i → e_lab n k i c E = (c, E)
  | 0, _, _, _, _ => rfl
  | k + 1, i, c, E, h => by
    unfold e_lab
    rw [if_neg (by omega)]
    exact lab_hi k (i + 1) c E (by omega)
end SIM
end
