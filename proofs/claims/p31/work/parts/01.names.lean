/-! ===== BEGIN words of one list among another's, by their places ===== -/
theorem goodIn_r {big : List Cond} (ws : List Cond) (ps : List Nat) (hp : ws = ps.filterMap (fun i => big[i]?)) (h : ws.all goodWord = true) : GoodIn big ws := by
  intro w hw
  have h1 := List.all_eq_true.mp h w hw
  rw [hp] at hw
  obtain ⟨i, -, hi⟩ := List.mem_filterMap.mp hw
  have hm : w ∈ big := by first | exact List.mem_of_getElem? hi | exact List.getElem?_mem hi
  exact ⟨hm, good_of_word h1⟩
theorem goodIn_app {big a b : List Cond} (ha : GoodIn big a) (hb : GoodIn big b) : GoodIn big (a ++ b) := fun w h => (List.mem_append.mp h).elim (ha w) (hb w)
theorem goodIn_ca {big a b : List Cond} {c : Cond} (ha : GoodIn big (c :: a)) (hb : GoodIn big b) : GoodIn big (c :: (a ++ b)) := fun w h => (List.mem_cons.mp h).elim (fun e => ha w (List.mem_cons.mpr (Or.inl e))) (fun h => (List.mem_append.mp h).elim (fun h => ha w (List.mem_cons.mpr (Or.inr h))) (hb w))
theorem goodIn_sub {big ws : List Cond} (hm : ∀ w ∈ ws, w ∈ big) (h : ws.all goodWord = true) : GoodIn big ws := fun w hw => ⟨hm w hw, good_of_word (List.all_eq_true.mp h w hw)⟩
/-! ===== END ===== -/

/-! ===== BEGIN exceptions that leave a method, and their catching by the caller (launches without stack traces) ===== -/
section VXA
/-! The laws vx_back, vx_callV, vx_callS, vx_callSW, vx_throw0, vx_throwS follow proofs of the library, with one case more: JvmDerived/Free/Laws.lean (Back.of_free), Shelf42/LK1.lean (callV, callS), Shelf/KitTraced.lean (throwNew0V, throwNewS). -/
/-- where a method has thrown q: the class by its name, the cell, what was written, the world -/
def vx_T (XC : String → State → State → Prop) (st : State) (q : Addr) (t : State) (mc ms : Nat) (free : Addr → Prop) : Prop :=
  ∃ (E : String) (ce : Cell) (L : List Loc), XC E st t ∧ t.heap[q]? = some ce ∧ ce.vm = .none ∧ st.vm.findClass E = some ce.cls ∧ st.WarmedH t.vm ∧ st.sameButNew ({ t with vm := st.vm } : State) L mc ms ∧ ∀ z ∈ L, free z.base
def vx_Q (Qc : Array Value → State → Outcome → State → Prop) (XC : String → State → State → Prop) (mc ms : Nat) (free : Addr → Prop) : Array Value → State → Outcome → State → Prop := fun a st o t =>
  (Qc a st o t ∧ ∃ L, FrameEnd st o t L mc ms ∧ ∀ q ∈ L, free q.base) ∨ ∃ q, o = .threw q ∧ vx_T XC st q t mc ms free
/-- a callee that returns or throws -/
def vx_Met (l : Launch) (y : MethodName) (ws : List Cond) (rm : Room) (Pc : Array Value → State → Prop) (Qc : Array Value → State → Outcome → State → Prop) (XC : String → State → State → Prop) (mc ms : Nat) (free : Addr → Prop) : Prop :=
  MetFree l y (headSpec ws rm) Pc (fun _ _ _ _ _ => True) (vx_Q Qc XC mc ms free)
def vx_Post (XC : String → State → State → Prop) (mc ms : Nat) (free : Addr → Prop) : Pt → Array Value → Addr → Pt → Prop := fun A a q B =>
  ∃ (g : JFrame) (mk : MethodId) (t : State) (L : List Loc) (E : String) (ce : Cell), B.U.heap = t.heap ∧ B.U.vm = t.vm ∧ XC E (A.U.calling g mk a) t ∧ t.heap[q]? = some ce ∧ ce.vm = .none ∧ A.U.vm.findClass E = some ce.cls ∧ B.locs = A.locs ++ L ∧ (∀ z ∈ L, free z.base) ∧ B.cells = A.cells + mc ∧ B.slots = A.slots + ms
def vx_Back (l : Launch) (R : Room) (p : Program) (e : Env) (below : List Frame) (s : State) (sargs : Array Value) (y : MethodName) (len W9 : Nat)
    (Pre : Pt → Array Value → Prop) (Post : Pt → Array Value → Option Value → Pt → Prop) (PostX : Pt → Array Value → Addr → Pt → Prop) : Prop :=
  ∀ (m : MethodId) (meth : Method) (c : Code) (A : Pt) (g : JFrame) (ig : Instr) (mk : MethodId) (a : Array Value),
    Stand p l e R s m sargs below meth c A.U A.locs A.cells A.slots → g.method = m → g.locals.size = c.maxLocals → decode c.code g.pc = .ok (ig, len) →
    2 * g.monitorRoom + (g.stack.map fun v => v.category).sum ≤ W9 → A.U.methodNamed? y = some mk → Pre A a →
    (∃ (v : Option Value) (B : Pt), Stand p l e R s m sargs below meth c B.U B.locs B.cells B.slots ∧ Post A a v B ∧
      Steps p.tables e below (doInvoke e (A.U.setTop g) [] mk a).1 (B.U.setTop { g with pc := g.pc + len, stack := v.toList ++ g.stack })) ∨
    (∃ (q : Addr) (B : Pt), Stand p l e R s m sargs below meth c B.U B.locs B.cells B.slots ∧ PostX A a q B ∧
      Steps p.tables e below (doInvoke e (A.U.setTop g) [] mk a).1 ((B.U.setTop g).pushFrame (.throwing q)))
section Payer
variable {l : Launch} {R : Room} {p : Program} {e : Env} {below : List Frame} {s : State} {sargs : Array Value} {y : MethodName} {len W9 : Nat}
theorem vx_back {ws : List Cond} {rm : Room} {Pc : Array Value → State → Prop} {Qc : Array Value → State → Outcome → State → Prop} {XC : String → State → State → Prop} {mc ms : Nat} {free : Addr → Prop} {bytes : ByteArray} {maxL : Nat} {ret : Option FieldType}
    (hM : vx_Met l y ws rm Pc Qc XC mc ms free) (hblind : FrameBlind Pc) (hrc : rm.cells = mc) (hrs : rm.slots = ms)
    (hframes : rm.frames + 1 ≤ R.frames) (hlocals : W9 + (maxL + 11) + rm.locals ≤ R.locals)
    (hws : ∀ w ∈ ws, ∀ a' U, s.WarmedH U.vm → w.before a' U = true) (hcode : Cond.code y bytes maxL ret ∈ ws) (hinit : ∀ a' U, s.WarmedH U.vm → (Cond.initialized y.cls).before a' U = true) :
    vx_Back l R p e below s sargs y len W9 (PreOf R mc ms Pc) (PostOf Qc mc ms free) (vx_Post XC mc ms free) := by
  intro m meth c A g ig mk a X hg hsize hdg hW hn hp
  have h1 : (headSpec ws rm).pre.before a A.U = true := atoms_intro fun w hw => hws w hw _ _ X.warmed
  have h2 : (Cond.code y bytes maxL ret).before a A.U = true := hws _ hcode _ _ X.warmed
  have h3 : (Cond.initialized y.cls).before a A.U = true := hinit _ _ X.warmed
  have h4 : A.cells + (headSpec ws rm).room.cells ≤ R.cells := by rw [show (headSpec ws rm).room.cells = mc from hrc]; exact hp.1
  have h5 : A.slots + (headSpec ws rm).room.slots ≤ R.slots := by rw [show (headSpec ws rm).room.slots = ms from hrs]; exact hp.2.1
  have hPc : Pc a (A.U.calling g mk a) := hblind _ _ _ _ hp.2.2
  obtain ⟨U, Ls, c0, s0⟩ := A
  dsimp only [Pt.U, Pt.locs, Pt.cells, Pt.slots] at h1 h2 h3 h4 h5 X hn hPc ⊢
  obtain ⟨methY, cY, hmY, hcY, -, hlY, -, -, -, -⟩ := Cond.code_spec hn h2
  obtain ⟨kY, hkY, -⟩ := className_of_methodNamed hn
  have hinitY : kY.init = .initialized := Cond.initialized_spec (findClass_of_methodNamed hn) hkY h3
  have h : At U g.method c below := by rw [hg]; exact X.here
  have hlocals9 : W9 + (maxL + 11) + (headSpec ws rm).room.locals ≤ R.locals := hlocals
  have happ : (headSpec ws rm).appliesLoose y e.platform (U.calling g mk a) = true :=
    Spec.appliesLoose_calling (g := g) h hdg hn hkY hinitY
      (X.room_calling (g := g) (R' := (headSpec ws rm).room) hsize hmY hcY hframes (by rw [hlY]; omega) h4 h5) h1
  obtain ⟨mid, hmid⟩ := h.above
  have hfr : (U.setTop g).frames = (.java g :: mid) ++ below := by rw [State.frames_setTop' g h.top, hmid]; rfl
  obtain ⟨o, s₂, hsteps, -, hend, hq⟩ := Steps.callFree hM p X.admits X.cas X.clock (acts := []) hfr happ hPc trivial
  have hq' : vx_Q Qc XC mc ms free a (U.calling g mk a) o s₂ := hq
  rw [State.frames_setTop' g h.top] at hend
  obtain ⟨g₀, hg0⟩ := Option.isSome_iff_exists.mp h.top
  obtain ⟨r, hr⟩ := State.topJava?_eq_some.mp hg0
  have hr' : (({ U with heap := s₂.heap, slotsUsed := s₂.slotsUsed } : State).setVm s₂.vm).frames = .java g₀ :: r := hr
  rcases hq' with ⟨hqc, L, hfe, hL⟩ | ⟨q, rfl, E, ce, L, hx, hce, hcv, hcl, hW₂, hsm, hL⟩
  · obtain ⟨⟨v, rfl⟩, hW₂, e2, q2, q3, q4, q5, q6⟩ := id hfe
    have e3 : s₂ = ({ (U.calling g mk a).setFrames s₂.frames with heap := s₂.heap, slotsUsed := s₂.slotsUsed } : State).setVm s₂.vm := by
      have : s₂ = ({ s₂ with vm := (U.calling g mk a).vm } : State).setVm s₂.vm := rfl
      rw [e2] at this
      exact this
    obtain ⟨c₂, i₂, len₂, hc₂, hd₂, hf₂⟩ := hend
    have hW' : U.WarmedH s₂.vm := hW₂
    have hcc : c₂ = c := by
      have h1 : s₂.code? g.method = U.code? g.method := by
        rw [State.code?_eq, State.code?_eq, hW'.alike.method?]
      exact Option.some.inj (hc₂.symm.trans (h1.trans h.code))
    subst hcc
    have hlen : len₂ = len := by rw [hdg] at hd₂; cases hd₂; rfl
    subst hlen
    have hs₂ : s₂ = (({ U with heap := s₂.heap, slotsUsed := s₂.slotsUsed } : State).setVm s₂.vm).setTop { g with pc := g.pc + len₂, stack := v.toList ++ g.stack } := by
      refine e3.trans ?_
      rw [hf₂, State.calling_eq h.top, State.setFrames_setFrames, State.setTop_of_frames _ hr', hr]
      rfl
    have hsame : U.sameButNew ({ U with heap := s₂.heap, slotsUsed := s₂.slotsUsed } : State) L mc ms := by
      refine ⟨?_, q2, q3, q4, q5, q6⟩
      obtain ⟨t, ht, -⟩ := State.frames_cons hr
      show ({ U with heap := s₂.heap, slotsUsed := s₂.slotsUsed } : State) = { U.setFrames U.frames with heap := s₂.heap, slotsUsed := s₂.slotsUsed }
      rw [State.setFrames_self ht]
    subst hg
    refine Or.inl ⟨v, ⟨(({ U with heap := s₂.heap, slotsUsed := s₂.slotsUsed } : State).setVm s₂.vm), Ls ++ L, c0 + mc, s0 + ms⟩,
      ⟨X.admits, X.cas, X.clock, X.frames, X.room, X.hears, X.method, X.code, (X.here.setHeapUsed s₂.heap s₂.slotsUsed).setVm hW'.alike, X.tail, State.WarmedH.trans X.warmed hW', X.limits, X.bytes, X.same.trans (hsame.setVm s.vm)⟩,
      ⟨g, mk, s₂, L, rfl, rfl, hqc, rfl, hL, rfl, rfl⟩, ?_⟩
    show Steps p.tables e below _ ((({ U with heap := s₂.heap, slotsUsed := s₂.slotsUsed } : State).setVm s₂.vm).setTop { g with pc := g.pc + len₂, stack := v.toList ++ g.stack })
    rw [← hs₂]
    exact hsteps
  · obtain ⟨e2, q2, q3, q4, q5, q6⟩ := id hsm
    have e3 : s₂ = ({ (U.calling g mk a).setFrames s₂.frames with heap := s₂.heap, slotsUsed := s₂.slotsUsed } : State).setVm s₂.vm := by
      have : s₂ = ({ s₂ with vm := (U.calling g mk a).vm } : State).setVm s₂.vm := rfl
      rw [e2] at this
      exact this
    have hf₂ : s₂.frames = .throwing q :: .java g :: U.frames.tail := hend
    have hW' : U.WarmedH s₂.vm := hW₂
    have hs₂ : s₂ = ((({ U with heap := s₂.heap, slotsUsed := s₂.slotsUsed } : State).setVm s₂.vm).setTop g).pushFrame (.throwing q) := by
      refine e3.trans ?_
      rw [hf₂, State.calling_eq h.top, State.setFrames_setFrames, State.pushFrame, State.frames_setTop _ hr', State.setTop_of_frames _ hr', State.setFrames_setFrames, hr]
      rfl
    have hsame : U.sameButNew ({ U with heap := s₂.heap, slotsUsed := s₂.slotsUsed } : State) L mc ms := by
      refine ⟨?_, q2, q3, q4, q5, q6⟩
      obtain ⟨t, ht, -⟩ := State.frames_cons hr
      show ({ U with heap := s₂.heap, slotsUsed := s₂.slotsUsed } : State) = { U.setFrames U.frames with heap := s₂.heap, slotsUsed := s₂.slotsUsed }
      rw [State.setFrames_self ht]
    subst hg
    refine Or.inr ⟨q, ⟨(({ U with heap := s₂.heap, slotsUsed := s₂.slotsUsed } : State).setVm s₂.vm), Ls ++ L, c0 + mc, s0 + ms⟩,
      ⟨X.admits, X.cas, X.clock, X.frames, X.room, X.hears, X.method, X.code, (X.here.setHeapUsed s₂.heap s₂.slotsUsed).setVm hW'.alike, X.tail, State.WarmedH.trans X.warmed hW', X.limits, X.bytes, X.same.trans (hsame.setVm s.vm)⟩,
      ⟨g, mk, s₂, L, E, ce, rfl, rfl, hx, hce, hcv, hcl, rfl, hL, rfl, rfl⟩, ?_⟩
    show Steps p.tables e below _ (((({ U with heap := s₂.heap, slotsUsed := s₂.slotsUsed } : State).setVm s₂.vm).setTop g).pushFrame (.throwing q))
    rw [← hs₂]
    exact hsteps
end Payer
section Calls
variable {p : Program} {l : Launch} {e : Env} {R : Room} {s : State} {m : MethodId} {args : Array Value} {below : List Frame} {meth : Method} {c : Code} {T : State} {locs : List Loc} {cells slots : Nat}
theorem vx_callV (X : Stand p l e R s m args below meth c T locs cells slots) (hexec : p.tables.exec = Jvm.exec) {own C : String} {index : Nat} {y : MethodName} {bytes : ByteArray} {maxL : Nat} {ret : Option FieldType}
    (hown : s.vm.findClass own = some m.cls) (hlink : (Cond.methodLink own index y).before args s = true) (hinst : (Cond.instanceMethod y).before args s = true) (hsel : (Cond.selects C y y).before args s = true)
    (hcode : (Cond.code y bytes maxL ret).before args s = true) (hy : y.cls ≠ "java/lang/invoke/MethodHandle" ∧ y.cls ≠ "java/lang/invoke/VarHandle")
    {W9 : Nat} {Pre : Pt → Array Value → Prop} {Post : Pt → Array Value → Option Value → Pt → Prop} {PostX : Pt → Array Value → Addr → Pt → Prop} (hK : vx_Back l R p e below s args y 3 W9 Pre Post PostX)
    {b : Addr} {cellB : Cell} (hcell : T.heap[b]? = some cellB) (hobj : cellB.vm.isStatics = false) (hcls : s.vm.findClass C = some cellB.cls)
    {g : JFrame} (hg : g.method = m) (hsize : g.locals.size = c.maxLocals) {argsL rest : List Value} (hlen : ∀ sig, parseMethodDescriptor y.desc = some sig → argsL.length = sig.parameters.length)
    (hstack : g.stack = argsL.reverse ++ .ref b :: rest) (hW : 2 * g.monitorRoom + (rest.map fun v => v.category).sum ≤ W9) (hdg : decode c.code g.pc = .ok (.invokevirtual index, 3))
    (hpre : ∀ vm₁, s.WarmedH vm₁ → Pre ⟨T.setVm vm₁, locs, cells, slots⟩ (Value.ref b :: argsL).toArray) :
    (∃ (v : Option Value) (vm₁ : Vm) (B : Pt), s.WarmedH vm₁ ∧ Stand p l e R s m args below meth c B.U B.locs B.cells B.slots ∧ Post ⟨T.setVm vm₁, locs, cells, slots⟩ (Value.ref b :: argsL).toArray v B ∧
      ∀ target, Steps p.tables e below (B.U.setTop { g with pc := g.pc + 3, stack := v.toList ++ rest }) target → Steps p.tables e below (T.setTop g) target) ∨
    (∃ (q : Addr) (vm₁ : Vm) (B : Pt), s.WarmedH vm₁ ∧ Stand p l e R s m args below meth c B.U B.locs B.cells B.slots ∧ PostX ⟨T.setVm vm₁, locs, cells, slots⟩ (Value.ref b :: argsL).toArray q B ∧
      Steps p.tables e below (T.setTop g) ((B.U.setTop { g with stack := rest }).pushFrame (.throwing q))) := by
  obtain ⟨mk, methM, hnamed, hmethM, hstM, habM⟩ := Cond.instanceMethod_spec hinst
  obtain ⟨methM', cM, hmethM', -, -, -, -, -, -, hsigM⟩ := Cond.code_spec hnamed hcode
  cases hmethM.symm.trans hmethM'
  obtain ⟨c2, r2, m2, q1, q2, q3, q4, kP, hkP, hkPi⟩ := Cond.selects_spec hsel
  cases hcls.symm.trans q1
  cases (State.methodFound?_of_named hnamed hy).symm.trans q2
  cases hnamed.symm.trans q3
  have hselP : selectMethod e.platform s.vm cellB.cls mk = .method mk := by rw [Launch.admits_selectMethod X.admits]; exact q4
  obtain ⟨vm₁, X₁, hstep₁⟩ := X.invokevirtual hexec hown hlink hnamed hmethM hstM hkP hkPi hy (a := b) (cell := cellB) hcell
    (fun z h => by rw [h] at hobj; cases hobj) hselP hmethM habM hkP hkPi (g := g) hg (argsL := argsL) (rest := rest) (hlen _ hsigM) hstack hdg
  rcases hK m meth c ⟨T.setVm vm₁, locs, cells, slots⟩ { g with stack := rest } (.invokevirtual index) mk (Value.ref b :: argsL).toArray X₁ hg hsize hdg hW (X₁.named hnamed) (hpre vm₁ X₁.warmed) with ⟨v, B, X', hpost, hsteps⟩ | ⟨q, B, X', hpost, hsteps⟩
  · exact Or.inl ⟨v, vm₁, B, X₁.warmed, X', hpost, fun target h => hstep₁ _ fun acts => by rw [doInvoke_state]; exact hsteps.trans h⟩
  · exact Or.inr ⟨q, vm₁, B, X₁.warmed, X', hpost, hstep₁ _ fun acts => by rw [doInvoke_state]; exact hsteps⟩
theorem vx_callS (X : Stand p l e R s m args below meth c T locs cells slots) (hexec : p.tables.exec = Jvm.exec) {own : String} {index : Nat} {y : MethodName} {bytes : ByteArray} {maxL : Nat} {ret : Option FieldType}
    (hown : s.vm.findClass own = some m.cls) (hlink : (Cond.methodLink own index y).before args s = true) (hstat : (Cond.static y).before args s = true) (hinit : (Cond.initialized y.cls).before args s = true)
    (hcode : (Cond.code y bytes maxL ret).before args s = true) (hy : y.cls ≠ "java/lang/invoke/MethodHandle" ∧ y.cls ≠ "java/lang/invoke/VarHandle")
    {W9 : Nat} {Pre : Pt → Array Value → Prop} {Post : Pt → Array Value → Option Value → Pt → Prop} {PostX : Pt → Array Value → Addr → Pt → Prop} (hK : vx_Back l R p e below s args y 3 W9 Pre Post PostX)
    {g : JFrame} (hg : g.method = m) (hsize : g.locals.size = c.maxLocals) {argsL rest : List Value} (hlen : ∀ sig, parseMethodDescriptor y.desc = some sig → argsL.length = sig.parameters.length)
    (hstack : g.stack = argsL.reverse ++ rest) (hW : 2 * g.monitorRoom + (rest.map fun v => v.category).sum ≤ W9) (hdg : decode c.code g.pc = .ok (.invokestatic index, 3))
    (hpre : ∀ vm₁, s.WarmedH vm₁ → Pre ⟨T.setVm vm₁, locs, cells, slots⟩ argsL.toArray) :
    (∃ (v : Option Value) (vm₁ : Vm) (B : Pt), s.WarmedH vm₁ ∧ Stand p l e R s m args below meth c B.U B.locs B.cells B.slots ∧ Post ⟨T.setVm vm₁, locs, cells, slots⟩ argsL.toArray v B ∧
      ∀ target, Steps p.tables e below (B.U.setTop { g with pc := g.pc + 3, stack := v.toList ++ rest }) target → Steps p.tables e below (T.setTop g) target) ∨
    (∃ (q : Addr) (vm₁ : Vm) (B : Pt), s.WarmedH vm₁ ∧ Stand p l e R s m args below meth c B.U B.locs B.cells B.slots ∧ PostX ⟨T.setVm vm₁, locs, cells, slots⟩ argsL.toArray q B ∧
      Steps p.tables e below (T.setTop g) ((B.U.setTop { g with stack := rest }).pushFrame (.throwing q))) := by
  obtain ⟨mk, hnamed⟩ := Cond.code_named hcode
  obtain ⟨methM, cM, hmethM, -, -, -, -, -, -, hsigM⟩ := Cond.code_spec hnamed hcode
  have hstatic : methM.isStatic = true := Cond.static_spec hnamed hmethM hstat
  obtain ⟨kP, hkP, -⟩ := className_of_methodNamed hnamed
  have hinitP : kP.init = .initialized := Cond.initialized_spec (findClass_of_methodNamed hnamed) hkP hinit
  obtain ⟨vm₁, X₁, hstep₁⟩ := X.invokestatic hexec hown hlink hnamed hmethM hstatic hkP hinitP hy (g := g) hg (argsL := argsL) (rest := rest) (hlen _ hsigM) hstack hdg
  rcases hK m meth c ⟨T.setVm vm₁, locs, cells, slots⟩ { g with stack := rest } (.invokestatic index) mk argsL.toArray X₁ hg hsize hdg hW (X₁.named hnamed) (hpre vm₁ X₁.warmed) with ⟨v, B, X', hpost, hsteps⟩ | ⟨q, B, X', hpost, hsteps⟩
  · exact Or.inl ⟨v, vm₁, B, X₁.warmed, X', hpost, fun target h => hstep₁ _ fun acts => by rw [doInvoke_state]; exact hsteps.trans h⟩
  · exact Or.inr ⟨q, vm₁, B, X₁.warmed, X', hpost, hstep₁ _ fun acts => by rw [doInvoke_state]; exact hsteps⟩
end Calls
theorem vx_cls {s : State} {T : State} {vm₁ : Vm} {E : String} {k : ClassId} (hW : s.WarmedH vm₁) (h : (T.setVm vm₁).vm.findClass E = some k) : s.vm.findClass E = some k := by
  have h1 : vm₁.findClass E = some k := h
  rw [hW.alike.findClass] at h1
  exact h1
/-- the method's frame g, with q thrown over it -/
def vx_W (p : Program) (l : Launch) (e : Env) (R : Room) (s : State) (m : MethodId) (args : Array Value) (below : List Frame) (meth : Method) (c : Code) (H : Heap) (locs : List Loc) (cells slots : Nat) (Q : State → Prop) (g : JFrame) (q : Addr) : Prop :=
  ∀ T : State, T.heap = H → Stand p l e R s m args below meth c T locs cells slots → ∃ t, Steps p.tables e below ((T.setTop g).pushFrame (.throwing q)) t ∧ Q t
def vx_Run (p : Program) (l : Launch) (e : Env) (R : Room) (s : State) (m : MethodId) (args : Array Value) (below : List Frame) (meth : Method) (c : Code) (H : Heap) (locs : List Loc) (cells slots mc ms : Nat) (g : JFrame) (rest : List Value) (Qa : State → Outcome → State → Prop) (XC : String → State → State → Prop) (free : Addr → Prop) : Prop :=
  ∀ T : State, T.heap = H → Stand p l e R s m args below meth c T locs cells slots →
    (∃ (v : Option Value) (st₀ t T' : State) (L : List Loc), st₀.heap = H ∧ Stand p l e R s m args below meth c T' (locs ++ L) (cells + mc) (slots + ms) ∧ (∀ q ∈ L, free q.base) ∧ T'.heap = t.heap ∧ T'.vm = t.vm ∧ Qa st₀ (.returned v) t ∧
      Goes p e below T g T' { g with pc := g.pc + 3, stack := v.toList ++ rest }) ∨
    (∃ (q : Addr) (st₀ t T' : State) (L : List Loc) (E : String) (ce : Cell), st₀.heap = H ∧ Stand p l e R s m args below meth c T' (locs ++ L) (cells + mc) (slots + ms) ∧ (∀ z ∈ L, free z.base) ∧ T'.heap = t.heap ∧ T'.vm = t.vm ∧ XC E st₀ t ∧ t.heap[q]? = some ce ∧ ce.vm = .none ∧ s.vm.findClass E = some ce.cls ∧
      Steps p.tables e below (T.setTop g) ((T'.setTop { g with stack := rest }).pushFrame (.throwing q)))
def vx_X {S : Type} (px : S → Prop) (B : String → S → State → Prop) (A : Nat → Prop) : String → State → State → Prop := fun E st t => ∃ u : S, px u ∧ B E u t ∧ va_F A st t
section Runs
variable {p : Program} {l : Launch} {e : Env} {R : Room} {s : State} {m : MethodId} {args : Array Value} {below : List Frame} {meth : Method} {c : Code} {H : Heap} {locs : List Loc} {cells slots : Nat}
variable {y : MethodName} {bytes cc : ByteArray} {maxL nL mc ms n index : Nat} {ret : Option FieldType} {ws : List Cond} {rm : Room} {Pc : Array Value → State → Prop} {Qc : Array Value → State → Outcome → State → Prop} {XC : String → State → State → Prop} {free : Addr → Prop} {Ts : List Cond} {own C : String} {b : Addr} {As rest : List Value} {g : JFrame}
theorem vx_callBack (cb : CallB R s args own index y bytes maxL ret ws rm mc ms n) (hM : vx_Met l y ws rm Pc Qc XC mc ms free) (hbl : FrameBlind Pc) : vx_Back l R p e below s args y 3 8 (PreOf R mc ms Pc) (PostOf Qc mc ms free) (vx_Post XC mc ms free) := by
  obtain ⟨hrc, hrs, hfr, hlo, hws, hcw, -, hini, -⟩ := cb
  exact vx_back (bytes := bytes) (maxL := maxL) (ret := ret) hM hbl hrc hrs hfr hlo hws hcw (fun a' U hW => word_at hW (Or.inl (by first | rfl | simp [Cond.onTables, Cond.keeps, Cond.steady])) hini)
theorem vx_runV (S : CallFix p m c cc nL s args Ts own) (hM : vx_Met l y ws rm Pc Qc XC mc ms free) (cw : CallW R s args own C index y bytes maxL ret ws rm mc ms n) (hp : PreV s H C b Pc As)
    (hg : g.method = m) (hn : As.length = n) (hsize : g.locals.size = nL) (hstack : g.stack = As.reverse ++ .ref b :: rest) (hW : 2 * g.monitorRoom + (rest.map fun v => v.category).sum ≤ 8) (hdg : decode cc g.pc = .ok (.invokevirtual index, 3)) (hf : cells + mc ≤ R.cells ∧ slots + ms ≤ R.slots) :
    vx_Run p l e R s m args below meth c H locs cells slots mc ms g rest (Qc (Value.ref b :: As).toArray) XC free := by
  have hK : vx_Back l R p e below s args y 3 8 (PreOf R mc ms Pc) (PostOf Qc mc ms free) (vx_Post XC mc ms free) := vx_callBack cw.1 hM hp.1
  obtain ⟨⟨-, -, -, -, -, -, hcode, -, hy, hlen, hl⟩, hin, hse⟩ := cw
  obtain ⟨hx, hb, hml, ho, -⟩ := S
  obtain ⟨-, ⟨cellB, hcB, hoB, hclB⟩, hPc⟩ := hp
  intro T hT X
  rcases vx_callV X hx (C := C) (bytes := bytes) (maxL := maxL) (ret := ret) ho hl hin hse hcode hy hK (by rw [hT]; exact hcB) hoB hclB hg (hsize.trans hml.symm) (argsL := As) (rest := rest) (fun sig h => hn.trans (hlen sig h)) hstack hW (by rw [hb]; exact hdg)
    (fun vm₁ hW₁ => ⟨hf.1, hf.2, hPc (T.setVm vm₁) hT hW₁⟩) with ⟨v, vm₁, ⟨U', l2, c2, s2⟩, hW₁, X', ⟨g', mk, t, L, e1, e2, hq, h1, hL, h2, h3⟩, st⟩ | ⟨q, vm₁, ⟨U', l2, c2, s2⟩, hW₁, X', ⟨g', mk, t, L, E, ce, e1, e2, hq, hce, hcv, hcl, h1, hL, h2, h3⟩, st⟩
  · dsimp only [Pt.U, Pt.locs, Pt.cells, Pt.slots] at X' e1 e2 h1 h2 h3 st
    subst h1; subst h2; subst h3
    exact Or.inl ⟨v, (T.setVm vm₁).calling g' mk (Value.ref b :: As).toArray, t, U', L, hT, X', hL, e1, e2, hq, st⟩
  · dsimp only [Pt.U, Pt.locs, Pt.cells, Pt.slots] at X' e1 e2 h1 h2 h3 st hcl
    subst h1; subst h2; subst h3
    exact Or.inr ⟨q, (T.setVm vm₁).calling g' mk (Value.ref b :: As).toArray, t, U', L, E, ce, hT, X', hL, e1, e2, hq, hce, hcv, vx_cls hW₁ hcl, st⟩
theorem vx_runS (S : CallFix p m c cc nL s args Ts own) (hM : vx_Met l y ws rm Pc Qc XC mc ms free) (cw : CallB R s args own index y bytes maxL ret ws rm mc ms n ∧ (Cond.static y).before args s = true) (hp : PreS s H Pc As)
    (hg : g.method = m) (hn : As.length = n) (hsize : g.locals.size = nL) (hstack : g.stack = As.reverse ++ rest) (hW : 2 * g.monitorRoom + (rest.map fun v => v.category).sum ≤ 8) (hdg : decode cc g.pc = .ok (.invokestatic index, 3)) (hf : cells + mc ≤ R.cells ∧ slots + ms ≤ R.slots) :
    vx_Run p l e R s m args below meth c H locs cells slots mc ms g rest (Qc As.toArray) XC free := by
  have hK : vx_Back l R p e below s args y 3 8 (PreOf R mc ms Pc) (PostOf Qc mc ms free) (vx_Post XC mc ms free) := vx_callBack cw.1 hM hp.1
  obtain ⟨⟨-, -, -, -, -, -, hcode, hini, hy, hlen, hl⟩, hstt⟩ := cw
  obtain ⟨hx, hb, hml, ho, -⟩ := S
  intro T hT X
  rcases vx_callS X hx (bytes := bytes) (maxL := maxL) (ret := ret) ho hl hstt hini hcode hy hK hg (hsize.trans hml.symm) (argsL := As) (rest := rest) (fun sig h => hn.trans (hlen sig h)) hstack hW (by rw [hb]; exact hdg)
    (fun vm₁ hW₁ => ⟨hf.1, hf.2, hp.2 (T.setVm vm₁) hT hW₁⟩) with ⟨v, vm₁, ⟨U', l2, c2, s2⟩, hW₁, X', ⟨g', mk, t, L, e1, e2, hq, h1, hL, h2, h3⟩, st⟩ | ⟨q, vm₁, ⟨U', l2, c2, s2⟩, hW₁, X', ⟨g', mk, t, L, E, ce, e1, e2, hq, hce, hcv, hcl, h1, hL, h2, h3⟩, st⟩
  · dsimp only [Pt.U, Pt.locs, Pt.cells, Pt.slots] at X' e1 e2 h1 h2 h3 st
    subst h1; subst h2; subst h3
    exact Or.inl ⟨v, (T.setVm vm₁).calling g' mk As.toArray, t, U', L, hT, X', hL, e1, e2, hq, st⟩
  · dsimp only [Pt.U, Pt.locs, Pt.cells, Pt.slots] at X' e1 e2 h1 h2 h3 st hcl
    subst h1; subst h2; subst h3
    exact Or.inr ⟨q, (T.setVm vm₁).calling g' mk As.toArray, t, U', L, E, ce, hT, X', hL, e1, e2, hq, hce, hcv, vx_cls hW₁ hcl, st⟩
end Runs
section Rows
variable {p : Program} {l : Launch} {e : Env} {R : Room} {s : State} {m : MethodId} {args : Array Value} {below : List Frame} {meth : Method} {c : Code} {H : Heap} {locs : List Loc} {cells slots : Nat} {Q : State → Prop}
variable {mc ms : Nat} {free : Addr → Prop} {A0 A1 : Nat → Prop} {H0 : Heap} {a : Array Value} {pc : Nat} {ls : Array Slot} {st0 rest : List Value}
theorem vx_keep {st₀ t T' : State} {L : List Loc} (h0 : st₀.heap = H) (e1 : T'.heap = t.heap) (hS : va_S A0 H0 H locs) (hA : ∀ q, q < H.size → A1 q → A0 q) (hf : ∀ q, free q → A0 q) (hL : ∀ q ∈ L, free q.base) (hF : va_F A1 st₀ t) :
    H.size ≤ T'.heap.size ∧ (∀ q : Nat, q < H.size → ¬ A1 q → T'.heap[q]? = H[q]?) ∧ va_S A0 H0 T'.heap (locs ++ L) := by
  obtain ⟨hz, hk⟩ := hF
  rw [h0] at hz hk
  exact ⟨by rw [e1]; exact hz, fun q h1 h2 => by rw [e1]; exact hk q h1 h2,
    ⟨Nat.le_trans hS.1 (by rw [e1]; exact hz), fun q h1 h2 => by rw [e1, hk q (Nat.lt_of_lt_of_le h1 hS.1) (fun z => h2 (hA q (Nat.lt_of_lt_of_le h1 hS.1) z))]; exact hS.2.1 q h1 h2, fun q hq => by
      rcases List.mem_append.mp hq with h | h
      · exact hS.2.2 q h
      · exact hf _ (hL q h)⟩⟩
theorem vx_calli {S SX : Type} {post : Int32 → S → Prop} {px : SX → Prop} {B : S → State → Prop} {BX : String → SX → State → Prop} {AX : Nat → Prop} (hr : vx_Run p l e R s m args below meth c H locs cells slots mc ms (F0 m pc ls st0) rest (va_Qi post B A1 a) (vx_X px BX AX) free) (hS : va_S A0 H0 H locs) (hA : ∀ q, q < H.size → A1 q → A0 q) (hf : ∀ q, free q → A0 q) (hAX : ∀ q, q < H.size → AX q → A0 q)
    (kx : ∀ (E : String) (ce : Cell) (q9 : Addr) (u : SX) (t : State) (H1 : Heap) (locs1 : List Loc), t.heap = H1 → s.vm.Alike t.vm → px u → BX E u t → H.size ≤ H1.size → (∀ q : Nat, q < H.size → ¬ AX q → H1[q]? = H[q]?) → va_S A0 H0 H1 locs1 → H1[q9]? = some ce → ce.vm = .none → s.vm.findClass E = some ce.cls → vx_W p l e R s m args below meth c H1 locs1 (cells + mc) (slots + ms) Q (F0 m pc ls rest) q9)
    (kk : ∀ (r : Int32) (u : S) (t : State) (H1 : Heap) (locs1 : List Loc), t.heap = H1 → s.vm.Alike t.vm → post r u → B u t → H.size ≤ H1.size → (∀ q : Nat, q < H.size → ¬ A1 q → H1[q]? = H[q]?) → va_S A0 H0 H1 locs1 → W p l e R s m args below meth c H1 locs1 (cells + mc) (slots + ms) Q (F0 m (pc + 3) ls (.int r :: rest))) : W p l e R s m args below meth c H locs cells slots Q (F0 m pc ls st0) := by
  intro T hT X
  rcases hr T hT X with ⟨v, st₀, t, T', L, h0, X', hL, e1, e2, ⟨⟨r, u, hv, hp, hb⟩, hF⟩, st⟩ | ⟨q, st₀, t, T', L, E, ce, h0, X', hL, e1, e2, ⟨u, hp, hb, hF⟩, hce, hcv, hcl, st⟩
  · cases hv
    obtain ⟨k1, k2, k3⟩ := vx_keep h0 e1 hS hA hf hL hF
    obtain ⟨t2, a1, b1⟩ := kk r u t T'.heap (locs ++ L) e1.symm (by rw [← e2]; exact X'.warmed.alike) hp hb k1 k2 k3 T' rfl X'
    exact ⟨t2, st t2 a1, b1⟩
  · obtain ⟨k1, k2, k3⟩ := vx_keep h0 e1 hS hAX hf hL hF
    obtain ⟨t2, a1, b1⟩ := kx E ce q u t T'.heap (locs ++ L) e1.symm (by rw [← e2]; exact X'.warmed.alike) hp hb k1 k2 k3 (by rw [e1]; exact hce) hcv hcl T' rfl X'
    exact ⟨t2, st.trans a1, b1⟩
theorem vx_calll {S SX : Type} {post : Int64 → S → Prop} {px : SX → Prop} {B : S → State → Prop} {BX : String → SX → State → Prop} {AX : Nat → Prop} (hr : vx_Run p l e R s m args below meth c H locs cells slots mc ms (F0 m pc ls st0) rest (va_Ql post B A1 a) (vx_X px BX AX) free) (hS : va_S A0 H0 H locs) (hA : ∀ q, q < H.size → A1 q → A0 q) (hf : ∀ q, free q → A0 q) (hAX : ∀ q, q < H.size → AX q → A0 q)
    (kx : ∀ (E : String) (ce : Cell) (q9 : Addr) (u : SX) (t : State) (H1 : Heap) (locs1 : List Loc), t.heap = H1 → s.vm.Alike t.vm → px u → BX E u t → H.size ≤ H1.size → (∀ q : Nat, q < H.size → ¬ AX q → H1[q]? = H[q]?) → va_S A0 H0 H1 locs1 → H1[q9]? = some ce → ce.vm = .none → s.vm.findClass E = some ce.cls → vx_W p l e R s m args below meth c H1 locs1 (cells + mc) (slots + ms) Q (F0 m pc ls rest) q9)
    (kk : ∀ (r : Int64) (u : S) (t : State) (H1 : Heap) (locs1 : List Loc), t.heap = H1 → s.vm.Alike t.vm → post r u → B u t → H.size ≤ H1.size → (∀ q : Nat, q < H.size → ¬ A1 q → H1[q]? = H[q]?) → va_S A0 H0 H1 locs1 → W p l e R s m args below meth c H1 locs1 (cells + mc) (slots + ms) Q (F0 m (pc + 3) ls (.long r :: rest))) : W p l e R s m args below meth c H locs cells slots Q (F0 m pc ls st0) := by
  intro T hT X
  rcases hr T hT X with ⟨v, st₀, t, T', L, h0, X', hL, e1, e2, ⟨⟨r, u, hv, hp, hb⟩, hF⟩, st⟩ | ⟨q, st₀, t, T', L, E, ce, h0, X', hL, e1, e2, ⟨u, hp, hb, hF⟩, hce, hcv, hcl, st⟩
  · cases hv
    obtain ⟨k1, k2, k3⟩ := vx_keep h0 e1 hS hA hf hL hF
    obtain ⟨t2, a1, b1⟩ := kk r u t T'.heap (locs ++ L) e1.symm (by rw [← e2]; exact X'.warmed.alike) hp hb k1 k2 k3 T' rfl X'
    exact ⟨t2, st t2 a1, b1⟩
  · obtain ⟨k1, k2, k3⟩ := vx_keep h0 e1 hS hAX hf hL hF
    obtain ⟨t2, a1, b1⟩ := kx E ce q u t T'.heap (locs ++ L) e1.symm (by rw [← e2]; exact X'.warmed.alike) hp hb k1 k2 k3 (by rw [e1]; exact hce) hcv hcl T' rfl X'
    exact ⟨t2, st.trans a1, b1⟩
theorem vx_callf {S SX : Type} {post : UInt32 → S → Prop} {px : SX → Prop} {B : S → State → Prop} {BX : String → SX → State → Prop} {AX : Nat → Prop} (hr : vx_Run p l e R s m args below meth c H locs cells slots mc ms (F0 m pc ls st0) rest (va_Qf post B A1 a) (vx_X px BX AX) free) (hS : va_S A0 H0 H locs) (hA : ∀ q, q < H.size → A1 q → A0 q) (hf : ∀ q, free q → A0 q) (hAX : ∀ q, q < H.size → AX q → A0 q)
    (kx : ∀ (E : String) (ce : Cell) (q9 : Addr) (u : SX) (t : State) (H1 : Heap) (locs1 : List Loc), t.heap = H1 → s.vm.Alike t.vm → px u → BX E u t → H.size ≤ H1.size → (∀ q : Nat, q < H.size → ¬ AX q → H1[q]? = H[q]?) → va_S A0 H0 H1 locs1 → H1[q9]? = some ce → ce.vm = .none → s.vm.findClass E = some ce.cls → vx_W p l e R s m args below meth c H1 locs1 (cells + mc) (slots + ms) Q (F0 m pc ls rest) q9)
    (kk : ∀ (r : UInt32) (u : S) (t : State) (H1 : Heap) (locs1 : List Loc), t.heap = H1 → s.vm.Alike t.vm → post r u → B u t → H.size ≤ H1.size → (∀ q : Nat, q < H.size → ¬ A1 q → H1[q]? = H[q]?) → va_S A0 H0 H1 locs1 → W p l e R s m args below meth c H1 locs1 (cells + mc) (slots + ms) Q (F0 m (pc + 3) ls (.float r :: rest))) : W p l e R s m args below meth c H locs cells slots Q (F0 m pc ls st0) := by
  intro T hT X
  rcases hr T hT X with ⟨v, st₀, t, T', L, h0, X', hL, e1, e2, ⟨⟨r, u, hv, hp, hb⟩, hF⟩, st⟩ | ⟨q, st₀, t, T', L, E, ce, h0, X', hL, e1, e2, ⟨u, hp, hb, hF⟩, hce, hcv, hcl, st⟩
  · cases hv
    obtain ⟨k1, k2, k3⟩ := vx_keep h0 e1 hS hA hf hL hF
    obtain ⟨t2, a1, b1⟩ := kk r u t T'.heap (locs ++ L) e1.symm (by rw [← e2]; exact X'.warmed.alike) hp hb k1 k2 k3 T' rfl X'
    exact ⟨t2, st t2 a1, b1⟩
  · obtain ⟨k1, k2, k3⟩ := vx_keep h0 e1 hS hAX hf hL hF
    obtain ⟨t2, a1, b1⟩ := kx E ce q u t T'.heap (locs ++ L) e1.symm (by rw [← e2]; exact X'.warmed.alike) hp hb k1 k2 k3 (by rw [e1]; exact hce) hcv hcl T' rfl X'
    exact ⟨t2, st.trans a1, b1⟩
theorem vx_calld {S SX : Type} {post : UInt64 → S → Prop} {px : SX → Prop} {B : S → State → Prop} {BX : String → SX → State → Prop} {AX : Nat → Prop} (hr : vx_Run p l e R s m args below meth c H locs cells slots mc ms (F0 m pc ls st0) rest (va_Qd post B A1 a) (vx_X px BX AX) free) (hS : va_S A0 H0 H locs) (hA : ∀ q, q < H.size → A1 q → A0 q) (hf : ∀ q, free q → A0 q) (hAX : ∀ q, q < H.size → AX q → A0 q)
    (kx : ∀ (E : String) (ce : Cell) (q9 : Addr) (u : SX) (t : State) (H1 : Heap) (locs1 : List Loc), t.heap = H1 → s.vm.Alike t.vm → px u → BX E u t → H.size ≤ H1.size → (∀ q : Nat, q < H.size → ¬ AX q → H1[q]? = H[q]?) → va_S A0 H0 H1 locs1 → H1[q9]? = some ce → ce.vm = .none → s.vm.findClass E = some ce.cls → vx_W p l e R s m args below meth c H1 locs1 (cells + mc) (slots + ms) Q (F0 m pc ls rest) q9)
    (kk : ∀ (r : UInt64) (u : S) (t : State) (H1 : Heap) (locs1 : List Loc), t.heap = H1 → s.vm.Alike t.vm → post r u → B u t → H.size ≤ H1.size → (∀ q : Nat, q < H.size → ¬ A1 q → H1[q]? = H[q]?) → va_S A0 H0 H1 locs1 → W p l e R s m args below meth c H1 locs1 (cells + mc) (slots + ms) Q (F0 m (pc + 3) ls (.double r :: rest))) : W p l e R s m args below meth c H locs cells slots Q (F0 m pc ls st0) := by
  intro T hT X
  rcases hr T hT X with ⟨v, st₀, t, T', L, h0, X', hL, e1, e2, ⟨⟨r, u, hv, hp, hb⟩, hF⟩, st⟩ | ⟨q, st₀, t, T', L, E, ce, h0, X', hL, e1, e2, ⟨u, hp, hb, hF⟩, hce, hcv, hcl, st⟩
  · cases hv
    obtain ⟨k1, k2, k3⟩ := vx_keep h0 e1 hS hA hf hL hF
    obtain ⟨t2, a1, b1⟩ := kk r u t T'.heap (locs ++ L) e1.symm (by rw [← e2]; exact X'.warmed.alike) hp hb k1 k2 k3 T' rfl X'
    exact ⟨t2, st t2 a1, b1⟩
  · obtain ⟨k1, k2, k3⟩ := vx_keep h0 e1 hS hAX hf hL hF
    obtain ⟨t2, a1, b1⟩ := kx E ce q u t T'.heap (locs ++ L) e1.symm (by rw [← e2]; exact X'.warmed.alike) hp hb k1 k2 k3 (by rw [e1]; exact hce) hcv hcl T' rfl X'
    exact ⟨t2, st.trans a1, b1⟩
theorem vx_callv {S SX : Type} {post : S → Prop} {px : SX → Prop} {B : S → State → Prop} {BX : String → SX → State → Prop} {AX : Nat → Prop} (hr : vx_Run p l e R s m args below meth c H locs cells slots mc ms (F0 m pc ls st0) rest (va_Qv post B A1 a) (vx_X px BX AX) free) (hS : va_S A0 H0 H locs) (hA : ∀ q, q < H.size → A1 q → A0 q) (hf : ∀ q, free q → A0 q) (hAX : ∀ q, q < H.size → AX q → A0 q)
    (kx : ∀ (E : String) (ce : Cell) (q9 : Addr) (u : SX) (t : State) (H1 : Heap) (locs1 : List Loc), t.heap = H1 → s.vm.Alike t.vm → px u → BX E u t → H.size ≤ H1.size → (∀ q : Nat, q < H.size → ¬ AX q → H1[q]? = H[q]?) → va_S A0 H0 H1 locs1 → H1[q9]? = some ce → ce.vm = .none → s.vm.findClass E = some ce.cls → vx_W p l e R s m args below meth c H1 locs1 (cells + mc) (slots + ms) Q (F0 m pc ls rest) q9)
    (kk : ∀ (u : S) (t : State) (H1 : Heap) (locs1 : List Loc), t.heap = H1 → s.vm.Alike t.vm → post u → B u t → H.size ≤ H1.size → (∀ q : Nat, q < H.size → ¬ A1 q → H1[q]? = H[q]?) → va_S A0 H0 H1 locs1 → W p l e R s m args below meth c H1 locs1 (cells + mc) (slots + ms) Q (F0 m (pc + 3) ls (rest))) : W p l e R s m args below meth c H locs cells slots Q (F0 m pc ls st0) := by
  intro T hT X
  rcases hr T hT X with ⟨v, st₀, t, T', L, h0, X', hL, e1, e2, ⟨⟨u, hv, hp, hb⟩, hF⟩, st⟩ | ⟨q, st₀, t, T', L, E, ce, h0, X', hL, e1, e2, ⟨u, hp, hb, hF⟩, hce, hcv, hcl, st⟩
  · cases hv
    obtain ⟨k1, k2, k3⟩ := vx_keep h0 e1 hS hA hf hL hF
    obtain ⟨t2, a1, b1⟩ := kk u t T'.heap (locs ++ L) e1.symm (by rw [← e2]; exact X'.warmed.alike) hp hb k1 k2 k3 T' rfl X'
    exact ⟨t2, st t2 a1, b1⟩
  · obtain ⟨k1, k2, k3⟩ := vx_keep h0 e1 hS hAX hf hL hF
    obtain ⟨t2, a1, b1⟩ := kx E ce q u t T'.heap (locs ++ L) e1.symm (by rw [← e2]; exact X'.warmed.alike) hp hb k1 k2 k3 (by rw [e1]; exact hce) hcv hcl T' rfl X'
    exact ⟨t2, st.trans a1, b1⟩
/-- caught by the row x of this method's table; the rows ahead don't take it -/
theorem vx_catch {own name : String} {E : String} {ce : Cell} {q : Addr} (hown : s.vm.findClass own = some m.cls) (pre : List ExceptionTableEntry) (x : ExceptionTableEntry) (suf : List ExceptionTableEntry) (hsplit : c.exceptionTable.toList = pre ++ x :: suf)
    (hpass : ∀ z ∈ pre, covers z pc = false ∨ (z.catchType ≠ 0 ∧ ∃ nm : String, (Cond.classLink own z.catchType nm).before args s = true ∧ va_Nc E nm s)) (hx : covers x pc = true) (h0 : x.catchType ≠ 0)
    (hlink : (Cond.classLink own x.catchType name).before args s = true) (hcast : (Cond.castable E name).before args s = true) (hcell : H[q]? = some ce) (hv : ce.vm = .none) (hcl : s.vm.findClass E = some ce.cls)
    (kk : W p l e R s m args below meth c H locs cells slots Q (F0 m x.handlerPc ls [.ref q])) : vx_W p l e R s m args below meth c H locs cells slots Q (F0 m pc ls rest) q := by
  intro T hT X
  have hpl : e.platform.magicAccessors = ({} : Platform).magicAccessors := by rw [X.admits.platform]
  obtain ⟨c3, c4, hc3, hc4, hasg⟩ := Cond.castable_spec hcast
  cases Option.some.inj (hc3.symm.trans hcl)
  obtain ⟨c5, hc5, hcl5⟩ := Cond.classLink_spec hown hlink e.platform hpl
  cases Option.some.inj (hc4.symm.trans hc5)
  obtain ⟨vm', X', st⟩ := X.thenCaughtThrough q (g := F0 m pc ls rest) rfl (Steps.refl _) (by rw [hT]; exact hcell) (by rw [hv]; rfl) (by obtain ⟨k9, h9, -⟩ := Vm.findClass_spec hcl; exact ⟨k9, h9⟩) pre x suf hsplit
    (fun z hz => by
      rcases hpass z hz with h | ⟨hz0, nm, hl1, hn1⟩
      · exact Or.inl h
      · obtain ⟨c6, hc6, hcl6⟩ := Cond.classLink_spec hown hl1 e.platform hpl
        obtain ⟨a8, b8, h1, h2, h3⟩ := hn1
        cases Option.some.inj (h1.symm.trans hcl)
        cases Option.some.inj (h2.symm.trans hc6)
        exact Or.inr ⟨hz0, _, hcl6, h3⟩) hx (Or.inr ⟨h0, c4, hcl5, hasg⟩)
  obtain ⟨t, a1, b1⟩ := kk (T.setVm vm') hT X'
  exact ⟨t, st.trans a1, b1⟩
end Rows
section Ends
variable {p : Program} {l : Launch} {e : Env} {R : Room} {s : State} {m : MethodId} {args : Array Value} {below : List Frame} {meth : Method} {c : Code} {H : Heap} {locs : List Loc} {cells slots : Nat} {Q : State → Prop}
variable {mc ms : Nat} {free : Addr → Prop} {A0 A1 : Nat → Prop} {H0 : Heap} {a : Array Value} {ls : Array Slot} {st0 rest : List Value}
variable {Qc : Array Value → State → Outcome → State → Prop} {XC : String → State → State → Prop}
/-- what a body that may throw owes at its end -/
def vx_MQ (below : List Frame) (Qc : Array Value → State → Outcome → State → Prop) (XC : String → State → State → Prop) (a : Array Value) (s : State) (mc ms : Nat) (free : Addr → Prop) : State → Prop := fun t =>
  ∃ o, t.status = .running ∧ Ended t below o ∧ vx_Q Qc XC mc ms free a s o t
theorem vx_ret {g : JFrame} {mc ms : Nat} (k : W p l e R s m args below meth c H locs cells slots (MQ below Qc args s mc ms free) g) : W p l e R s m args below meth c H locs cells slots (vx_MQ below Qc XC args s mc ms free) g := by
  intro T hT X
  obtain ⟨t, a1, o, b1, b2, b3, b4⟩ := k T hT X
  exact ⟨t, a1, o, b1, b2, Or.inl ⟨b3, b4⟩⟩
/-- not caught here: it goes on to the caller -/
theorem vx_widen {g : JFrame} {q : Addr} {k n : Nat} (h1 : cells ≤ k) (h2 : slots ≤ n) (kk : vx_W p l e R s m args below meth c H locs k n Q g q) : vx_W p l e R s m args below meth c H locs cells slots Q g q := fun T hT X => kk T hT (stand_widen X h1 h2)
theorem vx_out {pc : Nat} {E : String} {ce : Cell} {q : Addr} {mc ms : Nat} (hout : ∀ x ∈ c.exceptionTable.toList, covers x pc = false) (hlocks : meth.locks = false) (hcell : H[q]? = some ce) (hv : ce.vm = .none) (hcl : s.vm.findClass E = some ce.cls)
    (hx : ∀ t : State, t.heap = H → s.vm.Alike t.vm → XC E s t) (hf : ∀ z ∈ locs, free z.base) (hc : cells ≤ mc) (hs : slots ≤ ms) :
    vx_W p l e R s m args below meth c H locs cells slots (vx_MQ below Qc XC args s mc ms free) (F0 m pc ls rest) q := by
  intro T hT X
  obtain ⟨st1, hrun, hend, hW, hsm⟩ := X.leaveThrown q (g := F0 m pc ls rest) rfl rfl rfl hout hlocks
  have hcell9 : (T.setFrames (.throwing q :: below)).heap[q]? = some ce := by
    show T.heap[q]? = some ce
    rw [hT]; exact hcell
  exact ⟨_, st1, .threw q, hrun, hend, Or.inr ⟨q, rfl, E, ce, locs, hx _ hT hW.alike, hcell9, hv, hcl, hW, hsm.mono hc hs, hf⟩⟩
theorem vx_frame {U : State} {k n : Nat} (h : s.sameButNew ({ U with vm := s.vm } : State) locs k n) : s.heap.size ≤ U.heap.size ∧ ∀ q : Nat, q < s.heap.size → (∀ z ∈ locs, z.base ≠ q) → U.heap[q]? = s.heap[q]? := by
  obtain ⟨-, h2, -, -, -, h6⟩ := h
  refine ⟨h2, fun q hq hz => ?_⟩
  obtain ⟨c9, e1, e2, e3, e4⟩ := h6 q _ (Array.getElem?_eq_getElem hq)
  have hs : c9.slots = (s.heap[q]).slots := Array.ext_getElem? fun i => e4 i fun hm => hz _ hm rfl
  have h9 : c9 = s.heap[q] := by
    rw [hs] at e2
    exact e2
  have e5 : U.heap[q]? = some c9 := e1
  rw [e5, h9, Array.getElem?_eq_getElem hq]
/-- the words of a throw but the four that speak of the heap -/
def vx_no (w : Cond) : Bool := decide (w ≠ .isRef (.static Bundle.tN "UNASSIGNED_STACK" Bundle.steD)) && decide (w ≠ .isRef (.static Bundle.tN "SUPPRESSED_SENTINEL" Bundle.listD)) && decide (w ≠ .laysStatic Bundle.tN "UNASSIGNED_STACK" Bundle.steD) && decide (w ≠ .laysStatic Bundle.tN "SUPPRESSED_SENTINEL" Bundle.listD)
def vx_at0 (own : String) (ic : Nat) (X : String) (names : List String) : List Cond := (Bundle.ownAtoms0 own ic X names).filter vx_no
def vx_atS (own : String) (ic : Nat) (X : String) (names : List String) : List Cond := (Bundle.ownAtoms own ic X names).filter vx_no
/-- a word that the tables alone decide, or a good one -/
def vx_ot (w : Cond) : Bool := w.onTables || goodWord w
theorem vx_ot_at {args a' : Array Value} {s U : State} {w : Cond} (hW : s.WarmedH U.vm) (hvm : s.vm = U.vm) (hg : vx_ot w = true) (h : w.before args s = true) : w.before a' U = true := by
  simp only [vx_ot, Bool.or_eq_true] at hg
  rcases hg with hg | hg
  · exact va_tabs hg hvm h
  · exact word_at hW (good_of_word hg) h
/-- a list's words: the good ones out of the method's own list, the others by premises of their own -/
theorem vx_hat {args : Array Value} {s : State} {L B : List Cond} (h1 : ∀ w ∈ L.filter goodWord, w.before args s = true) (h2 : ∀ w ∈ L.filter (fun w => !goodWord w), w ∈ B) (h3 : ∀ w ∈ B, w.before args s = true) : ∀ w ∈ L, w.before args s = true := by
  intro w hw
  by_cases g : goodWord w = true
  · exact h1 w (List.mem_filter.mpr ⟨hw, g⟩)
  · refine h3 w (h2 w (List.mem_filter.mpr ⟨hw, ?_⟩))
    show (!goodWord w) = true
    cases hgw : goodWord w
    · rfl
    · exact absurd hgw g
theorem vx_c {args : Array Value} {s : State} {w : Cond} {B : List Cond} (h : w.before args s = true) (t : ∀ w ∈ B, w.before args s = true) : ∀ w' ∈ w :: B, w'.before args s = true := fun w' h' => (List.mem_cons.mp h').elim (fun e => by rw [e]; exact h) (t w')
theorem vx_n {args : Array Value} {s : State} : ∀ w ∈ ([] : List Cond), w.before args s = true := fun _ h => nomatch h
theorem vx_own {args : Array Value} {s : State} {L : List Cond} (h1 : ∀ w ∈ L.filter vx_no, w.before args s = true)
    (hU : (Cond.isRef (.static Bundle.tN "UNASSIGNED_STACK" Bundle.steD)).before args s = true) (hN : (Cond.isRef (.static Bundle.tN "SUPPRESSED_SENTINEL" Bundle.listD)).before args s = true)
    (lU : (Cond.laysStatic Bundle.tN "UNASSIGNED_STACK" Bundle.steD).before args s = true) (lN : (Cond.laysStatic Bundle.tN "SUPPRESSED_SENTINEL" Bundle.listD).before args s = true) : ∀ w ∈ L, w.before args s = true := by
  intro w hw
  by_cases e1 : w = .isRef (.static Bundle.tN "UNASSIGNED_STACK" Bundle.steD)
  · rw [e1]; exact hU
  · by_cases e2 : w = .isRef (.static Bundle.tN "SUPPRESSED_SENTINEL" Bundle.listD)
    · rw [e2]; exact hN
    · by_cases e3 : w = .laysStatic Bundle.tN "UNASSIGNED_STACK" Bundle.steD
      · rw [e3]; exact lU
      · by_cases e4 : w = .laysStatic Bundle.tN "SUPPRESSED_SENTINEL" Bundle.listD
        · rw [e4]; exact lN
        · exact h1 w (List.mem_filter.mpr ⟨hw, by unfold vx_no; rw [decide_eq_true e1, decide_eq_true e2, decide_eq_true e3, decide_eq_true e4]; rfl⟩)
/-- where a static field lies, its class's statics cell in H -/
def vx_L (C n d : String) (A : Nat → Prop) (U : State) (H : Heap) : Prop := ∃ (c : ClassId) (k : Class) (i : Nat) (f : Field) (a : Nat) (cell : Cell), U.vm.findClass C = some c ∧ U.fieldFound? C n d = some (c, k, i, f) ∧ f.isStatic = true ∧ k.statics = some a ∧ H[a]? = some cell ∧ cell.vm.isStatics = true ∧ cell.cls = c ∧ f.slot < cell.slots.size ∧ k.staticTypes[f.slot]? = some f.type ∧ ¬ A a
theorem vx_L.moved {C n d : String} {A : Nat → Prop} {u U : State} {H : Heap} (hvm : u.vm.Alike U.vm) (h : vx_L C n d A u H) : vx_L C n d A U H := by
  obtain ⟨c, k, i, f, a, cell, h1, h2, h3, h4, h5, h6, h7, h8, h9, h10⟩ := h
  obtain ⟨k', hi', he⟩ := State.fieldFound?_setVm hvm h2
  exact ⟨c, k', i, f, a, cell, by rw [hvm.findClass]; exact h1, hi', h3, by rw [he]; exact h4, h5, h6, h7, h8, by rw [he]; exact h9, h10⟩
theorem vx_L.kept {C n d : String} {A : Nat → Prop} {U : State} {H H1 : Heap} (h : vx_L C n d A U H) (hq : ∀ a : Nat, a < H.size → ¬ A a → H1[a]? = H[a]?) : vx_L C n d A U H1 := by
  obtain ⟨c, k, i, f, a, cell, h1, h2, h3, h4, h5, h6, h7, h8, h9, h10⟩ := h
  exact ⟨c, k, i, f, a, cell, h1, h2, h3, h4, by rw [hq a (Array.getElem?_eq_some_iff.mp h5).1 h10]; exact h5, h6, h7, h8, h9, h10⟩
theorem vx_L.narrow {C n d : String} {A B : Nat → Prop} {U : State} {H : Heap} (h : vx_L C n d A U H) (hAB : ∀ q, B q → A q) : vx_L C n d B U H := by
  obtain ⟨c, k, i, f, a, cell, h1, h2, h3, h4, h5, h6, h7, h8, h9, h10⟩ := h
  exact ⟨c, k, i, f, a, cell, h1, h2, h3, h4, h5, h6, h7, h8, h9, fun z => h10 (hAB _ z)⟩
theorem vx_L.word {C n d : String} {A : Nat → Prop} {s : State} {args : Array Value} (h : vx_L C n d A s s.heap) : (Cond.laysStatic C n d).before args s = true := by
  obtain ⟨c, k, i, f, a, cell, h1, h2, h3, h4, h5, h6, h7, h8, h9, -⟩ := h
  show (Cond.laysStatic C n d).holds args s none s [] = true
  exact Cond.laysStatic_of h1 h2 h3 h4 h5 h6 h7 h8 h9
/-- .. and what it holds: null or some reference -/
def vx_Zq (C n d : String) (A : Nat → Prop) (U : State) (H : Heap) : Prop := va_Zq C n d A U H ∧ vx_L C n d A U H
theorem vx_Zq.moved {C n d : String} {A : Nat → Prop} {u U : State} {H : Heap} (hvm : u.vm.Alike U.vm) (h : vx_Zq C n d A u H) : vx_Zq C n d A U H := ⟨va_Zq.moved hvm h.1, vx_L.moved hvm h.2⟩
theorem vx_Zq.kept {C n d : String} {A : Nat → Prop} {U : State} {H H1 : Heap} (h : vx_Zq C n d A U H) (hq : ∀ a : Nat, a < H.size → ¬ A a → H1[a]? = H[a]?) : vx_Zq C n d A U H1 := ⟨va_Zq.kept h.1 hq, vx_L.kept h.2 hq⟩
theorem vx_Zq.narrow {C n d : String} {A B : Nat → Prop} {U : State} {H : Heap} (h : vx_Zq C n d A U H) (hAB : ∀ q, B q → A q) : vx_Zq C n d B U H := ⟨va_Zq.narrow h.1 hAB, vx_L.narrow h.2 hAB⟩
theorem vx_Zqof {args : Array Value} {s : State} {C n d : String} {A : Nat → Prop} (hl : (Cond.laysStatic C n d).before args s = true) (hini : (Cond.initialized C).before args s = true) (h : (Cond.isRef (.static C n d)).before args s = true) (hA : ∀ a : Nat, a < s.heap.size → ¬ A a) : vx_Zq C n d A s s.heap := by
  refine ⟨va_Zqof hl hini h hA, ?_⟩
  obtain ⟨c, k, i, f, a, cell, h1, h2, h3, h4, h5, h6, h7, h8, h9⟩ := Cond.laysStatic_spec hl
  exact ⟨c, k, i, f, a, cell, h1, h2, h3, h4, h5, h6, h7, h8, h9, hA a (Array.getElem?_eq_some_iff.mp h5).1⟩
theorem vx_isRef {C n d : String} {v : Value} {A : Nat → Prop} {s : State} {args : Array Value} (h : va_Z C n d v A s s.heap) (hv : v.isRef = true) : (Cond.isRef (.static C n d)).before args s = true := by
  obtain ⟨cf, kf, fi, f, a, cell, h1, h2, h3, h4, h5, h6, h7, -⟩ := h
  have he : (Term.static C n d).eval args s none [] s = some v := by
    simp [Term.eval, State.fieldNamed?, h1, h2, h4, h5, h6, h7]
  simp only [Cond.before, Cond.holds, Cond.value, he]
  cases v <;> simp_all [Value.isRef]
theorem vx_isRefq {C n d : String} {A : Nat → Prop} {s : State} {args : Array Value} (h : va_Zq C n d A s s.heap) : (Cond.isRef (.static C n d)).before args s = true := by
  rcases h with h | ⟨t, h⟩
  · exact vx_isRef h rfl
  · exact vx_isRef h rfl
/-- the same frame, seen from here: as if the method were called anew in this heap -/
theorem vx_rebase {T : State} (X : Stand p l e R s m args below meth c T locs cells slots) {R' : Room} (hf : R'.frames ≤ R.frames) (hl : R'.locals ≤ R.locals) (hc : cells + R'.cells ≤ R.cells) (hs : slots + R'.slots ≤ R.slots) :
    Stand p l e R' ((T.setVm s.vm).setFrames (.invoking m args :: below)) m args below meth c T [] 0 0 := by
  have htop : (T.setVm s.vm).topJava?.isSome := X.here.top
  have hF : ((T.setVm s.vm).setFrames (.invoking m args :: below)).frames = .invoking m args :: below := State.frames_setFrames _ (State.cur_lt_of_top htop)
  obtain ⟨g₀, hg0⟩ := Option.isSome_iff_exists.mp htop
  obtain ⟨r, hr⟩ := State.topJava?_eq_some.mp hg0
  have hl9 : e.platform.stackLimits (T.setVm s.vm).me = e.platform.stackLimits s.me := X.limits
  have hb9 : (T.setVm s.vm).me.stackBytes = s.me.stackBytes := X.bytes
  refine ⟨X.admits, X.cas, X.clock, hF, ?_, X.hears, X.method, X.code, X.here, X.tail, X.warmed, ?_, ?_, ?_⟩
  · have h := X.room
    have hU : ((T.setVm s.vm).setFrames (.invoking m args :: below)).localsInUse = s.localsInUse := by
      rw [State.localsInUse_invoking hF (meth := meth) (c := c) X.method X.code, State.localsInUse_invoking X.frames X.method X.code]
    simp only [State.hasRoom, Bool.and_eq_true, decide_eq_true_eq] at h ⊢
    obtain ⟨⟨⟨⟨h1, h2, h3, h4, h5, h6⟩, h7⟩, h8⟩, h9⟩ := h
    rw [X.frames, List.length_cons] at h2 h3
    have q1 := X.heapSize
    have q2 := X.used
    simp only [hF, hU, List.length_cons, State.stackLimits_setFrames, State.stackBytes_setFrames, hl9, hb9]
    refine ⟨⟨⟨⟨by omega, by omega, by omega, by omega, by omega, h6⟩, ?_⟩, ?_⟩, X.book⟩
    · show T.heap.size + R'.cells ≤ e.platform.maxCells
      omega
    · show T.slotsUsed + R'.slots ≤ e.platform.maxSlots
      omega
  · rw [State.stackLimits_setFrames]; rfl
  · rw [State.stackBytes_setFrames]; rfl
  · refine ⟨?_, Nat.le_refl _, Nat.le_refl _, ?_, ?_, fun a c9 h9 => ⟨c9, h9, rfl, rfl, fun _ _ => rfl⟩⟩
    · obtain ⟨t, ht, -⟩ := State.frames_cons hr
      show T.setVm s.vm = { ((T.setVm s.vm).setFrames (.invoking m args :: below)).setFrames (T.setVm s.vm).frames with heap := T.heap, slotsUsed := T.slotsUsed }
      rw [State.setFrames_setFrames, State.setFrames_self ht]
      rfl
    · show T.slotsUsed = T.slotsUsed + ((T.heap.toList.drop T.heap.size).map (·.slots.size)).sum
      rw [List.drop_eq_nil_of_le (Nat.le_of_eq Array.length_toList)]
      rfl
    · show ((T.heap.toList.drop T.heap.size).map (·.slots.size)).sum ≤ 0
      rw [List.drop_eq_nil_of_le (Nat.le_of_eq Array.length_toList)]
      exact Nat.le_refl _
/-- 'throw new E()': new; dup; invokespecial; athrow -/
theorem vx_throw0 {cc : ByteArray} {pc : Nat} (hexec : p.tables.exec = Jvm.exec) (hb : c.code = cc) (hl : l.stackTraces = false) {own cls : String} {names : List String} {ik ic mc ms : Nat} {A : Nat → Prop}
    (hown : s.vm.findClass own = some m.cls) (hcls : Bundle.fit cls = true) (hnames : ∀ n ∈ names, Bundle.fit n = true)
    (hk : (Cond.classLink own ik cls).before args s = true) (hini : (Cond.initialized cls).before args s = true) (hat : ∀ w ∈ vx_at0 own ic cls names, w.before args s = true)
    (hgood : ∀ w ∈ Cond.classLink own ik cls :: Cond.initialized cls :: vx_at0 own ic cls names, vx_ot w = true)
    (hU : vx_Zq Bundle.tN "UNASSIGNED_STACK" Bundle.steD A s s.heap) (hN : vx_Zq Bundle.tN "SUPPRESSED_SENTINEL" Bundle.listD A s s.heap) (hS : va_S A s.heap H locs) (hsize : ls.size = c.maxLocals)
    (d0 : decode cc pc = .ok (.new ik, 3)) (d3 : decode cc (pc + 3) = .ok (.dup, 1)) (d4 : decode cc (pc + 4) = .ok (.invokespecial ic, 3)) (d7 : decode cc (pc + 7) = .ok (.athrow, 1))
    (hout : ∀ x ∈ c.exceptionTable.toList, covers x (pc + 7) = false)
    (hRframes : names.length + 3 < R.frames) (hRlocals : (rest.map fun v => v.category).sum + (13 * (names.length + 1) + 42) ≤ R.locals) (hRcells : cells + 1 ≤ R.cells) (hRslots : slots + 6 ≤ R.slots) (hlocks : meth.locks = false)
    (hx : ∀ t : State, s.vm.Alike t.vm → H.size ≤ t.heap.size → (∀ q : Nat, q < H.size → t.heap[q]? = H[q]?) → XC cls s t)
    (hf : ∀ z ∈ locs, free z.base) (hc : cells + 1 ≤ mc) (hs : slots + 6 ≤ ms) :
    W p l e R s m args below meth c H locs cells slots (vx_MQ below Qc XC args s mc ms free) (F0 m pc ls rest) := by
  intro T hT X
  have htr : e.platform.stackTraces = false := (show e.platform.stackTraces = l.stackTraces by rw [X.admits.platform]).trans hl
  have Y := vx_rebase X (R' := { frames := R.frames, locals := R.locals, cells := 1, slots := 6 }) (Nat.le_refl _) (Nat.le_refl _) hRcells hRslots
  obtain ⟨s', hA⟩ : ∃ z, z = (T.setVm s.vm).setFrames (.invoking m args :: below) := ⟨_, rfl⟩
  rw [← hA] at Y
  have hvm : s'.vm = s.vm := by rw [hA]; rfl
  have hhp : s'.heap = H := by rw [hA]; exact hT
  have hW0 : s.WarmedH s'.vm := by rw [hvm]; exact State.WarmedH.refl s
  have hat' : ∀ w ∈ vx_at0 own ic cls names, w.before args s' = true := fun w hw => vx_ot_at hW0 hvm.symm (hgood w (List.mem_cons_of_mem _ (List.mem_cons_of_mem _ hw))) (hat w hw)
  have hk' : (Cond.classLink own ik cls).before args s' = true := vx_ot_at hW0 hvm.symm (hgood _ List.mem_cons_self) hk
  have hini' : (Cond.initialized cls).before args s' = true := vx_ot_at hW0 hvm.symm (hgood _ (List.mem_cons_of_mem _ List.mem_cons_self)) hini
  have hU' : vx_Zq Bundle.tN "UNASSIGNED_STACK" Bundle.steD A s' s'.heap := by rw [hhp]; exact vx_Zq.moved hW0.alike (hU.kept hS.2.1)
  have hN' : vx_Zq Bundle.tN "SUPPRESSED_SENTINEL" Bundle.listD A s' s'.heap := by rw [hhp]; exact vx_Zq.moved hW0.alike (hN.kept hS.2.1)
  have h : ∀ w ∈ Bundle.ownAtoms0 own ic cls names, w.before args s' = true := vx_own hat' (vx_isRefq hU'.1) (vx_isRefq hN'.1) hU'.2.word hN'.2.word
  have hown' : s'.vm.findClass own = some m.cls := by rw [hvm]; exact hown
  have hins : (Cond.instantiable cls 6).before args s' = true := h _ (by simp [Bundle.ownAtoms0])
  obtain ⟨vm₁, cX, kX, hfX, hkX, -, -, X₁, st1⟩ := Y.newCold hexec (own := own) (C := cls) (index := ik) (n := 6) hown' hk' hins hini'
    (g := F0 m pc ls rest) rfl (by rw [hb]; exact d0) (Nat.le_refl _) (Nat.le_refl _)
  generalize hT1 : (T.setVm vm₁).pushCell { cls := cX, slots := kX.instanceTypes.map defaultValue, vm := .none } = T1 at X₁ st1
  have hcat : (Value.ref T.heap.size).category = 1 := rfl
  have hcellA : T1.heap[T.heap.size]? = some (freshCell cX kX) := by rw [← hT1]; exact State.heap_pushCell_size _ _
  have d3' : decode c.code (pc + 3) = .ok (.dup, 1) := by rw [hb]; exact d3
  obtain ⟨U, hsteps, hrun, hend, hW, hsame, ce, hce, hO⟩ := X₁.ctorThrow0 hexec htr (own := own) (cls := cls) (names := names) (ic := ic) hown' hcls hnames h (fun x hx => nomatch hx) hfX hkX hcellA (by rw [hhp, hT]; exact Nat.le_refl _)
    (g := { method := m, pc := pc + 4, locals := ls, stack := .ref T.heap.size :: .ref T.heap.size :: rest, locked := none }) rfl hsize rfl rfl (rest := rest) rfl
    (by rw [hb]; exact d4) (by rw [hb]; exact d7) hout hRframes (by simp only [List.map_cons, List.sum_cons, hcat]; omega) hlocks
  obtain ⟨f1, f2⟩ := vx_frame hsame
  rw [hhp] at f1 f2
  have hWs : s.WarmedH U.vm := State.WarmedH.trans hW0 hW
  have hcl : s.vm.findClass cls = some ce.cls := by
    have h9 := hO.cls
    rw [hvm] at h9
    exact h9
  have hall : s.sameButNew ({ U with vm := s.vm } : State) locs mc ms := by
    subst hA
    obtain ⟨e1, e2⟩ := hsame
    rw [State.setFrames_setFrames] at e1
    have h2 : (T.setVm s.vm).sameButNew ({ U with vm := s.vm } : State) [] (0 + 1) (0 + 6) := ⟨e1, e2⟩
    have h3 := X.same.trans h2
    rw [List.append_nil] at h3
    exact h3.mono hc hs
  refine ⟨U, ?_, .threw T.heap.size, hrun, hend, Or.inr ⟨T.heap.size, rfl, cls, ce, locs, hx U hWs.alike f1 (fun q hq => f2 q hq (fun z hz => nomatch hz)), hce, hO.vm, hcl, hWs, hall, hf⟩⟩
  refine st1 _ ?_
  show Steps p.tables e below (T1.setTop { method := m, pc := pc + 3, locals := ls, stack := .ref T.heap.size :: rest, locked := none }) _
  jvm_step X₁.here [X₁.here.top, hexec, d3', Value.category]
  exact hsteps
/-- 'throw new E("text")': new; dup; ldc; invokespecial; athrow -/
theorem vx_throwS {cc : ByteArray} {pc : Nat} (hexec : p.tables.exec = Jvm.exec) (hb : c.code = cc) (hl : l.stackTraces = false) {own cls text : String} {names : List String} {ik is ic mc ms sa : Nat} {A : Nat → Prop}
    (hown : s.vm.findClass own = some m.cls) (hcls : Bundle.fit cls = true) (hnames : ∀ n ∈ names, Bundle.fit n = true)
    (hk : (Cond.classLink own ik cls).before args s = true) (hini : (Cond.initialized cls).before args s = true) (hstr : vk_R own is text sa s) (hat : ∀ w ∈ vx_atS own ic cls names, w.before args s = true)
    (hgood : ∀ w ∈ Cond.classLink own ik cls :: Cond.initialized cls :: vx_atS own ic cls names, vx_ot w = true)
    (hU : vx_Zq Bundle.tN "UNASSIGNED_STACK" Bundle.steD A s s.heap) (hN : vx_Zq Bundle.tN "SUPPRESSED_SENTINEL" Bundle.listD A s s.heap) (hS : va_S A s.heap H locs) (hsize : ls.size = c.maxLocals)
    (d0 : decode cc pc = .ok (.new ik, 3)) (d3 : decode cc (pc + 3) = .ok (.dup, 1)) (d4 : decode cc (pc + 4) = .ok (.ldc is, 2)) (d6 : decode cc (pc + 6) = .ok (.invokespecial ic, 3)) (d9 : decode cc (pc + 9) = .ok (.athrow, 1))
    (hout : ∀ x ∈ c.exceptionTable.toList, covers x (pc + 9) = false)
    (hRframes : names.length + 3 < R.frames) (hRlocals : (rest.map fun v => v.category).sum + (13 * (names.length + 1) + 43) ≤ R.locals) (hRcells : cells + 1 ≤ R.cells) (hRslots : slots + 6 ≤ R.slots) (hlocks : meth.locks = false)
    (hx : ∀ t : State, s.vm.Alike t.vm → H.size ≤ t.heap.size → (∀ q : Nat, q < H.size → t.heap[q]? = H[q]?) → XC cls s t)
    (hf : ∀ z ∈ locs, free z.base) (hc : cells + 1 ≤ mc) (hs : slots + 6 ≤ ms) :
    W p l e R s m args below meth c H locs cells slots (vx_MQ below Qc XC args s mc ms free) (F0 m pc ls rest) := by
  intro T hT X
  have htr : e.platform.stackTraces = false := (show e.platform.stackTraces = l.stackTraces by rw [X.admits.platform]).trans hl
  have Y := vx_rebase X (R' := { frames := R.frames, locals := R.locals, cells := 1, slots := 6 }) (Nat.le_refl _) (Nat.le_refl _) hRcells hRslots
  obtain ⟨s', hA⟩ : ∃ z, z = (T.setVm s.vm).setFrames (.invoking m args :: below) := ⟨_, rfl⟩
  rw [← hA] at Y
  have hvm : s'.vm = s.vm := by rw [hA]; rfl
  have hhp : s'.heap = H := by rw [hA]; exact hT
  have hW0 : s.WarmedH s'.vm := by rw [hvm]; exact State.WarmedH.refl s
  have hat' : ∀ w ∈ vx_atS own ic cls names, w.before args s' = true := fun w hw => vx_ot_at hW0 hvm.symm (hgood w (List.mem_cons_of_mem _ (List.mem_cons_of_mem _ hw))) (hat w hw)
  have hk' : (Cond.classLink own ik cls).before args s' = true := vx_ot_at hW0 hvm.symm (hgood _ List.mem_cons_self) hk
  have hini' : (Cond.initialized cls).before args s' = true := vx_ot_at hW0 hvm.symm (hgood _ (List.mem_cons_of_mem _ List.mem_cons_self)) hini
  have hU' : vx_Zq Bundle.tN "UNASSIGNED_STACK" Bundle.steD A s' s'.heap := by rw [hhp]; exact vx_Zq.moved hW0.alike (hU.kept hS.2.1)
  have hN' : vx_Zq Bundle.tN "SUPPRESSED_SENTINEL" Bundle.listD A s' s'.heap := by rw [hhp]; exact vx_Zq.moved hW0.alike (hN.kept hS.2.1)
  have h : ∀ w ∈ Bundle.ownAtoms own ic cls names, w.before args s' = true := vx_own hat' (vx_isRefq hU'.1) (vx_isRefq hN'.1) hU'.2.word hN'.2.word
  have hown' : s'.vm.findClass own = some m.cls := by rw [hvm]; exact hown
  have hins : (Cond.instantiable cls 6).before args s' = true := h _ (by simp [Bundle.ownAtoms])
  obtain ⟨vm₁, cX, kX, hfX, hkX, -, -, X₁, st1⟩ := Y.newCold hexec (own := own) (C := cls) (index := ik) (n := 6) hown' hk' hins hini'
    (g := F0 m pc ls rest) rfl (by rw [hb]; exact d0) (Nat.le_refl _) (Nat.le_refl _)
  generalize hT1 : (T.setVm vm₁).pushCell { cls := cX, slots := kX.instanceTypes.map defaultValue, vm := .none } = T1 at X₁ st1
  have hcat : (Value.ref T.heap.size).category = 1 := rfl
  have hcellA : T1.heap[T.heap.size]? = some (freshCell cX kX) := by rw [← hT1]; exact State.heap_pushCell_size _ _
  have d3' : decode c.code (pc + 3) = .ok (.dup, 1) := by rw [hb]; exact d3
  have d4' : decode c.code (pc + 4) = .ok (.ldc is, 2) := by rw [hb]; exact d4
  have hstr' : vk_R own is text sa s' := vk_R.warm hW0 hstr
  obtain ⟨U, hsteps, hrun, hend, hW, hsame, ce, hce, hO⟩ := X₁.ctorThrowS hexec htr (own := own) (cls := cls) (names := names) (ic := ic) hown' hcls hnames h (fun x hx => nomatch hx) hfX hkX hcellA (by rw [hhp, hT]; exact Nat.le_refl _) (msg := .ref sa) rfl
    (g := { method := m, pc := pc + 6, locals := ls, stack := .ref sa :: .ref T.heap.size :: .ref T.heap.size :: rest, locked := none }) rfl hsize rfl rfl (rest := rest) rfl
    (by rw [hb]; exact d6) (by rw [hb]; exact d9) hout hRframes (by simp only [List.map_cons, List.sum_cons, hcat]; omega) hlocks
  obtain ⟨f1, f2⟩ := vx_frame hsame
  rw [hhp] at f1 f2
  have hWs : s.WarmedH U.vm := State.WarmedH.trans hW0 hW
  have hcl : s.vm.findClass cls = some ce.cls := by
    have h9 := hO.cls
    rw [hvm] at h9
    exact h9
  have hall : s.sameButNew ({ U with vm := s.vm } : State) locs mc ms := by
    subst hA
    obtain ⟨e1, e2⟩ := hsame
    rw [State.setFrames_setFrames] at e1
    have h2 : (T.setVm s.vm).sameButNew ({ U with vm := s.vm } : State) [] (0 + 1) (0 + 6) := ⟨e1, e2⟩
    have h3 := X.same.trans h2
    rw [List.append_nil] at h3
    exact h3.mono hc hs
  refine ⟨U, ?_, .threw T.heap.size, hrun, hend, Or.inr ⟨T.heap.size, rfl, cls, ce, locs, hx U hWs.alike f1 (fun q hq => f2 q hq (fun z hz => nomatch hz)), hce, hO.vm, hcl, hWs, hall, hf⟩⟩
  refine st1 _ ?_
  show Steps p.tables e below (T1.setTop { method := m, pc := pc + 3, locals := ls, stack := .ref T.heap.size :: rest, locked := none }) _
  jvm_step X₁.here [X₁.here.top, hexec, d3', Value.category]
  exact X₁.ldcString hexec (own := own) (text := text) (index := is) (a := sa) hown' hstr'.1 hstr'.2
    (g := { method := m, pc := pc + 4, locals := ls, stack := .ref T.heap.size :: .ref T.heap.size :: rest, locked := none }) rfl d4' _ hsteps
/-- 'throw new E("text")', the text by a wide index -/
theorem vx_throwSW {cc : ByteArray} {pc : Nat} (hexec : p.tables.exec = Jvm.exec) (hb : c.code = cc) (hl : l.stackTraces = false) {own cls text : String} {names : List String} {ik is ic mc ms sa : Nat} {A : Nat → Prop}
    (hown : s.vm.findClass own = some m.cls) (hcls : Bundle.fit cls = true) (hnames : ∀ n ∈ names, Bundle.fit n = true)
    (hk : (Cond.classLink own ik cls).before args s = true) (hini : (Cond.initialized cls).before args s = true) (hstr : vk_R own is text sa s) (hat : ∀ w ∈ vx_atS own ic cls names, w.before args s = true)
    (hgood : ∀ w ∈ Cond.classLink own ik cls :: Cond.initialized cls :: vx_atS own ic cls names, vx_ot w = true)
    (hU : vx_Zq Bundle.tN "UNASSIGNED_STACK" Bundle.steD A s s.heap) (hN : vx_Zq Bundle.tN "SUPPRESSED_SENTINEL" Bundle.listD A s s.heap) (hS : va_S A s.heap H locs) (hsize : ls.size = c.maxLocals)
    (d0 : decode cc pc = .ok (.new ik, 3)) (d3 : decode cc (pc + 3) = .ok (.dup, 1)) (d4 : decode cc (pc + 4) = .ok (.ldc_w is, 3)) (d7 : decode cc (pc + 7) = .ok (.invokespecial ic, 3)) (d10 : decode cc (pc + 10) = .ok (.athrow, 1))
    (hout : ∀ x ∈ c.exceptionTable.toList, covers x (pc + 10) = false)
    (hRframes : names.length + 3 < R.frames) (hRlocals : (rest.map fun v => v.category).sum + (13 * (names.length + 1) + 43) ≤ R.locals) (hRcells : cells + 1 ≤ R.cells) (hRslots : slots + 6 ≤ R.slots) (hlocks : meth.locks = false)
    (hx : ∀ t : State, s.vm.Alike t.vm → H.size ≤ t.heap.size → (∀ q : Nat, q < H.size → t.heap[q]? = H[q]?) → XC cls s t)
    (hf : ∀ z ∈ locs, free z.base) (hc : cells + 1 ≤ mc) (hs : slots + 6 ≤ ms) :
    W p l e R s m args below meth c H locs cells slots (vx_MQ below Qc XC args s mc ms free) (F0 m pc ls rest) := by
  intro T hT X
  have htr : e.platform.stackTraces = false := (show e.platform.stackTraces = l.stackTraces by rw [X.admits.platform]).trans hl
  have Y := vx_rebase X (R' := { frames := R.frames, locals := R.locals, cells := 1, slots := 6 }) (Nat.le_refl _) (Nat.le_refl _) hRcells hRslots
  obtain ⟨s', hA⟩ : ∃ z, z = (T.setVm s.vm).setFrames (.invoking m args :: below) := ⟨_, rfl⟩
  rw [← hA] at Y
  have hvm : s'.vm = s.vm := by rw [hA]; rfl
  have hhp : s'.heap = H := by rw [hA]; exact hT
  have hW0 : s.WarmedH s'.vm := by rw [hvm]; exact State.WarmedH.refl s
  have hat' : ∀ w ∈ vx_atS own ic cls names, w.before args s' = true := fun w hw => vx_ot_at hW0 hvm.symm (hgood w (List.mem_cons_of_mem _ (List.mem_cons_of_mem _ hw))) (hat w hw)
  have hk' : (Cond.classLink own ik cls).before args s' = true := vx_ot_at hW0 hvm.symm (hgood _ List.mem_cons_self) hk
  have hini' : (Cond.initialized cls).before args s' = true := vx_ot_at hW0 hvm.symm (hgood _ (List.mem_cons_of_mem _ List.mem_cons_self)) hini
  have hU' : vx_Zq Bundle.tN "UNASSIGNED_STACK" Bundle.steD A s' s'.heap := by rw [hhp]; exact vx_Zq.moved hW0.alike (hU.kept hS.2.1)
  have hN' : vx_Zq Bundle.tN "SUPPRESSED_SENTINEL" Bundle.listD A s' s'.heap := by rw [hhp]; exact vx_Zq.moved hW0.alike (hN.kept hS.2.1)
  have h : ∀ w ∈ Bundle.ownAtoms own ic cls names, w.before args s' = true := vx_own hat' (vx_isRefq hU'.1) (vx_isRefq hN'.1) hU'.2.word hN'.2.word
  have hown' : s'.vm.findClass own = some m.cls := by rw [hvm]; exact hown
  have hins : (Cond.instantiable cls 6).before args s' = true := h _ (by simp [Bundle.ownAtoms])
  obtain ⟨vm₁, cX, kX, hfX, hkX, -, -, X₁, st1⟩ := Y.newCold hexec (own := own) (C := cls) (index := ik) (n := 6) hown' hk' hins hini'
    (g := F0 m pc ls rest) rfl (by rw [hb]; exact d0) (Nat.le_refl _) (Nat.le_refl _)
  generalize hT1 : (T.setVm vm₁).pushCell { cls := cX, slots := kX.instanceTypes.map defaultValue, vm := .none } = T1 at X₁ st1
  have hcat : (Value.ref T.heap.size).category = 1 := rfl
  have hcellA : T1.heap[T.heap.size]? = some (freshCell cX kX) := by rw [← hT1]; exact State.heap_pushCell_size _ _
  have d3' : decode c.code (pc + 3) = .ok (.dup, 1) := by rw [hb]; exact d3
  have d4' : decode c.code (pc + 4) = .ok (.ldc_w is, 3) := by rw [hb]; exact d4
  have hstr' : vk_R own is text sa s' := vk_R.warm hW0 hstr
  obtain ⟨U, hsteps, hrun, hend, hW, hsame, ce, hce, hO⟩ := X₁.ctorThrowS hexec htr (own := own) (cls := cls) (names := names) (ic := ic) hown' hcls hnames h (fun x hx => nomatch hx) hfX hkX hcellA (by rw [hhp, hT]; exact Nat.le_refl _) (msg := .ref sa) rfl
    (g := { method := m, pc := pc + 7, locals := ls, stack := .ref sa :: .ref T.heap.size :: .ref T.heap.size :: rest, locked := none }) rfl hsize rfl rfl (rest := rest) rfl
    (by rw [hb]; exact d7) (by rw [hb]; exact d10) hout hRframes (by simp only [List.map_cons, List.sum_cons, hcat]; omega) hlocks
  obtain ⟨f1, f2⟩ := vx_frame hsame
  rw [hhp] at f1 f2
  have hWs : s.WarmedH U.vm := State.WarmedH.trans hW0 hW
  have hcl : s.vm.findClass cls = some ce.cls := by
    have h9 := hO.cls
    rw [hvm] at h9
    exact h9
  have hall : s.sameButNew ({ U with vm := s.vm } : State) locs mc ms := by
    subst hA
    obtain ⟨e1, e2⟩ := hsame
    rw [State.setFrames_setFrames] at e1
    have h2 : (T.setVm s.vm).sameButNew ({ U with vm := s.vm } : State) [] (0 + 1) (0 + 6) := ⟨e1, e2⟩
    have h3 := X.same.trans h2
    rw [List.append_nil] at h3
    exact h3.mono hc hs
  refine ⟨U, ?_, .threw T.heap.size, hrun, hend, Or.inr ⟨T.heap.size, rfl, cls, ce, locs, hx U hWs.alike f1 (fun q hq => f2 q hq (fun z hz => nomatch hz)), hce, hO.vm, hcl, hWs, hall, hf⟩⟩
  refine st1 _ ?_
  show Steps p.tables e below (T1.setTop { method := m, pc := pc + 3, locals := ls, stack := .ref T.heap.size :: rest, locked := none }) _
  jvm_step X₁.here [X₁.here.top, hexec, d3', Value.category]
  exact X₁.ldcStringW hexec (own := own) (text := text) (index := is) (a := sa) hown' hstr'.1 hstr'.2
    (g := { method := m, pc := pc + 4, locals := ls, stack := .ref T.heap.size :: .ref T.heap.size :: rest, locked := none }) rfl d4' _ hsteps
end Ends
section Bodies
variable {l : Launch}
theorem vx_ofW {y : MethodName} {ws ws' : List Cond} {rm : Room} {Pc : Array Value → State → Prop} {Qc : Array Value → State → Outcome → State → Prop} {XC : String → State → State → Prop} {mc ms : Nat} {free : Addr → Prop} {cc : ByteArray} {maxL : Nat} {ret : Option FieldType}
    (hy : plainName y.cls = true) (hw : ws = Cond.code y cc maxL ret :: ws')
    (body : ∀ p e s m args below meth c s₁, BodyLoose p l y (headSpec ws rm) cc maxL ret e s m args below meth c s₁ → c.maxLocals = maxL → (∀ x ∈ c.exceptionTable.toList, False) → Pc args s →
      W p l e (headSpec ws rm).room s m args below meth c s.heap [] 0 0 (vx_MQ below Qc XC args s mc ms free) (entryFrame m args maxL)) : vx_Met l y ws rm Pc Qc XC mc ms free := by
  refine MetFree.of_bodyS (code := cc) (maxLocals := maxL) (ret := ret) hy ?_ ?_
  · intro args s m h hn
    obtain ⟨meth, c, h1, h2, h3, h4, h5, h6, -, -⟩ := Cond.code_spec hn (atoms_spec (ws := ws) h _ (by rw [hw]; exact List.mem_cons_self))
    exact ⟨meth, c, h1, h2, h3, h4, h5, h6⟩
  · intro p e s m args below meth c s₁ B hml hP _
    have hh0 : s₁.heap = s.heap := by rw [B.state]; rfl
    have ht : ∀ x ∈ c.exceptionTable.toList, False := by
      obtain ⟨meth9, c9, h1, h2, -, -, -, -, h7, -⟩ := Cond.code_spec B.named (atoms_spec (ws := ws) B.pre _ (by rw [hw]; exact List.mem_cons_self))
      cases Option.some.inj (h1.symm.trans B.method)
      cases Option.some.inj (h2.symm.trans (Stand.of_body B).code)
      intro x hx
      rw [Array.isEmpty_iff.mp h7] at hx
      cases hx
    obtain ⟨t, a1, o, b1, b2, b3⟩ := body p e s m args below meth c s₁ B hml ht hP s₁ hh0 (Stand.of_body B)
    exact ⟨t, o, a1, b1, b2, b3⟩
/-- the table of a body with handlers -/
theorem vx_table {p : Program} {x y : MethodName} {S : Spec} {cc bytes : ByteArray} {maxL maxL' : Nat} {ret ret' : Option FieldType} {e : Env} {s s₁ : State} {m : MethodId} {args : Array Value} {below : List Frame} {meth : Method} {c : Code} {hh : List (Nat × Nat × Nat × Nat)}
    (B : BodyLoose p l y S cc maxL ret e s m args below meth c s₁) (h : (Cond.codeWith y bytes maxL' ret' hh).before args s = true) : c.exceptionTable.toList = tableOf hh := by
  obtain ⟨m9, meth9, c9, hn9, h1, h2, -, -, h6, -⟩ := Cond.codeWith_spec h
  cases Option.some.inj (hn9.symm.trans B.named)
  cases Option.some.inj (h1.symm.trans B.method)
  cases Option.some.inj (h2.symm.trans (Stand.of_body B).code)
  rw [← h6, table_eq]
end Bodies
end VXA
/-! ===== END ===== -/
/-! ===== BEGIN a static call of a method with an exception table ===== -/
section VXS
variable {p : Program} {l : Launch} {e : Env} {R : Room} {s : State} {m : MethodId} {args : Array Value} {below : List Frame} {meth : Method} {c : Code} {T : State} {H : Heap} {locs : List Loc} {cells slots : Nat}
abbrev vx_CSW (R : Room) (s : State) (args : Array Value) (own : String) (index : Nat) (y : MethodName) (bytes : ByteArray) (maxL : Nat) (ret : Option FieldType) (hh : List (Nat × Nat × Nat × Nat)) (ws : List Cond) (rm : Room) (mc ms n : Nat) : Prop :=
  (rm.cells = mc ∧ rm.slots = ms ∧ rm.frames + 1 ≤ R.frames ∧ 8 + (maxL + 11) + rm.locals ≤ R.locals ∧ (∀ w ∈ ws, ∀ (a' : Array Value) (U : State), s.WarmedH U.vm → w.before a' U = true) ∧ Cond.codeWith y bytes maxL ret hh ∈ ws) ∧
  (Cond.codeWith y bytes maxL ret hh).before args s = true ∧ (Cond.initialized y.cls).before args s = true ∧ (y.cls ≠ "java/lang/invoke/MethodHandle" ∧ y.cls ≠ "java/lang/invoke/VarHandle") ∧
  (∀ sig, parseMethodDescriptor y.desc = some sig → n = sig.parameters.length) ∧ (Cond.methodLink own index y).before args s = true ∧ (Cond.static y).before args s = true
theorem vx_cwSW {own : String} {index maxL mc ms : Nat} {y : MethodName} {bytes : ByteArray} {ret : Option FieldType} {hh : List (Nat × Nat × Nat × Nat)} {Ts ws ws' : List Cond} {rm : Room} (n : Nat) (ht : ∀ w ∈ Ts, w.before args s = true) (hT : GoodIn Ts (va_wsS own index y ws)) (hw : ws = Cond.codeWith y bytes maxL ret hh :: ws') (hrc : rm.cells = mc) (hrs : rm.slots = ms)
    (hd : y.cls ≠ "java/lang/invoke/MethodHandle" ∧ y.cls ≠ "java/lang/invoke/VarHandle" ∧ (parseMethodDescriptor y.desc).map (fun d => d.parameters.length) = some n) (hR : rm.frames + 1 ≤ R.frames ∧ 8 + (maxL + 11) + rm.locals ≤ R.locals) :
    vx_CSW R s args own index y bytes maxL ret hh ws rm mc ms n := by
  have ok : ∀ w ∈ va_wsS own index y ws, w.before args s = true := fun w h => ht w (hT w h).1
  have hG : GoodIn Ts ws := fun w h => hT w (by unfold va_wsS; exact List.mem_append_right _ h)
  have hc : Cond.codeWith y bytes maxL ret hh ∈ ws := by rw [hw]; exact List.mem_cons_self
  refine ⟨⟨hrc, hrs, hR.1, hR.2, pay_in ht hG, hc⟩, ht _ (hG _ hc).1, ok _ (by simp [va_wsS]), ⟨hd.1, hd.2.1⟩, fun sig h => ?_, ok _ (by simp [va_wsS]), ok _ (by simp [va_wsS])⟩
  have h2 := hd.2.2
  rw [h] at h2
  exact (Option.some.inj h2).symm
theorem vx_callSW (X : Stand p l e R s m args below meth c T locs cells slots) (hexec : p.tables.exec = Jvm.exec) {own : String} {index : Nat} {y : MethodName} {bytes : ByteArray} {maxL : Nat} {ret : Option FieldType} {hh : List (Nat × Nat × Nat × Nat)}
    (hown : s.vm.findClass own = some m.cls) (hlink : (Cond.methodLink own index y).before args s = true) (hstat : (Cond.static y).before args s = true) (hinit : (Cond.initialized y.cls).before args s = true)
    (hcode : (Cond.codeWith y bytes maxL ret hh).before args s = true) (hy : y.cls ≠ "java/lang/invoke/MethodHandle" ∧ y.cls ≠ "java/lang/invoke/VarHandle")
    {W9 : Nat} {Pre : Pt → Array Value → Prop} {Post : Pt → Array Value → Option Value → Pt → Prop} (hK : Back l R p e below s args y 3 W9 Pre Post)
    {g : JFrame} (hg : g.method = m) (hsize : g.locals.size = c.maxLocals) {argsL rest : List Value} (hlen : ∀ sig, parseMethodDescriptor y.desc = some sig → argsL.length = sig.parameters.length)
    (hstack : g.stack = argsL.reverse ++ rest) (hW : 2 * g.monitorRoom + (rest.map fun v => v.category).sum ≤ W9) (hdg : decode c.code g.pc = .ok (.invokestatic index, 3))
    (hpre : ∀ vm₁, s.WarmedH vm₁ → Pre ⟨T.setVm vm₁, locs, cells, slots⟩ argsL.toArray) :
    ∃ (v : Option Value) (vm₁ : Vm) (B : Pt), s.WarmedH vm₁ ∧ Stand p l e R s m args below meth c B.U B.locs B.cells B.slots ∧ Post ⟨T.setVm vm₁, locs, cells, slots⟩ argsL.toArray v B ∧
      ∀ target, Steps p.tables e below (B.U.setTop { g with pc := g.pc + 3, stack := v.toList ++ rest }) target → Steps p.tables e below (T.setTop g) target := by
  obtain ⟨mk, methM, cM, hnamed, hmethM, -, -, -, -, -, -, hsigM⟩ := Cond.codeWith_spec hcode
  have hstatic : methM.isStatic = true := Cond.static_spec hnamed hmethM hstat
  obtain ⟨kP, hkP, -⟩ := className_of_methodNamed hnamed
  have hinitP : kP.init = .initialized := Cond.initialized_spec (findClass_of_methodNamed hnamed) hkP hinit
  obtain ⟨vm₁, X₁, hstep₁⟩ := X.invokestatic hexec hown hlink hnamed hmethM hstatic hkP hinitP hy (g := g) hg (argsL := argsL) (rest := rest) (hlen _ hsigM) hstack hdg
  obtain ⟨v, B, X', hpost, hsteps⟩ := hK m meth c ⟨T.setVm vm₁, locs, cells, slots⟩ { g with stack := rest } (.invokestatic index) mk argsL.toArray X₁ hg hsize hdg hW (X₁.named hnamed) (hpre vm₁ X₁.warmed)
  exact ⟨v, vm₁, B, X₁.warmed, X', hpost, fun target h => hstep₁ _ fun acts => by rw [doInvoke_state]; exact hsteps.trans h⟩
theorem vx_runSW {y : MethodName} {bytes cc : ByteArray} {maxL nL mc ms n index : Nat} {ret : Option FieldType} {hh : List (Nat × Nat × Nat × Nat)} {ws : List Cond} {rm : Room} {Pc : Array Value → State → Prop} {Qc : Array Value → State → Outcome → State → Prop} {free : Addr → Prop} {Ts : List Cond} {own : String} {As rest : List Value} {g : JFrame}
    (S : CallFix p m c cc nL s args Ts own) (hM : Met l y ws rm Pc Qc mc ms free) (cw : vx_CSW R s args own index y bytes maxL ret hh ws rm mc ms n) (hp : PreS s H Pc As)
    (hg : g.method = m) (hn : As.length = n) (hsize : g.locals.size = nL) (hstack : g.stack = As.reverse ++ rest) (hW : 2 * g.monitorRoom + (rest.map fun v => v.category).sum ≤ 8) (hdg : decode cc g.pc = .ok (.invokestatic index, 3)) (hf : cells + mc ≤ R.cells ∧ slots + ms ≤ R.slots) :
    va_Run p l e R s m args below meth c H locs cells slots mc ms g rest (Qc As.toArray) (free) := by
  obtain ⟨⟨hrc, hrs, hfr, hlo, hws, hcw⟩, hcode, hini, hy, hlen, hl, hstt⟩ := cw
  have hK : Back l R p e below s args y 3 8 (PreOf R mc ms Pc) (PostOf Qc mc ms free) := va_backW (hh := hh) (bytes := bytes) (maxL := maxL) (ret := ret) hM hp.1 hrc hrs hfr hlo hws hcw (fun a' U hW => word_at hW (Or.inl (by first | rfl | simp [Cond.onTables, Cond.keeps, Cond.steady])) hini)
  obtain ⟨hx, hb, hml, ho, -⟩ := S
  intro T hT X
  obtain ⟨v, vm₁, ⟨U', l2, c2, s2⟩, hW₁, X', ⟨g', mk, t, L, e1, e2, hq, h1, hL, h2, h3⟩, st⟩ := vx_callSW X hx (hh := hh) (bytes := bytes) (maxL := maxL) (ret := ret) ho hl hstt hini hcode hy hK hg (hsize.trans hml.symm) (argsL := As) (rest := rest) (fun sig h => hn.trans (hlen sig h)) hstack hW (by rw [hb]; exact hdg)
    (fun vm₁ hW₁ => ⟨hf.1, hf.2, hp.2 (T.setVm vm₁) hT hW₁⟩)
  dsimp only [Pt.U, Pt.locs, Pt.cells, Pt.slots] at X' e1 e2 h1 h2 h3 st
  subst h1; subst h2; subst h3
  exact ⟨v, (T.setVm vm₁).calling g' mk As.toArray, t, U', L, hT, X', hL, e1, e2, hq, st⟩
/-- not caught here, past rows that name other classes: it goes on to the caller -/
theorem vx_outP {p : Program} {l : Launch} {e : Env} {R : Room} {s : State} {m : MethodId} {args : Array Value} {below : List Frame} {meth : Method} {c : Code} {H : Heap} {locs : List Loc} {cells slots : Nat} {free : Addr → Prop} {ls : Array Slot} {rest : List Value} {Qc : Array Value → State → Outcome → State → Prop} {XC : String → State → State → Prop}
    {pc : Nat} {own E : String} {ce : Cell} {q : Addr} {mc ms : Nat} (hown : s.vm.findClass own = some m.cls) (hlocks : meth.locks = false)
    (hpass : ∀ z ∈ c.exceptionTable.toList, covers z pc = false ∨ (z.catchType ≠ 0 ∧ ∃ nm : String, (Cond.classLink own z.catchType nm).before args s = true ∧ va_Nc E nm s)) (hcell : H[q]? = some ce) (hv : ce.vm = .none) (hcl : s.vm.findClass E = some ce.cls)
    (hx : ∀ t : State, t.heap = H → s.vm.Alike t.vm → XC E s t) (hf : ∀ z ∈ locs, free z.base) (hc : cells ≤ mc) (hs : slots ≤ ms) :
    vx_W p l e R s m args below meth c H locs cells slots (vx_MQ below Qc XC args s mc ms free) (F0 m pc ls rest) q := by
  intro T hT X
  have hpl : e.platform.magicAccessors = ({} : Platform).magicAccessors := by rw [X.admits.platform]
  obtain ⟨vm', hW', X', st⟩ := X.outThrough hlocks q (g := F0 m pc ls rest) rfl rfl rfl (cell := ce) (by rw [hT]; exact hcell) (by rw [hv]; rfl)
    (by obtain ⟨k9, h9, -⟩ := Vm.findClass_spec hcl; exact ⟨k9, h9⟩) (fun z hz => by
      rcases hpass z hz with h | ⟨hz0, nm, hl1, hn1⟩
      · exact Or.inl h
      · obtain ⟨c6, hc6, hcl6⟩ := Cond.classLink_spec hown hl1 e.platform hpl
        obtain ⟨a8, b8, h1, h2, h3⟩ := hn1
        cases Option.some.inj (h1.symm.trans hcl)
        cases Option.some.inj (h2.symm.trans hc6)
        exact Or.inr ⟨hz0, _, hcl6, h3⟩)
  obtain ⟨g₀, hfr⟩ := X'.frames_eq
  have hcell9 : ((T.setVm vm').setFrames (.throwing q :: below)).heap[q]? = some ce := by
    show T.heap[q]? = some ce
    rw [hT]; exact hcell
  have hend : Ended ((T.setVm vm').setFrames (.throwing q :: below)) below (.threw q) := State.frames_setFrames _ (State.cur_lt_of_frames hfr)
  refine ⟨(T.setVm vm').setFrames (.throwing q :: below), ?_, .threw q, X'.here.running, hend, Or.inr ⟨q, rfl, E, ce, locs, hx _ hT (X'.ends _).1.alike, hcell9, hv, hcl, (X'.ends _).1, (X'.ends _).2.mono hc hs, hf⟩⟩
  rw [X.pushThrowing_eq]
  exact st
/-- a thing of a world lies in the heap -/
theorem vx_lt {D : va_G} {cl : List vw_C} {ws : va_W} {H1 : Heap} (h : va_P D cl ws H1) {k : Nat} {q : Nat × va_E} (hk : ws[k]? = some q) : q.1 < H1.size := (h k q hk).lt
end VXS
/-! ===== END ===== -/
/-! ===== BEGIN methods with a table of their own: called by a name, returning or throwing ===== -/
section VXH
/-! vx_backW, vx_callVX, vx_callSX, vx_callVW, vx_runVW, vx_runVX, vx_runSX, vx_ofWH follow the same proofs as their sisters above (Free/Laws.lean, Shelf42/LK1.lean); vx_outP calls Shelf42/NT130.lean (outThrough). -/
section
variable {l : Launch} {R : Room} {p : Program} {e : Env} {below : List Frame} {s : State} {sargs : Array Value} {y : MethodName} {len W9 : Nat}
theorem vx_backW {ws : List Cond} {rm : Room} {Pc : Array Value → State → Prop} {Qc : Array Value → State → Outcome → State → Prop} {XC : String → State → State → Prop} {mc ms : Nat} {free : Addr → Prop} {bytes : ByteArray} {maxL : Nat} {ret : Option FieldType} {hh : List (Nat × Nat × Nat × Nat)}
    (hM : vx_Met l y ws rm Pc Qc XC mc ms free) (hblind : FrameBlind Pc) (hrc : rm.cells = mc) (hrs : rm.slots = ms)
    (hframes : rm.frames + 1 ≤ R.frames) (hlocals : W9 + (maxL + 11) + rm.locals ≤ R.locals)
    (hws : ∀ w ∈ ws, ∀ a' U, s.WarmedH U.vm → w.before a' U = true) (hcode : Cond.codeWith y bytes maxL ret hh ∈ ws) (hinit : ∀ a' U, s.WarmedH U.vm → (Cond.initialized y.cls).before a' U = true) :
    vx_Back l R p e below s sargs y len W9 (PreOf R mc ms Pc) (PostOf Qc mc ms free) (vx_Post XC mc ms free) := by
  intro m meth c A g ig mk a X hg hsize hdg hW hn hp
  have h1 : (headSpec ws rm).pre.before a A.U = true := atoms_intro fun w hw => hws w hw _ _ X.warmed
  have h2 : (Cond.codeWith y bytes maxL ret hh).before a A.U = true := hws _ hcode _ _ X.warmed
  have h3 : (Cond.initialized y.cls).before a A.U = true := hinit _ _ X.warmed
  have h4 : A.cells + (headSpec ws rm).room.cells ≤ R.cells := by rw [show (headSpec ws rm).room.cells = mc from hrc]; exact hp.1
  have h5 : A.slots + (headSpec ws rm).room.slots ≤ R.slots := by rw [show (headSpec ws rm).room.slots = ms from hrs]; exact hp.2.1
  have hPc : Pc a (A.U.calling g mk a) := hblind _ _ _ _ hp.2.2
  obtain ⟨U, Ls, c0, s0⟩ := A
  dsimp only [Pt.U, Pt.locs, Pt.cells, Pt.slots] at h1 h2 h3 h4 h5 X hn hPc ⊢
  obtain ⟨m9, methY, cY, hn9, hmY, hcY, -, hlY, -⟩ := Cond.codeWith_spec h2
  cases Option.some.inj (hn9.symm.trans hn)
  obtain ⟨kY, hkY, -⟩ := className_of_methodNamed hn
  have hinitY : kY.init = .initialized := Cond.initialized_spec (findClass_of_methodNamed hn) hkY h3
  have h : At U g.method c below := by rw [hg]; exact X.here
  have hlocals9 : W9 + (maxL + 11) + (headSpec ws rm).room.locals ≤ R.locals := hlocals
  have happ : (headSpec ws rm).appliesLoose y e.platform (U.calling g mk a) = true :=
    Spec.appliesLoose_calling (g := g) h hdg hn hkY hinitY
      (X.room_calling (g := g) (R' := (headSpec ws rm).room) hsize hmY hcY hframes (by rw [hlY]; omega) h4 h5) h1
  obtain ⟨mid, hmid⟩ := h.above
  have hfr : (U.setTop g).frames = (.java g :: mid) ++ below := by rw [State.frames_setTop' g h.top, hmid]; rfl
  obtain ⟨o, s₂, hsteps, -, hend, hq⟩ := Steps.callFree hM p X.admits X.cas X.clock (acts := []) hfr happ hPc trivial
  have hq' : vx_Q Qc XC mc ms free a (U.calling g mk a) o s₂ := hq
  rw [State.frames_setTop' g h.top] at hend
  obtain ⟨g₀, hg0⟩ := Option.isSome_iff_exists.mp h.top
  obtain ⟨r, hr⟩ := State.topJava?_eq_some.mp hg0
  have hr' : (({ U with heap := s₂.heap, slotsUsed := s₂.slotsUsed } : State).setVm s₂.vm).frames = .java g₀ :: r := hr
  rcases hq' with ⟨hqc, L, hfe, hL⟩ | ⟨q, rfl, E, ce, L, hx, hce, hcv, hcl, hW₂, hsm, hL⟩
  · obtain ⟨⟨v, rfl⟩, hW₂, e2, q2, q3, q4, q5, q6⟩ := id hfe
    have e3 : s₂ = ({ (U.calling g mk a).setFrames s₂.frames with heap := s₂.heap, slotsUsed := s₂.slotsUsed } : State).setVm s₂.vm := by
      have : s₂ = ({ s₂ with vm := (U.calling g mk a).vm } : State).setVm s₂.vm := rfl
      rw [e2] at this
      exact this
    obtain ⟨c₂, i₂, len₂, hc₂, hd₂, hf₂⟩ := hend
    have hW' : U.WarmedH s₂.vm := hW₂
    have hcc : c₂ = c := by
      have h1 : s₂.code? g.method = U.code? g.method := by
        rw [State.code?_eq, State.code?_eq, hW'.alike.method?]
      exact Option.some.inj (hc₂.symm.trans (h1.trans h.code))
    subst hcc
    have hlen : len₂ = len := by rw [hdg] at hd₂; cases hd₂; rfl
    subst hlen
    have hs₂ : s₂ = (({ U with heap := s₂.heap, slotsUsed := s₂.slotsUsed } : State).setVm s₂.vm).setTop { g with pc := g.pc + len₂, stack := v.toList ++ g.stack } := by
      refine e3.trans ?_
      rw [hf₂, State.calling_eq h.top, State.setFrames_setFrames, State.setTop_of_frames _ hr', hr]
      rfl
    have hsame : U.sameButNew ({ U with heap := s₂.heap, slotsUsed := s₂.slotsUsed } : State) L mc ms := by
      refine ⟨?_, q2, q3, q4, q5, q6⟩
      obtain ⟨t, ht, -⟩ := State.frames_cons hr
      show ({ U with heap := s₂.heap, slotsUsed := s₂.slotsUsed } : State) = { U.setFrames U.frames with heap := s₂.heap, slotsUsed := s₂.slotsUsed }
      rw [State.setFrames_self ht]
    subst hg
    refine Or.inl ⟨v, ⟨(({ U with heap := s₂.heap, slotsUsed := s₂.slotsUsed } : State).setVm s₂.vm), Ls ++ L, c0 + mc, s0 + ms⟩,
      ⟨X.admits, X.cas, X.clock, X.frames, X.room, X.hears, X.method, X.code, (X.here.setHeapUsed s₂.heap s₂.slotsUsed).setVm hW'.alike, X.tail, State.WarmedH.trans X.warmed hW', X.limits, X.bytes, X.same.trans (hsame.setVm s.vm)⟩,
      ⟨g, mk, s₂, L, rfl, rfl, hqc, rfl, hL, rfl, rfl⟩, ?_⟩
    show Steps p.tables e below _ ((({ U with heap := s₂.heap, slotsUsed := s₂.slotsUsed } : State).setVm s₂.vm).setTop { g with pc := g.pc + len₂, stack := v.toList ++ g.stack })
    rw [← hs₂]
    exact hsteps
  · obtain ⟨e2, q2, q3, q4, q5, q6⟩ := id hsm
    have e3 : s₂ = ({ (U.calling g mk a).setFrames s₂.frames with heap := s₂.heap, slotsUsed := s₂.slotsUsed } : State).setVm s₂.vm := by
      have : s₂ = ({ s₂ with vm := (U.calling g mk a).vm } : State).setVm s₂.vm := rfl
      rw [e2] at this
      exact this
    have hf₂ : s₂.frames = .throwing q :: .java g :: U.frames.tail := hend
    have hW' : U.WarmedH s₂.vm := hW₂
    have hs₂ : s₂ = ((({ U with heap := s₂.heap, slotsUsed := s₂.slotsUsed } : State).setVm s₂.vm).setTop g).pushFrame (.throwing q) := by
      refine e3.trans ?_
      rw [hf₂, State.calling_eq h.top, State.setFrames_setFrames, State.pushFrame, State.frames_setTop _ hr', State.setTop_of_frames _ hr', State.setFrames_setFrames, hr]
      rfl
    have hsame : U.sameButNew ({ U with heap := s₂.heap, slotsUsed := s₂.slotsUsed } : State) L mc ms := by
      refine ⟨?_, q2, q3, q4, q5, q6⟩
      obtain ⟨t, ht, -⟩ := State.frames_cons hr
      show ({ U with heap := s₂.heap, slotsUsed := s₂.slotsUsed } : State) = { U.setFrames U.frames with heap := s₂.heap, slotsUsed := s₂.slotsUsed }
      rw [State.setFrames_self ht]
    subst hg
    refine Or.inr ⟨q, ⟨(({ U with heap := s₂.heap, slotsUsed := s₂.slotsUsed } : State).setVm s₂.vm), Ls ++ L, c0 + mc, s0 + ms⟩,
      ⟨X.admits, X.cas, X.clock, X.frames, X.room, X.hears, X.method, X.code, (X.here.setHeapUsed s₂.heap s₂.slotsUsed).setVm hW'.alike, X.tail, State.WarmedH.trans X.warmed hW', X.limits, X.bytes, X.same.trans (hsame.setVm s.vm)⟩,
      ⟨g, mk, s₂, L, E, ce, rfl, rfl, hx, hce, hcv, hcl, rfl, hL, rfl, rfl⟩, ?_⟩
    show Steps p.tables e below _ (((({ U with heap := s₂.heap, slotsUsed := s₂.slotsUsed } : State).setVm s₂.vm).setTop g).pushFrame (.throwing q))
    rw [← hs₂]
    exact hsteps
end
variable {p : Program} {l : Launch} {e : Env} {R : Room} {s : State} {m : MethodId} {args : Array Value} {below : List Frame} {meth : Method} {c : Code} {T : State} {H : Heap} {locs : List Loc} {cells slots : Nat}
theorem vx_callVX (X : Stand p l e R s m args below meth c T locs cells slots) (hexec : p.tables.exec = Jvm.exec) {own C : String} {index : Nat} {y : MethodName} {bytes : ByteArray} {maxL : Nat} {ret : Option FieldType} {hh : List (Nat × Nat × Nat × Nat)}
    (hown : s.vm.findClass own = some m.cls) (hlink : (Cond.methodLink own index y).before args s = true) (hinst : (Cond.instanceMethod y).before args s = true) (hsel : (Cond.selects C y y).before args s = true)
    (hcode : (Cond.codeWith y bytes maxL ret hh).before args s = true) (hy : y.cls ≠ "java/lang/invoke/MethodHandle" ∧ y.cls ≠ "java/lang/invoke/VarHandle")
    {W9 : Nat} {Pre : Pt → Array Value → Prop} {Post : Pt → Array Value → Option Value → Pt → Prop} {PostX : Pt → Array Value → Addr → Pt → Prop} (hK : vx_Back l R p e below s args y 3 W9 Pre Post PostX)
    {b : Addr} {cellB : Cell} (hcell : T.heap[b]? = some cellB) (hobj : cellB.vm.isStatics = false) (hcls : s.vm.findClass C = some cellB.cls)
    {g : JFrame} (hg : g.method = m) (hsize : g.locals.size = c.maxLocals) {argsL rest : List Value} (hlen : ∀ sig, parseMethodDescriptor y.desc = some sig → argsL.length = sig.parameters.length)
    (hstack : g.stack = argsL.reverse ++ .ref b :: rest) (hW : 2 * g.monitorRoom + (rest.map fun v => v.category).sum ≤ W9) (hdg : decode c.code g.pc = .ok (.invokevirtual index, 3))
    (hpre : ∀ vm₁, s.WarmedH vm₁ → Pre ⟨T.setVm vm₁, locs, cells, slots⟩ (Value.ref b :: argsL).toArray) :
    (∃ (v : Option Value) (vm₁ : Vm) (B : Pt), s.WarmedH vm₁ ∧ Stand p l e R s m args below meth c B.U B.locs B.cells B.slots ∧ Post ⟨T.setVm vm₁, locs, cells, slots⟩ (Value.ref b :: argsL).toArray v B ∧
      ∀ target, Steps p.tables e below (B.U.setTop { g with pc := g.pc + 3, stack := v.toList ++ rest }) target → Steps p.tables e below (T.setTop g) target) ∨
    (∃ (q : Addr) (vm₁ : Vm) (B : Pt), s.WarmedH vm₁ ∧ Stand p l e R s m args below meth c B.U B.locs B.cells B.slots ∧ PostX ⟨T.setVm vm₁, locs, cells, slots⟩ (Value.ref b :: argsL).toArray q B ∧
      Steps p.tables e below (T.setTop g) ((B.U.setTop { g with stack := rest }).pushFrame (.throwing q))) := by
  obtain ⟨mk, methM, hnamed, hmethM, hstM, habM⟩ := Cond.instanceMethod_spec hinst
  obtain ⟨m8, methM', cM, hn8, hmethM', -, -, -, -, -, -, hsigM⟩ := Cond.codeWith_spec hcode
  cases Option.some.inj (hn8.symm.trans hnamed)
  cases hmethM.symm.trans hmethM'
  obtain ⟨c2, r2, m2, q1, q2, q3, q4, kP, hkP, hkPi⟩ := Cond.selects_spec hsel
  cases hcls.symm.trans q1
  cases (State.methodFound?_of_named hnamed hy).symm.trans q2
  cases hnamed.symm.trans q3
  have hselP : selectMethod e.platform s.vm cellB.cls mk = .method mk := by rw [Launch.admits_selectMethod X.admits]; exact q4
  obtain ⟨vm₁, X₁, hstep₁⟩ := X.invokevirtual hexec hown hlink hnamed hmethM hstM hkP hkPi hy (a := b) (cell := cellB) hcell
    (fun z h => by rw [h] at hobj; cases hobj) hselP hmethM habM hkP hkPi (g := g) hg (argsL := argsL) (rest := rest) (hlen _ hsigM) hstack hdg
  rcases hK m meth c ⟨T.setVm vm₁, locs, cells, slots⟩ { g with stack := rest } (.invokevirtual index) mk (Value.ref b :: argsL).toArray X₁ hg hsize hdg hW (X₁.named hnamed) (hpre vm₁ X₁.warmed) with ⟨v, B, X', hpost, hsteps⟩ | ⟨q, B, X', hpost, hsteps⟩
  · exact Or.inl ⟨v, vm₁, B, X₁.warmed, X', hpost, fun target h => hstep₁ _ fun acts => by rw [doInvoke_state]; exact hsteps.trans h⟩
  · exact Or.inr ⟨q, vm₁, B, X₁.warmed, X', hpost, hstep₁ _ fun acts => by rw [doInvoke_state]; exact hsteps⟩
theorem vx_callSX (X : Stand p l e R s m args below meth c T locs cells slots) (hexec : p.tables.exec = Jvm.exec) {own : String} {index : Nat} {y : MethodName} {bytes : ByteArray} {maxL : Nat} {ret : Option FieldType} {hh : List (Nat × Nat × Nat × Nat)}
    (hown : s.vm.findClass own = some m.cls) (hlink : (Cond.methodLink own index y).before args s = true) (hstat : (Cond.static y).before args s = true) (hinit : (Cond.initialized y.cls).before args s = true)
    (hcode : (Cond.codeWith y bytes maxL ret hh).before args s = true) (hy : y.cls ≠ "java/lang/invoke/MethodHandle" ∧ y.cls ≠ "java/lang/invoke/VarHandle")
    {W9 : Nat} {Pre : Pt → Array Value → Prop} {Post : Pt → Array Value → Option Value → Pt → Prop} {PostX : Pt → Array Value → Addr → Pt → Prop} (hK : vx_Back l R p e below s args y 3 W9 Pre Post PostX)
    {g : JFrame} (hg : g.method = m) (hsize : g.locals.size = c.maxLocals) {argsL rest : List Value} (hlen : ∀ sig, parseMethodDescriptor y.desc = some sig → argsL.length = sig.parameters.length)
    (hstack : g.stack = argsL.reverse ++ rest) (hW : 2 * g.monitorRoom + (rest.map fun v => v.category).sum ≤ W9) (hdg : decode c.code g.pc = .ok (.invokestatic index, 3))
    (hpre : ∀ vm₁, s.WarmedH vm₁ → Pre ⟨T.setVm vm₁, locs, cells, slots⟩ argsL.toArray) :
    (∃ (v : Option Value) (vm₁ : Vm) (B : Pt), s.WarmedH vm₁ ∧ Stand p l e R s m args below meth c B.U B.locs B.cells B.slots ∧ Post ⟨T.setVm vm₁, locs, cells, slots⟩ argsL.toArray v B ∧
      ∀ target, Steps p.tables e below (B.U.setTop { g with pc := g.pc + 3, stack := v.toList ++ rest }) target → Steps p.tables e below (T.setTop g) target) ∨
    (∃ (q : Addr) (vm₁ : Vm) (B : Pt), s.WarmedH vm₁ ∧ Stand p l e R s m args below meth c B.U B.locs B.cells B.slots ∧ PostX ⟨T.setVm vm₁, locs, cells, slots⟩ argsL.toArray q B ∧
      Steps p.tables e below (T.setTop g) ((B.U.setTop { g with stack := rest }).pushFrame (.throwing q))) := by
  obtain ⟨mk, methM, cM, hnamed, hmethM, -, -, -, -, -, -, hsigM⟩ := Cond.codeWith_spec hcode
  have hstatic : methM.isStatic = true := Cond.static_spec hnamed hmethM hstat
  obtain ⟨kP, hkP, -⟩ := className_of_methodNamed hnamed
  have hinitP : kP.init = .initialized := Cond.initialized_spec (findClass_of_methodNamed hnamed) hkP hinit
  obtain ⟨vm₁, X₁, hstep₁⟩ := X.invokestatic hexec hown hlink hnamed hmethM hstatic hkP hinitP hy (g := g) hg (argsL := argsL) (rest := rest) (hlen _ hsigM) hstack hdg
  rcases hK m meth c ⟨T.setVm vm₁, locs, cells, slots⟩ { g with stack := rest } (.invokestatic index) mk argsL.toArray X₁ hg hsize hdg hW (X₁.named hnamed) (hpre vm₁ X₁.warmed) with ⟨v, B, X', hpost, hsteps⟩ | ⟨q, B, X', hpost, hsteps⟩
  · exact Or.inl ⟨v, vm₁, B, X₁.warmed, X', hpost, fun target h => hstep₁ _ fun acts => by rw [doInvoke_state]; exact hsteps.trans h⟩
  · exact Or.inr ⟨q, vm₁, B, X₁.warmed, X', hpost, hstep₁ _ fun acts => by rw [doInvoke_state]; exact hsteps⟩
theorem vx_callVW (X : Stand p l e R s m args below meth c T locs cells slots) (hexec : p.tables.exec = Jvm.exec) {own C : String} {index : Nat} {y : MethodName} {bytes : ByteArray} {maxL : Nat} {ret : Option FieldType} {hh : List (Nat × Nat × Nat × Nat)}
    (hown : s.vm.findClass own = some m.cls) (hlink : (Cond.methodLink own index y).before args s = true) (hinst : (Cond.instanceMethod y).before args s = true) (hsel : (Cond.selects C y y).before args s = true)
    (hcode : (Cond.codeWith y bytes maxL ret hh).before args s = true) (hy : y.cls ≠ "java/lang/invoke/MethodHandle" ∧ y.cls ≠ "java/lang/invoke/VarHandle")
    {W9 : Nat} {Pre : Pt → Array Value → Prop} {Post : Pt → Array Value → Option Value → Pt → Prop} (hK : Back l R p e below s args y 3 W9 Pre Post)
    {b : Addr} {cellB : Cell} (hcell : T.heap[b]? = some cellB) (hobj : cellB.vm.isStatics = false) (hcls : s.vm.findClass C = some cellB.cls)
    {g : JFrame} (hg : g.method = m) (hsize : g.locals.size = c.maxLocals) {argsL rest : List Value} (hlen : ∀ sig, parseMethodDescriptor y.desc = some sig → argsL.length = sig.parameters.length)
    (hstack : g.stack = argsL.reverse ++ .ref b :: rest) (hW : 2 * g.monitorRoom + (rest.map fun v => v.category).sum ≤ W9) (hdg : decode c.code g.pc = .ok (.invokevirtual index, 3))
    (hpre : ∀ vm₁, s.WarmedH vm₁ → Pre ⟨T.setVm vm₁, locs, cells, slots⟩ (Value.ref b :: argsL).toArray) :
    ∃ (v : Option Value) (vm₁ : Vm) (B : Pt), s.WarmedH vm₁ ∧ Stand p l e R s m args below meth c B.U B.locs B.cells B.slots ∧ Post ⟨T.setVm vm₁, locs, cells, slots⟩ (Value.ref b :: argsL).toArray v B ∧
      ∀ target, Steps p.tables e below (B.U.setTop { g with pc := g.pc + 3, stack := v.toList ++ rest }) target → Steps p.tables e below (T.setTop g) target := by
  obtain ⟨mk, methM, hnamed, hmethM, hstM, habM⟩ := Cond.instanceMethod_spec hinst
  obtain ⟨m8, methM', cM, hn8, hmethM', -, -, -, -, -, -, hsigM⟩ := Cond.codeWith_spec hcode
  cases Option.some.inj (hn8.symm.trans hnamed)
  cases hmethM.symm.trans hmethM'
  obtain ⟨c2, r2, m2, q1, q2, q3, q4, kP, hkP, hkPi⟩ := Cond.selects_spec hsel
  cases hcls.symm.trans q1
  cases (State.methodFound?_of_named hnamed hy).symm.trans q2
  cases hnamed.symm.trans q3
  have hselP : selectMethod e.platform s.vm cellB.cls mk = .method mk := by rw [Launch.admits_selectMethod X.admits]; exact q4
  obtain ⟨vm₁, X₁, hstep₁⟩ := X.invokevirtual hexec hown hlink hnamed hmethM hstM hkP hkPi hy (a := b) (cell := cellB) hcell
    (fun z h => by rw [h] at hobj; cases hobj) hselP hmethM habM hkP hkPi (g := g) hg (argsL := argsL) (rest := rest) (hlen _ hsigM) hstack hdg
  obtain ⟨v, B, X', hpost, hsteps⟩ := hK m meth c ⟨T.setVm vm₁, locs, cells, slots⟩ { g with stack := rest } (.invokevirtual index) mk (Value.ref b :: argsL).toArray X₁ hg hsize hdg hW (X₁.named hnamed) (hpre vm₁ X₁.warmed)
  exact ⟨v, vm₁, B, X₁.warmed, X', hpost, fun target h => hstep₁ _ fun acts => by rw [doInvoke_state]; exact hsteps.trans h⟩
abbrev vx_CVW (R : Room) (s : State) (args : Array Value) (own C : String) (index : Nat) (y : MethodName) (bytes : ByteArray) (maxL : Nat) (ret : Option FieldType) (hh : List (Nat × Nat × Nat × Nat)) (ws : List Cond) (rm : Room) (mc ms n : Nat) : Prop :=
  (rm.cells = mc ∧ rm.slots = ms ∧ rm.frames + 1 ≤ R.frames ∧ 8 + (maxL + 11) + rm.locals ≤ R.locals ∧ (∀ w ∈ ws, ∀ (a' : Array Value) (U : State), s.WarmedH U.vm → w.before a' U = true) ∧ Cond.codeWith y bytes maxL ret hh ∈ ws) ∧
  (Cond.codeWith y bytes maxL ret hh).before args s = true ∧ (Cond.initialized y.cls).before args s = true ∧ (y.cls ≠ "java/lang/invoke/MethodHandle" ∧ y.cls ≠ "java/lang/invoke/VarHandle") ∧
  (∀ sig, parseMethodDescriptor y.desc = some sig → n = sig.parameters.length) ∧ (Cond.methodLink own index y).before args s = true ∧ (Cond.instanceMethod y).before args s = true ∧ (Cond.selects C y y).before args s = true
theorem vx_cwVW {own C : String} {index maxL mc ms : Nat} {y : MethodName} {bytes : ByteArray} {ret : Option FieldType} {hh : List (Nat × Nat × Nat × Nat)} {Ts ws ws' : List Cond} {rm : Room} (n : Nat) (ht : ∀ w ∈ Ts, w.before args s = true) (hT : GoodIn Ts (wsV own index C y ws)) (hw : ws = Cond.codeWith y bytes maxL ret hh :: ws') (hrc : rm.cells = mc) (hrs : rm.slots = ms)
    (hd : y.cls = C ∧ y.cls ≠ "java/lang/invoke/MethodHandle" ∧ y.cls ≠ "java/lang/invoke/VarHandle" ∧ (parseMethodDescriptor y.desc).map (fun d => d.parameters.length) = some n) (hR : rm.frames + 1 ≤ R.frames ∧ 8 + (maxL + 11) + rm.locals ≤ R.locals) :
    vx_CVW R s args own C index y bytes maxL ret hh ws rm mc ms n := by
  obtain ⟨hC, hd⟩ := hd
  subst hC
  have ok : ∀ w ∈ wsV own index y.cls y ws, w.before args s = true := fun w h => ht w (hT w h).1
  have hG : GoodIn Ts ws := fun w h => hT w (by unfold wsV; exact List.mem_append_right _ h)
  have hc : Cond.codeWith y bytes maxL ret hh ∈ ws := by rw [hw]; exact List.mem_cons_self
  refine ⟨⟨hrc, hrs, hR.1, hR.2, pay_in ht hG, hc⟩, ht _ (hG _ hc).1, ok _ (by simp [wsV]), ⟨hd.1, hd.2.1⟩, fun sig h => ?_, ok _ (by simp [wsV]), ok _ (by simp [wsV]), ok _ (by simp [wsV])⟩
  have h2 := hd.2.2
  rw [h] at h2
  exact (Option.some.inj h2).symm
theorem vx_runVW {y : MethodName} {bytes cc : ByteArray} {maxL nL mc ms n index : Nat} {ret : Option FieldType} {hh : List (Nat × Nat × Nat × Nat)} {ws : List Cond} {rm : Room} {Pc : Array Value → State → Prop} {Qc : Array Value → State → Outcome → State → Prop} {free : Addr → Prop} {Ts : List Cond} {own C : String} {b : Addr} {As rest : List Value} {g : JFrame}
    (S : CallFix p m c cc nL s args Ts own) (hM : Met l y ws rm Pc Qc mc ms free) (cw : vx_CVW R s args own C index y bytes maxL ret hh ws rm mc ms n) (hp : PreV s H C b Pc As)
    (hg : g.method = m) (hn : As.length = n) (hsize : g.locals.size = nL) (hstack : g.stack = As.reverse ++ .ref b :: rest) (hW : 2 * g.monitorRoom + (rest.map fun v => v.category).sum ≤ 8) (hdg : decode cc g.pc = .ok (.invokevirtual index, 3)) (hf : cells + mc ≤ R.cells ∧ slots + ms ≤ R.slots) :
    va_Run p l e R s m args below meth c H locs cells slots mc ms g rest (Qc (Value.ref b :: As).toArray) free := by
  obtain ⟨⟨hrc, hrs, hfr, hlo, hws, hcw⟩, hcode, hini, hy, hlen, hl, hin, hse⟩ := cw
  have hK : Back l R p e below s args y 3 8 (PreOf R mc ms Pc) (PostOf Qc mc ms free) := va_backW (hh := hh) (bytes := bytes) (maxL := maxL) (ret := ret) hM hp.1 hrc hrs hfr hlo hws hcw (fun a' U hW => word_at hW (Or.inl (by first | rfl | simp [Cond.onTables, Cond.keeps, Cond.steady])) hini)
  obtain ⟨hx, hb, hml, ho, -⟩ := S
  obtain ⟨-, ⟨cellB, hcB, hoB, hclB⟩, hPc⟩ := hp
  intro T hT X
  obtain ⟨v, vm₁, ⟨U', l2, c2, s2⟩, hW₁, X', ⟨g', mk, t, L, e1, e2, hq, h1, hL, h2, h3⟩, st⟩ := vx_callVW X hx (C := C) (hh := hh) (bytes := bytes) (maxL := maxL) (ret := ret) ho hl hin hse hcode hy hK (by rw [hT]; exact hcB) hoB hclB hg (hsize.trans hml.symm) (argsL := As) (rest := rest) (fun sig h => hn.trans (hlen sig h)) hstack hW (by rw [hb]; exact hdg)
    (fun vm₁ hW₁ => ⟨hf.1, hf.2, hPc (T.setVm vm₁) hT hW₁⟩)
  dsimp only [Pt.U, Pt.locs, Pt.cells, Pt.slots] at X' e1 e2 h1 h2 h3 st
  subst h1; subst h2; subst h3
  exact ⟨v, (T.setVm vm₁).calling g' mk (Value.ref b :: As).toArray, t, U', L, hT, X', hL, e1, e2, hq, st⟩
section
variable {y : MethodName} {bytes cc : ByteArray} {maxL nL mc ms n index : Nat} {ret : Option FieldType} {ws : List Cond} {rm : Room} {Pc : Array Value → State → Prop} {Qc : Array Value → State → Outcome → State → Prop} {XC : String → State → State → Prop} {free : Addr → Prop} {Ts : List Cond} {own C : String} {b : Addr} {As rest : List Value} {g : JFrame}
theorem vx_runVX {hh : List (Nat × Nat × Nat × Nat)} (S : CallFix p m c cc nL s args Ts own) (hM : vx_Met l y ws rm Pc Qc XC mc ms free) (cw : vx_CVW R s args own C index y bytes maxL ret hh ws rm mc ms n) (hp : PreV s H C b Pc As)
    (hg : g.method = m) (hn : As.length = n) (hsize : g.locals.size = nL) (hstack : g.stack = As.reverse ++ .ref b :: rest) (hW : 2 * g.monitorRoom + (rest.map fun v => v.category).sum ≤ 8) (hdg : decode cc g.pc = .ok (.invokevirtual index, 3)) (hf : cells + mc ≤ R.cells ∧ slots + ms ≤ R.slots) :
    vx_Run p l e R s m args below meth c H locs cells slots mc ms g rest (Qc (Value.ref b :: As).toArray) XC free := by
  obtain ⟨⟨hrc, hrs, hfr, hlo, hws, hcw⟩, hcode, hini, hy, hlen, hl, hin, hse⟩ := cw
  have hK : vx_Back l R p e below s args y 3 8 (PreOf R mc ms Pc) (PostOf Qc mc ms free) (vx_Post XC mc ms free) := vx_backW (hh := hh) (bytes := bytes) (maxL := maxL) (ret := ret) hM hp.1 hrc hrs hfr hlo hws hcw (fun a' U hW => word_at hW (Or.inl (by first | rfl | simp [Cond.onTables, Cond.keeps, Cond.steady])) hini)
  obtain ⟨hx, hb, hml, ho, -⟩ := S
  obtain ⟨-, ⟨cellB, hcB, hoB, hclB⟩, hPc⟩ := hp
  intro T hT X
  rcases vx_callVX X hx (C := C) (hh := hh) (bytes := bytes) (maxL := maxL) (ret := ret) ho hl hin hse hcode hy hK (by rw [hT]; exact hcB) hoB hclB hg (hsize.trans hml.symm) (argsL := As) (rest := rest) (fun sig h => hn.trans (hlen sig h)) hstack hW (by rw [hb]; exact hdg)
    (fun vm₁ hW₁ => ⟨hf.1, hf.2, hPc (T.setVm vm₁) hT hW₁⟩) with ⟨v, vm₁, ⟨U', l2, c2, s2⟩, hW₁, X', ⟨g', mk, t, L, e1, e2, hq, h1, hL, h2, h3⟩, st⟩ | ⟨q, vm₁, ⟨U', l2, c2, s2⟩, hW₁, X', ⟨g', mk, t, L, E, ce, e1, e2, hq, hce, hcv, hcl, h1, hL, h2, h3⟩, st⟩
  · dsimp only [Pt.U, Pt.locs, Pt.cells, Pt.slots] at X' e1 e2 h1 h2 h3 st
    subst h1; subst h2; subst h3
    exact Or.inl ⟨v, (T.setVm vm₁).calling g' mk (Value.ref b :: As).toArray, t, U', L, hT, X', hL, e1, e2, hq, st⟩
  · dsimp only [Pt.U, Pt.locs, Pt.cells, Pt.slots] at X' e1 e2 h1 h2 h3 st hcl
    subst h1; subst h2; subst h3
    exact Or.inr ⟨q, (T.setVm vm₁).calling g' mk (Value.ref b :: As).toArray, t, U', L, E, ce, hT, X', hL, e1, e2, hq, hce, hcv, vx_cls hW₁ hcl, st⟩
theorem vx_runSX {hh : List (Nat × Nat × Nat × Nat)} (S : CallFix p m c cc nL s args Ts own) (hM : vx_Met l y ws rm Pc Qc XC mc ms free) (cw : vx_CSW R s args own index y bytes maxL ret hh ws rm mc ms n) (hp : PreS s H Pc As)
    (hg : g.method = m) (hn : As.length = n) (hsize : g.locals.size = nL) (hstack : g.stack = As.reverse ++ rest) (hW : 2 * g.monitorRoom + (rest.map fun v => v.category).sum ≤ 8) (hdg : decode cc g.pc = .ok (.invokestatic index, 3)) (hf : cells + mc ≤ R.cells ∧ slots + ms ≤ R.slots) :
    vx_Run p l e R s m args below meth c H locs cells slots mc ms g rest (Qc As.toArray) XC free := by
  obtain ⟨⟨hrc, hrs, hfr, hlo, hws, hcw⟩, hcode, hini, hy, hlen, hl, hstt⟩ := cw
  have hK : vx_Back l R p e below s args y 3 8 (PreOf R mc ms Pc) (PostOf Qc mc ms free) (vx_Post XC mc ms free) := vx_backW (hh := hh) (bytes := bytes) (maxL := maxL) (ret := ret) hM hp.1 hrc hrs hfr hlo hws hcw (fun a' U hW => word_at hW (Or.inl (by first | rfl | simp [Cond.onTables, Cond.keeps, Cond.steady])) hini)
  obtain ⟨hx, hb, hml, ho, -⟩ := S
  intro T hT X
  rcases vx_callSX X hx (hh := hh) (bytes := bytes) (maxL := maxL) (ret := ret) ho hl hstt hini hcode hy hK hg (hsize.trans hml.symm) (argsL := As) (rest := rest) (fun sig h => hn.trans (hlen sig h)) hstack hW (by rw [hb]; exact hdg)
    (fun vm₁ hW₁ => ⟨hf.1, hf.2, hp.2 (T.setVm vm₁) hT hW₁⟩) with ⟨v, vm₁, ⟨U', l2, c2, s2⟩, hW₁, X', ⟨g', mk, t, L, e1, e2, hq, h1, hL, h2, h3⟩, st⟩ | ⟨q, vm₁, ⟨U', l2, c2, s2⟩, hW₁, X', ⟨g', mk, t, L, E, ce, e1, e2, hq, hce, hcv, hcl, h1, hL, h2, h3⟩, st⟩
  · dsimp only [Pt.U, Pt.locs, Pt.cells, Pt.slots] at X' e1 e2 h1 h2 h3 st
    subst h1; subst h2; subst h3
    exact Or.inl ⟨v, (T.setVm vm₁).calling g' mk As.toArray, t, U', L, hT, X', hL, e1, e2, hq, st⟩
  · dsimp only [Pt.U, Pt.locs, Pt.cells, Pt.slots] at X' e1 e2 h1 h2 h3 st hcl
    subst h1; subst h2; subst h3
    exact Or.inr ⟨q, (T.setVm vm₁).calling g' mk As.toArray, t, U', L, E, ce, hT, X', hL, e1, e2, hq, hce, hcv, vx_cls hW₁ hcl, st⟩
end
end VXH
theorem vx_ofWH {l : Launch} {y : MethodName} {ws ws' : List Cond} {rm : Room} {Pc : Array Value → State → Prop} {Qc : Array Value → State → Outcome → State → Prop} {XC : String → State → State → Prop} {mc ms : Nat} {free : Addr → Prop} {cc : ByteArray} {maxL : Nat} {ret : Option FieldType} {hh : List (Nat × Nat × Nat × Nat)}
    (hy : plainName y.cls = true) (hw : ws = Cond.codeWith y cc maxL ret hh :: ws')
    (body : ∀ p e s m args below meth c s₁, BodyLoose p l y (headSpec ws rm) cc maxL ret e s m args below meth c s₁ → c.maxLocals = maxL → Pc args s →
      W p l e (headSpec ws rm).room s m args below meth c s.heap [] 0 0 (vx_MQ below Qc XC args s mc ms free) (entryFrame m args maxL)) : vx_Met l y ws rm Pc Qc XC mc ms free := by
  refine MetFree.of_bodyS (code := cc) (maxLocals := maxL) (ret := ret) hy ?_ ?_
  · intro args s m h hn
    obtain ⟨m9, meth, c, hn9, h1, h2, h3, h4, -, h5, h6, -⟩ := Cond.codeWith_spec (atoms_spec (ws := ws) h _ (by rw [hw]; exact List.mem_cons_self))
    cases hn.symm.trans hn9
    exact ⟨meth, c, h1, h2, h3, h4, h5, h6⟩
  · intro p e s m args below meth c s₁ B hml hP _
    have hh0 : s₁.heap = s.heap := by rw [B.state]; rfl
    obtain ⟨t, a1, o, b1, b2, b3⟩ := body p e s m args below meth c s₁ B hml hP s₁ hh0 (Stand.of_body B)
    exact ⟨t, o, a1, b1, b2, b3⟩
/-! ===== END ===== -/

/-! ===== BEGIN printed: names, fields, word lists, decode rows ===== -/
def RX0 : String := "CollectionsEngine$Bill"
def TX0 : u_T := fun k => match k with
  | 0 => ("CollectionsEngine$Bill", "number", "I", true)
  | 1 => ("CollectionsEngine$Bill", "account", "I", true)
  | 2 => ("CollectionsEngine$Bill", "failures", "[I", true)
  | 3 => ("CollectionsEngine$Bill", "left", "I", false)
  | 4 => ("CollectionsEngine$Bill", "state", "I", false)
  | 5 => ("CollectionsEngine$Bill", "waitDay", "I", false)
  | 6 => ("CollectionsEngine$Bill", "tries", "I", false)
  | 7 => ("CollectionsEngine$Bill", "promises", "I", false)
  | 8 => ("CollectionsEngine$Bill", "brokenPromises", "I", false)
  | 9 => ("CollectionsEngine$Bill", "stateAhead", "I", false)
  | _ => ("CollectionsEngine$Bill", "daysAhead", "I", false)
def tyX0 : Nat → FieldType := fun k => match k with
  | 0 => .int
  | 1 => .int
  | 2 => .array .int
  | 3 => .int
  | 4 => .int
  | 5 => .int
  | 6 => .int
  | 7 => .int
  | 8 => .int
  | 9 => .int
  | _ => .int
abbrev wsX00 : List Cond := u_ws RX0 TX0 11
theorem nmX0 : ∀ a, a < 11 → ∀ b, b < 11 → a ≠ b → (TX0 a).2.1 ≠ (TX0 b).2.1 := by decide +kernel
theorem tyX0_ok : ∀ k, k < 11 → parseFieldDescriptor (TX0 k).2.2.1 = some (tyX0 k) := by decide +kernel
abbrev cX0_init : ByteArray := prog_2_method_1_code
def yX0_init : MethodName := ⟨RX0, "<init>", "(III)V"⟩
def RX1 : String := "CollectionsEngine$Calendar"
def TX1 : u_T := fun k => match k with
  | 0 => ("CollectionsEngine$Calendar", "weekdays", "I", false)
  | _ => ("CollectionsEngine$Calendar", "holidays", "[J", true)
def tyX1 : Nat → FieldType := fun k => match k with
  | 0 => .int
  | _ => .array .long
abbrev wsX10 : List Cond := u_ws RX1 TX1 2
theorem nmX1 : ∀ a, a < 2 → ∀ b, b < 2 → a ≠ b → (TX1 a).2.1 ≠ (TX1 b).2.1 := by decide +kernel
theorem tyX1_ok : ∀ k, k < 2 → parseFieldDescriptor (TX1 k).2.2.1 = some (tyX1 k) := by decide +kernel
abbrev cX1_init : ByteArray := prog_3_method_1_code
def yX1_init : MethodName := ⟨RX1, "<init>", "()V"⟩
abbrev cX1_weekdaysWith : ByteArray := prog_3_method_2_code
def yX1_weekdaysWith : MethodName := ⟨RX1, "weekdaysWith", "(IZ)I"⟩
abbrev cX1_keepHoliday : ByteArray := prog_3_method_3_code
def yX1_keepHoliday : MethodName := ⟨RX1, "keepHoliday", "(I)V"⟩
abbrev cX1_isHoliday : ByteArray := prog_3_method_4_code
def yX1_isHoliday : MethodName := ⟨RX1, "isHoliday", "(I)Z"⟩
abbrev cX1_allowsCharging : ByteArray := prog_3_method_5_code
def yX1_allowsCharging : MethodName := ⟨RX1, "allowsCharging", "(I)Z"⟩
abbrev cX1_firstChargingFrom : ByteArray := prog_3_method_6_code
def yX1_firstChargingFrom : MethodName := ⟨RX1, "firstChargingFrom", "(I)I"⟩
def RX2 : String := "CollectionsEngine$EventLog"
def TX2 : u_T := fun k => match k with
  | 0 => ("CollectionsEngine$EventLog", "codes", "[I", true)
  | _ => ("CollectionsEngine$EventLog", "total", "I", false)
def tyX2 : Nat → FieldType := fun k => match k with
  | 0 => .array .int
  | _ => .int
abbrev wsX20 : List Cond := u_ws RX2 TX2 2
theorem nmX2 : ∀ a, a < 2 → ∀ b, b < 2 → a ≠ b → (TX2 a).2.1 ≠ (TX2 b).2.1 := by decide +kernel
theorem tyX2_ok : ∀ k, k < 2 → parseFieldDescriptor (TX2 k).2.2.1 = some (tyX2 k) := by decide +kernel
abbrev cX2_init : ByteArray := prog_4_method_1_code
def yX2_init : MethodName := ⟨RX2, "<init>", "()V"⟩
abbrev cX2_add : ByteArray := prog_4_method_2_code
def yX2_add : MethodName := ⟨RX2, "add", "(III)V"⟩
abbrev cX2_told : ByteArray := prog_4_method_3_code
def yX2_told : MethodName := ⟨RX2, "told", "()I"⟩
abbrev cX2_codeAt : ByteArray := prog_4_method_4_code
def yX2_codeAt : MethodName := ⟨RX2, "codeAt", "(I)I"⟩
abbrev cX2_lastStateOf : ByteArray := prog_4_method_5_code
def yX2_lastStateOf : MethodName := ⟨RX2, "lastStateOf", "(II)I"⟩
def RX3 : String := "CollectionsEngine$Gaps"
def TX3 : u_T := fun k => match k with
  | 0 => ("CollectionsEngine$Gaps", "days", "[I", true)
  | _ => ("CollectionsEngine$Gaps", "count", "I", false)
def tyX3 : Nat → FieldType := fun k => match k with
  | 0 => .array .int
  | _ => .int
abbrev wsX30 : List Cond := u_ws RX3 TX3 2
theorem nmX3 : ∀ a, a < 2 → ∀ b, b < 2 → a ≠ b → (TX3 a).2.1 ≠ (TX3 b).2.1 := by decide +kernel
theorem tyX3_ok : ∀ k, k < 2 → parseFieldDescriptor (TX3 k).2.2.1 = some (tyX3 k) := by decide +kernel
abbrev cX3_init : ByteArray := prog_5_method_1_code
def yX3_init : MethodName := ⟨RX3, "<init>", "([I)V"⟩
abbrev cX3_append : ByteArray := prog_5_method_2_code
def yX3_append : MethodName := ⟨RX3, "append", "(I)V"⟩
abbrev cX3_daysBehind : ByteArray := prog_5_method_3_code
def yX3_daysBehind : MethodName := ⟨RX3, "daysBehind", "(I)I"⟩
def RX4 : String := "CollectionsEngine"
def TX4 : u_T := fun k => match k with
  | 0 => ("CollectionsEngine", "calendar", "LCollectionsEngine$Calendar;", true)
  | 1 => ("CollectionsEngine", "gaps", "[LCollectionsEngine$Gaps;", true)
  | 2 => ("CollectionsEngine", "billRow", "[LCollectionsEngine$Bill;", true)
  | 3 => ("CollectionsEngine", "log", "LCollectionsEngine$EventLog;", true)
  | 4 => ("CollectionsEngine", "billCount", "I", false)
  | 5 => ("CollectionsEngine", "currentDay", "I", false)
  | 6 => ("CollectionsEngine", "graceTime", "I", false)
  | 7 => ("CollectionsEngine", "overdueTime", "I", false)
  | 8 => ("CollectionsEngine", "billedSum", "I", false)
  | 9 => ("CollectionsEngine", "paidSum", "I", false)
  | 10 => ("CollectionsEngine", "writtenOffSum", "I", false)
  | _ => ("CollectionsEngine", "broughtBackSum", "I", false)
def tyX4 : Nat → FieldType := fun k => match k with
  | 0 => .object "CollectionsEngine$Calendar"
  | 1 => .array (.object "CollectionsEngine$Gaps")
  | 2 => .array (.object "CollectionsEngine$Bill")
  | 3 => .object "CollectionsEngine$EventLog"
  | 4 => .int
  | 5 => .int
  | 6 => .int
  | 7 => .int
  | 8 => .int
  | 9 => .int
  | 10 => .int
  | _ => .int
abbrev wsX40 : List Cond := u_ws RX4 TX4 12
theorem nmX4 : ∀ a, a < 12 → ∀ b, b < 12 → a ≠ b → (TX4 a).2.1 ≠ (TX4 b).2.1 := by decide +kernel
theorem tyX4_ok : ∀ k, k < 12 → parseFieldDescriptor (TX4 k).2.2.1 = some (tyX4 k) := by decide +kernel
abbrev cX4_init : ByteArray := prog_1_method_1_code
def yX4_init : MethodName := ⟨RX4, "<init>", "()V"⟩
abbrev cX4_setWeekday : ByteArray := prog_1_method_2_code
def yX4_setWeekday : MethodName := ⟨RX4, "setWeekday", "(IZ)I"⟩
abbrev cX4_addHoliday : ByteArray := prog_1_method_3_code
def yX4_addHoliday : MethodName := ⟨RX4, "addHoliday", "(I)Z"⟩
abbrev cX4_addGap : ByteArray := prog_1_method_4_code
def yX4_addGap : MethodName := ⟨RX4, "addGap", "(II)I"⟩
abbrev cX4_clearGaps : ByteArray := prog_1_method_5_code
def yX4_clearGaps : MethodName := ⟨RX4, "clearGaps", "(I)I"⟩
abbrev cX4_setTimes : ByteArray := prog_1_method_6_code
def yX4_setTimes : MethodName := ⟨RX4, "setTimes", "(II)I"⟩
abbrev cX4_bill : ByteArray := prog_1_method_7_code
def yX4_bill : MethodName := ⟨RX4, "bill", "(II)I"⟩
abbrev cX4_outcome : ByteArray := prog_1_method_8_code
def yX4_outcome : MethodName := ⟨RX4, "outcome", "(II)I"⟩
abbrev cX4_pay : ByteArray := prog_1_method_9_code
def yX4_pay : MethodName := ⟨RX4, "pay", "(II)I"⟩
abbrev cX4_promise : ByteArray := prog_1_method_10_code
def yX4_promise : MethodName := ⟨RX4, "promise", "(II)I"⟩
abbrev cX4_pass : ByteArray := prog_1_method_11_code
def yX4_pass : MethodName := ⟨RX4, "pass", "(I)I"⟩
abbrev cX4_today : ByteArray := prog_1_method_12_code
def yX4_today : MethodName := ⟨RX4, "today", "()I"⟩
abbrev cX4_isCharging : ByteArray := prog_1_method_13_code
def yX4_isCharging : MethodName := ⟨RX4, "isCharging", "(I)Z"⟩
abbrev cX4_bills : ByteArray := prog_1_method_14_code
def yX4_bills : MethodName := ⟨RX4, "bills", "()I"⟩
abbrev cX4_stateOf : ByteArray := prog_1_method_15_code
def yX4_stateOf : MethodName := ⟨RX4, "stateOf", "(I)I"⟩
abbrev cX4_left : ByteArray := prog_1_method_16_code
def yX4_left : MethodName := ⟨RX4, "left", "(I)I"⟩
abbrev cX4_tries : ByteArray := prog_1_method_17_code
def yX4_tries : MethodName := ⟨RX4, "tries", "(I)I"⟩
abbrev cX4_failures : ByteArray := prog_1_method_18_code
def yX4_failures : MethodName := ⟨RX4, "failures", "(II)I"⟩
abbrev cX4_waitsFor : ByteArray := prog_1_method_19_code
def yX4_waitsFor : MethodName := ⟨RX4, "waitsFor", "(I)I"⟩
abbrev cX4_broken : ByteArray := prog_1_method_20_code
def yX4_broken : MethodName := ⟨RX4, "broken", "(I)I"⟩
abbrev cX4_service : ByteArray := prog_1_method_21_code
def yX4_service : MethodName := ⟨RX4, "service", "(I)I"⟩
abbrev cX4_billed : ByteArray := prog_1_method_22_code
def yX4_billed : MethodName := ⟨RX4, "billed", "()I"⟩
abbrev cX4_paid : ByteArray := prog_1_method_23_code
def yX4_paid : MethodName := ⟨RX4, "paid", "()I"⟩
abbrev cX4_writtenOff : ByteArray := prog_1_method_24_code
def yX4_writtenOff : MethodName := ⟨RX4, "writtenOff", "()I"⟩
abbrev cX4_broughtBack : ByteArray := prog_1_method_25_code
def yX4_broughtBack : MethodName := ⟨RX4, "broughtBack", "()I"⟩
abbrev cX4_leftIn : ByteArray := prog_1_method_26_code
def yX4_leftIn : MethodName := ⟨RX4, "leftIn", "(II)I"⟩
abbrev cX4_events : ByteArray := prog_1_method_27_code
def yX4_events : MethodName := ⟨RX4, "events", "()I"⟩
abbrev cX4_event : ByteArray := prog_1_method_28_code
def yX4_event : MethodName := ⟨RX4, "event", "(I)I"⟩
abbrev cX4_stateAt : ByteArray := prog_1_method_29_code
def yX4_stateAt : MethodName := ⟨RX4, "stateAt", "(II)I"⟩
abbrev cX4_checkRange : ByteArray := prog_1_method_30_code
def yX4_checkRange : MethodName := ⟨RX4, "checkRange", "(III)V"⟩
abbrev cX4_checkAccount : ByteArray := prog_1_method_31_code
def yX4_checkAccount : MethodName := ⟨RX4, "checkAccount", "(I)V"⟩
abbrev cX4_indexOfReason : ByteArray := prog_1_method_32_code
def yX4_indexOfReason : MethodName := ⟨RX4, "indexOfReason", "(I)I"⟩
abbrev cX4_findBill : ByteArray := prog_1_method_33_code
def yX4_findBill : MethodName := ⟨RX4, "findBill", "(I)LCollectionsEngine$Bill;"⟩
abbrev cX4_enter : ByteArray := prog_1_method_34_code
def yX4_enter : MethodName := ⟨RX4, "enter", "(LCollectionsEngine$Bill;II)V"⟩
abbrev cX4_takePayment : ByteArray := prog_1_method_35_code
def yX4_takePayment : MethodName := ⟨RX4, "takePayment", "(LCollectionsEngine$Bill;I)V"⟩
abbrev cX4_fail : ByteArray := prog_1_method_36_code
def yX4_fail : MethodName := ⟨RX4, "fail", "(LCollectionsEngine$Bill;I)V"⟩
abbrev cX4_failUnansweredTries : ByteArray := prog_1_method_37_code
def yX4_failUnansweredTries : MethodName := ⟨RX4, "failUnansweredTries", "()V"⟩
abbrev cX4_lookAtBills : ByteArray := prog_1_method_38_code
def yX4_lookAtBills : MethodName := ⟨RX4, "lookAtBills", "()I"⟩
abbrev cX4_lookAt : ByteArray := prog_1_method_39_code
def yX4_lookAt : MethodName := ⟨RX4, "lookAt", "(LCollectionsEngine$Bill;)Z"⟩
abbrev cX4_beginTry : ByteArray := prog_1_method_40_code
def yX4_beginTry : MethodName := ⟨RX4, "beginTry", "(LCollectionsEngine$Bill;)Z"⟩
abbrev cX4_breakPromise : ByteArray := prog_1_method_41_code
def yX4_breakPromise : MethodName := ⟨RX4, "breakPromise", "(LCollectionsEngine$Bill;)V"⟩
abbrev cX4_serviceWith : ByteArray := prog_1_method_42_code
def yX4_serviceWith : MethodName := ⟨RX4, "serviceWith", "(LCollectionsEngine$Bill;)I"⟩
def RX5 : String := "CollectionsEngineModel"
def TX5 : u_T := fun k => match k with
  | _ => ("", "", "", false)
def tyX5 : Nat → FieldType := fun k => match k with
  | _ => .int
abbrev wsX50 : List Cond := u_ws RX5 TX5 0
theorem nmX5 : ∀ a, a < 0 → ∀ b, b < 0 → a ≠ b → (TX5 a).2.1 ≠ (TX5 b).2.1 := by decide +kernel
theorem tyX5_ok : ∀ k, k < 0 → parseFieldDescriptor (TX5 k).2.2.1 = some (tyX5 k) := by decide +kernel
def RJ6 : String := "java/lang/Integer"
def TJ6 : u_T := fun k => match k with
  | _ => ("", "", "", false)
def tyJ6 : Nat → FieldType := fun k => match k with
  | _ => .int
abbrev wsJ60 : List Cond := u_ws RJ6 TJ6 0
theorem nmJ6 : ∀ a, a < 0 → ∀ b, b < 0 → a ≠ b → (TJ6 a).2.1 ≠ (TJ6 b).2.1 := by decide +kernel
theorem tyJ6_ok : ∀ k, k < 0 → parseFieldDescriptor (TJ6 k).2.2.1 = some (tyJ6 k) := by decide +kernel
abbrev cJ6_bitCount_0f7a4 : ByteArray := prog_12_method_49_code
def yJ6_bitCount_0f7a4 : MethodName := ⟨RJ6, "bitCount", "(I)I"⟩
def RJ9 : String := "java/lang/Math"
def TJ9 : u_T := fun k => match k with
  | _ => ("", "", "", false)
def tyJ9 : Nat → FieldType := fun k => match k with
  | _ => .int
abbrev wsJ90 : List Cond := u_ws RJ9 TJ9 0
theorem nmJ9 : ∀ a, a < 0 → ∀ b, b < 0 → a ≠ b → (TJ9 a).2.1 ≠ (TJ9 b).2.1 := by decide +kernel
theorem tyJ9_ok : ∀ k, k < 0 → parseFieldDescriptor (TJ9 k).2.2.1 = some (tyJ9 k) := by decide +kernel
abbrev cJ9_floorMod_7cf53 : ByteArray := prog_13_method_50_code
def yJ9_floorMod_7cf53 : MethodName := ⟨RJ9, "floorMod", "(II)I"⟩
abbrev cJ9_min_7cf53 : ByteArray := prog_13_method_69_code
def yJ9_min_7cf53 : MethodName := ⟨RJ9, "min", "(II)I"⟩
def RJ0 : String := "java/lang/String"
def TJ0 : u_T := fun k => match k with
  | _ => ("", "", "", false)
def tyJ0 : Nat → FieldType := fun k => match k with
  | _ => .int
abbrev wsJ00 : List Cond := u_ws RJ0 TJ0 0
theorem nmJ0 : ∀ a, a < 0 → ∀ b, b < 0 → a ≠ b → (TJ0 a).2.1 ≠ (TJ0 b).2.1 := by decide +kernel
theorem tyJ0_ok : ∀ k, k < 0 → parseFieldDescriptor (TJ0 k).2.2.1 = some (tyJ0 k) := by decide +kernel
def RL : String := "CollectionsEngineLaw"
abbrev cL_charges : ByteArray := method_2_code
def yL_charges : MethodName := ⟨RL, "charges", "([I[II)Z"⟩
abbrev cL_from : ByteArray := method_3_code
def yL_from : MethodName := ⟨RL, "from", "([I[II)I"⟩
abbrev cL_enters : ByteArray := method_4_code
def yL_enters : MethodName := ⟨RL, "enters", "([I[I[III)V"⟩
abbrev cL_fails : ByteArray := method_5_code
def yL_fails : MethodName := ⟨RL, "fails", "([I[I[I[I[I[I[III)V"⟩
abbrev cL_passes : ByteArray := method_6_code
def yL_passes : MethodName := ⟨RL, "passes", "([I[I[I[I[I[I[I[I[I)I"⟩
abbrev cL_pays : ByteArray := method_7_code
def yL_pays : MethodName := ⟨RL, "pays", "([I[I[I[III)I"⟩
abbrev cL_does : ByteArray := method_8_code
def yL_does : MethodName := ⟨RL, "does", "(LCollectionsEngine;III)I"⟩
abbrev cL_isEngine : ByteArray := method_9_code
def yL_isEngine : MethodName := ⟨RL, "isEngine", "(LCollectionsEngine;[I[I[I[I[I[I[II)Z"⟩
abbrev cL_law : ByteArray := code
def yL_law : MethodName := ⟨RL, "law", "([I)Z"⟩
theorem dX0_init_0 : decode cX0_init 0 = .ok (.aload_n 0, 1) := by decide +kernel
theorem dX0_init_1 : decode cX0_init 1 = .ok (.invokespecial 3, 3) := by decide +kernel
theorem dX0_init_4 : decode cX0_init 4 = .ok (.aload_n 0, 1) := by decide +kernel
theorem dX0_init_5 : decode cX0_init 5 = .ok (.iload_n 1, 1) := by decide +kernel
theorem dX0_init_6 : decode cX0_init 6 = .ok (.putfield 9, 3) := by decide +kernel
theorem dX0_init_9 : decode cX0_init 9 = .ok (.aload_n 0, 1) := by decide +kernel
theorem dX0_init_10 : decode cX0_init 10 = .ok (.iload_n 2, 1) := by decide +kernel
theorem dX0_init_11 : decode cX0_init 11 = .ok (.putfield 15, 3) := by decide +kernel
theorem dX0_init_14 : decode cX0_init 14 = .ok (.aload_n 0, 1) := by decide +kernel
theorem dX0_init_15 : decode cX0_init 15 = .ok (.iload_n 3, 1) := by decide +kernel
theorem dX0_init_16 : decode cX0_init 16 = .ok (.putfield 18, 3) := by decide +kernel
theorem dX0_init_19 : decode cX0_init 19 = .ok (.aload_n 0, 1) := by decide +kernel
theorem dX0_init_20 : decode cX0_init 20 = .ok (.iconst 4, 1) := by decide +kernel
theorem dX0_init_21 : decode cX0_init 21 = .ok (.newarray .int, 2) := by decide +kernel
theorem dX0_init_23 : decode cX0_init 23 = .ok (.putfield 21, 3) := by decide +kernel
theorem dX0_init_26 : decode cX0_init 26 = .ok (.return_, 1) := by decide +kernel
theorem dX1_init_0 : decode cX1_init 0 = .ok (.aload_n 0, 1) := by decide +kernel
theorem dX1_init_1 : decode cX1_init 1 = .ok (.invokespecial 1, 3) := by decide +kernel
theorem dX1_init_4 : decode cX1_init 4 = .ok (.aload_n 0, 1) := by decide +kernel
theorem dX1_init_5 : decode cX1_init 5 = .ok (.bipush 31, 2) := by decide +kernel
theorem dX1_init_7 : decode cX1_init 7 = .ok (.putfield 9, 3) := by decide +kernel
theorem dX1_init_10 : decode cX1_init 10 = .ok (.aload_n 0, 1) := by decide +kernel
theorem dX1_init_11 : decode cX1_init 11 = .ok (.sipush 485, 3) := by decide +kernel
theorem dX1_init_14 : decode cX1_init 14 = .ok (.newarray .long, 2) := by decide +kernel
theorem dX1_init_16 : decode cX1_init 16 = .ok (.putfield 13, 3) := by decide +kernel
theorem dX1_init_19 : decode cX1_init 19 = .ok (.return_, 1) := by decide +kernel
theorem dX1_weekdaysWith_0 : decode cX1_weekdaysWith 0 = .ok (.iconst 1, 1) := by decide +kernel
theorem dX1_weekdaysWith_1 : decode cX1_weekdaysWith 1 = .ok (.iload_n 1, 1) := by decide +kernel
theorem dX1_weekdaysWith_2 : decode cX1_weekdaysWith 2 = .ok (.ishl, 1) := by decide +kernel
theorem dX1_weekdaysWith_3 : decode cX1_weekdaysWith 3 = .ok (.istore_n 3, 1) := by decide +kernel
theorem dX1_weekdaysWith_4 : decode cX1_weekdaysWith 4 = .ok (.iload_n 2, 1) := by decide +kernel
theorem dX1_weekdaysWith_5 : decode cX1_weekdaysWith 5 = .ok (.ifCond .eq 12, 3) := by decide +kernel
theorem dX1_weekdaysWith_8 : decode cX1_weekdaysWith 8 = .ok (.aload_n 0, 1) := by decide +kernel
theorem dX1_weekdaysWith_9 : decode cX1_weekdaysWith 9 = .ok (.getfield 9, 3) := by decide +kernel
theorem dX1_weekdaysWith_12 : decode cX1_weekdaysWith 12 = .ok (.iload_n 3, 1) := by decide +kernel
theorem dX1_weekdaysWith_13 : decode cX1_weekdaysWith 13 = .ok (.ior, 1) := by decide +kernel
theorem dX1_weekdaysWith_14 : decode cX1_weekdaysWith 14 = .ok (.goto 11, 3) := by decide +kernel
theorem dX1_weekdaysWith_17 : decode cX1_weekdaysWith 17 = .ok (.aload_n 0, 1) := by decide +kernel
theorem dX1_weekdaysWith_18 : decode cX1_weekdaysWith 18 = .ok (.getfield 9, 3) := by decide +kernel
theorem dX1_weekdaysWith_21 : decode cX1_weekdaysWith 21 = .ok (.iload_n 3, 1) := by decide +kernel
theorem dX1_weekdaysWith_22 : decode cX1_weekdaysWith 22 = .ok (.iconst (-1), 1) := by decide +kernel
theorem dX1_weekdaysWith_23 : decode cX1_weekdaysWith 23 = .ok (.ixor, 1) := by decide +kernel
theorem dX1_weekdaysWith_24 : decode cX1_weekdaysWith 24 = .ok (.iand, 1) := by decide +kernel
theorem dX1_weekdaysWith_25 : decode cX1_weekdaysWith 25 = .ok (.ireturn, 1) := by decide +kernel
theorem dX1_keepHoliday_0 : decode cX1_keepHoliday 0 = .ok (.iload_n 1, 1) := by decide +kernel
theorem dX1_keepHoliday_1 : decode cX1_keepHoliday 1 = .ok (.bipush 6, 2) := by decide +kernel
theorem dX1_keepHoliday_3 : decode cX1_keepHoliday 3 = .ok (.ishr, 1) := by decide +kernel
theorem dX1_keepHoliday_4 : decode cX1_keepHoliday 4 = .ok (.istore_n 2, 1) := by decide +kernel
theorem dX1_keepHoliday_5 : decode cX1_keepHoliday 5 = .ok (.iload_n 2, 1) := by decide +kernel
theorem dX1_keepHoliday_6 : decode cX1_keepHoliday 6 = .ok (.ifCond .lt 27, 3) := by decide +kernel
theorem dX1_keepHoliday_9 : decode cX1_keepHoliday 9 = .ok (.iload_n 2, 1) := by decide +kernel
theorem dX1_keepHoliday_10 : decode cX1_keepHoliday 10 = .ok (.aload_n 0, 1) := by decide +kernel
theorem dX1_keepHoliday_11 : decode cX1_keepHoliday 11 = .ok (.getfield 13, 3) := by decide +kernel
theorem dX1_keepHoliday_14 : decode cX1_keepHoliday 14 = .ok (.arraylength, 1) := by decide +kernel
theorem dX1_keepHoliday_15 : decode cX1_keepHoliday 15 = .ok (.if_icmp .ge 18, 3) := by decide +kernel
theorem dX1_keepHoliday_18 : decode cX1_keepHoliday 18 = .ok (.aload_n 0, 1) := by decide +kernel
theorem dX1_keepHoliday_19 : decode cX1_keepHoliday 19 = .ok (.getfield 13, 3) := by decide +kernel
theorem dX1_keepHoliday_22 : decode cX1_keepHoliday 22 = .ok (.iload_n 2, 1) := by decide +kernel
theorem dX1_keepHoliday_23 : decode cX1_keepHoliday 23 = .ok (.dup2, 1) := by decide +kernel
theorem dX1_keepHoliday_24 : decode cX1_keepHoliday 24 = .ok (.laload, 1) := by decide +kernel
theorem dX1_keepHoliday_25 : decode cX1_keepHoliday 25 = .ok (.lconst 1, 1) := by decide +kernel
theorem dX1_keepHoliday_26 : decode cX1_keepHoliday 26 = .ok (.iload_n 1, 1) := by decide +kernel
theorem dX1_keepHoliday_27 : decode cX1_keepHoliday 27 = .ok (.bipush 63, 2) := by decide +kernel
theorem dX1_keepHoliday_29 : decode cX1_keepHoliday 29 = .ok (.iand, 1) := by decide +kernel
theorem dX1_keepHoliday_30 : decode cX1_keepHoliday 30 = .ok (.lshl, 1) := by decide +kernel
theorem dX1_keepHoliday_31 : decode cX1_keepHoliday 31 = .ok (.lor, 1) := by decide +kernel
theorem dX1_keepHoliday_32 : decode cX1_keepHoliday 32 = .ok (.lastore, 1) := by decide +kernel
theorem dX1_keepHoliday_33 : decode cX1_keepHoliday 33 = .ok (.return_, 1) := by decide +kernel
theorem dX1_isHoliday_0 : decode cX1_isHoliday 0 = .ok (.iload_n 1, 1) := by decide +kernel
theorem dX1_isHoliday_1 : decode cX1_isHoliday 1 = .ok (.bipush 6, 2) := by decide +kernel
theorem dX1_isHoliday_3 : decode cX1_isHoliday 3 = .ok (.ishr, 1) := by decide +kernel
theorem dX1_isHoliday_4 : decode cX1_isHoliday 4 = .ok (.istore_n 2, 1) := by decide +kernel
theorem dX1_isHoliday_5 : decode cX1_isHoliday 5 = .ok (.iload_n 2, 1) := by decide +kernel
theorem dX1_isHoliday_6 : decode cX1_isHoliday 6 = .ok (.ifCond .lt 34, 3) := by decide +kernel
theorem dX1_isHoliday_9 : decode cX1_isHoliday 9 = .ok (.iload_n 2, 1) := by decide +kernel
theorem dX1_isHoliday_10 : decode cX1_isHoliday 10 = .ok (.aload_n 0, 1) := by decide +kernel
theorem dX1_isHoliday_11 : decode cX1_isHoliday 11 = .ok (.getfield 13, 3) := by decide +kernel
theorem dX1_isHoliday_14 : decode cX1_isHoliday 14 = .ok (.arraylength, 1) := by decide +kernel
theorem dX1_isHoliday_15 : decode cX1_isHoliday 15 = .ok (.if_icmp .ge 25, 3) := by decide +kernel
theorem dX1_isHoliday_18 : decode cX1_isHoliday 18 = .ok (.aload_n 0, 1) := by decide +kernel
theorem dX1_isHoliday_19 : decode cX1_isHoliday 19 = .ok (.getfield 13, 3) := by decide +kernel
theorem dX1_isHoliday_22 : decode cX1_isHoliday 22 = .ok (.iload_n 2, 1) := by decide +kernel
theorem dX1_isHoliday_23 : decode cX1_isHoliday 23 = .ok (.laload, 1) := by decide +kernel
theorem dX1_isHoliday_24 : decode cX1_isHoliday 24 = .ok (.iload_n 1, 1) := by decide +kernel
theorem dX1_isHoliday_25 : decode cX1_isHoliday 25 = .ok (.bipush 63, 2) := by decide +kernel
theorem dX1_isHoliday_27 : decode cX1_isHoliday 27 = .ok (.iand, 1) := by decide +kernel
theorem dX1_isHoliday_28 : decode cX1_isHoliday 28 = .ok (.lushr, 1) := by decide +kernel
theorem dX1_isHoliday_29 : decode cX1_isHoliday 29 = .ok (.lconst 1, 1) := by decide +kernel
theorem dX1_isHoliday_30 : decode cX1_isHoliday 30 = .ok (.land, 1) := by decide +kernel
theorem dX1_isHoliday_31 : decode cX1_isHoliday 31 = .ok (.lconst 1, 1) := by decide +kernel
theorem dX1_isHoliday_32 : decode cX1_isHoliday 32 = .ok (.lcmp, 1) := by decide +kernel
theorem dX1_isHoliday_33 : decode cX1_isHoliday 33 = .ok (.ifCond .ne 7, 3) := by decide +kernel
theorem dX1_isHoliday_36 : decode cX1_isHoliday 36 = .ok (.iconst 1, 1) := by decide +kernel
theorem dX1_isHoliday_37 : decode cX1_isHoliday 37 = .ok (.goto 4, 3) := by decide +kernel
theorem dX1_isHoliday_40 : decode cX1_isHoliday 40 = .ok (.iconst 0, 1) := by decide +kernel
theorem dX1_isHoliday_41 : decode cX1_isHoliday 41 = .ok (.ireturn, 1) := by decide +kernel
theorem dX1_allowsCharging_0 : decode cX1_allowsCharging 0 = .ok (.iconst 1, 1) := by decide +kernel
theorem dX1_allowsCharging_1 : decode cX1_allowsCharging 1 = .ok (.iload_n 1, 1) := by decide +kernel
theorem dX1_allowsCharging_2 : decode cX1_allowsCharging 2 = .ok (.bipush 7, 2) := by decide +kernel
theorem dX1_allowsCharging_4 : decode cX1_allowsCharging 4 = .ok (.invokestatic 17, 3) := by decide +kernel
theorem dX1_allowsCharging_7 : decode cX1_allowsCharging 7 = .ok (.ishl, 1) := by decide +kernel
theorem dX1_allowsCharging_8 : decode cX1_allowsCharging 8 = .ok (.istore_n 2, 1) := by decide +kernel
theorem dX1_allowsCharging_9 : decode cX1_allowsCharging 9 = .ok (.aload_n 0, 1) := by decide +kernel
theorem dX1_allowsCharging_10 : decode cX1_allowsCharging 10 = .ok (.getfield 9, 3) := by decide +kernel
theorem dX1_allowsCharging_13 : decode cX1_allowsCharging 13 = .ok (.iload_n 2, 1) := by decide +kernel
theorem dX1_allowsCharging_14 : decode cX1_allowsCharging 14 = .ok (.iand, 1) := by decide +kernel
theorem dX1_allowsCharging_15 : decode cX1_allowsCharging 15 = .ok (.ifCond .eq 15, 3) := by decide +kernel
theorem dX1_allowsCharging_18 : decode cX1_allowsCharging 18 = .ok (.aload_n 0, 1) := by decide +kernel
theorem dX1_allowsCharging_19 : decode cX1_allowsCharging 19 = .ok (.iload_n 1, 1) := by decide +kernel
theorem dX1_allowsCharging_20 : decode cX1_allowsCharging 20 = .ok (.invokevirtual 23, 3) := by decide +kernel
theorem dX1_allowsCharging_23 : decode cX1_allowsCharging 23 = .ok (.ifCond .ne 7, 3) := by decide +kernel
theorem dX1_allowsCharging_26 : decode cX1_allowsCharging 26 = .ok (.iconst 1, 1) := by decide +kernel
theorem dX1_allowsCharging_27 : decode cX1_allowsCharging 27 = .ok (.goto 4, 3) := by decide +kernel
theorem dX1_allowsCharging_30 : decode cX1_allowsCharging 30 = .ok (.iconst 0, 1) := by decide +kernel
theorem dX1_allowsCharging_31 : decode cX1_allowsCharging 31 = .ok (.ireturn, 1) := by decide +kernel
theorem dX1_firstChargingFrom_0 : decode cX1_firstChargingFrom 0 = .ok (.iload_n 1, 1) := by decide +kernel
theorem dX1_firstChargingFrom_1 : decode cX1_firstChargingFrom 1 = .ok (.istore_n 2, 1) := by decide +kernel
theorem dX1_firstChargingFrom_2 : decode cX1_firstChargingFrom 2 = .ok (.iconst 0, 1) := by decide +kernel
theorem dX1_firstChargingFrom_3 : decode cX1_firstChargingFrom 3 = .ok (.istore_n 3, 1) := by decide +kernel
theorem dX1_firstChargingFrom_4 : decode cX1_firstChargingFrom 4 = .ok (.iload_n 3, 1) := by decide +kernel
theorem dX1_firstChargingFrom_5 : decode cX1_firstChargingFrom 5 = .ok (.sipush 1000, 3) := by decide +kernel
theorem dX1_firstChargingFrom_8 : decode cX1_firstChargingFrom 8 = .ok (.if_icmp .ge 20, 3) := by decide +kernel
theorem dX1_firstChargingFrom_11 : decode cX1_firstChargingFrom 11 = .ok (.aload_n 0, 1) := by decide +kernel
theorem dX1_firstChargingFrom_12 : decode cX1_firstChargingFrom 12 = .ok (.iload_n 2, 1) := by decide +kernel
theorem dX1_firstChargingFrom_13 : decode cX1_firstChargingFrom 13 = .ok (.invokevirtual 27, 3) := by decide +kernel
theorem dX1_firstChargingFrom_16 : decode cX1_firstChargingFrom 16 = .ok (.ifCond .ne 12, 3) := by decide +kernel
theorem dX1_firstChargingFrom_19 : decode cX1_firstChargingFrom 19 = .ok (.iinc 2 1, 3) := by decide +kernel
theorem dX1_firstChargingFrom_22 : decode cX1_firstChargingFrom 22 = .ok (.iinc 3 1, 3) := by decide +kernel
theorem dX1_firstChargingFrom_25 : decode cX1_firstChargingFrom 25 = .ok (.goto (-21), 3) := by decide +kernel
theorem dX1_firstChargingFrom_28 : decode cX1_firstChargingFrom 28 = .ok (.iload_n 2, 1) := by decide +kernel
theorem dX1_firstChargingFrom_29 : decode cX1_firstChargingFrom 29 = .ok (.ireturn, 1) := by decide +kernel
theorem dX2_init_0 : decode cX2_init 0 = .ok (.aload_n 0, 1) := by decide +kernel
theorem dX2_init_1 : decode cX2_init 1 = .ok (.invokespecial 3, 3) := by decide +kernel
theorem dX2_init_4 : decode cX2_init 4 = .ok (.aload_n 0, 1) := by decide +kernel
theorem dX2_init_5 : decode cX2_init 5 = .ok (.sipush 400, 3) := by decide +kernel
theorem dX2_init_8 : decode cX2_init 8 = .ok (.newarray .int, 2) := by decide +kernel
theorem dX2_init_10 : decode cX2_init 10 = .ok (.putfield 9, 3) := by decide +kernel
theorem dX2_init_13 : decode cX2_init 13 = .ok (.return_, 1) := by decide +kernel
theorem dX2_add_0 : decode cX2_add 0 = .ok (.aload_n 0, 1) := by decide +kernel
theorem dX2_add_1 : decode cX2_add 1 = .ok (.getfield 9, 3) := by decide +kernel
theorem dX2_add_4 : decode cX2_add 4 = .ok (.aload_n 0, 1) := by decide +kernel
theorem dX2_add_5 : decode cX2_add 5 = .ok (.getfield 15, 3) := by decide +kernel
theorem dX2_add_8 : decode cX2_add 8 = .ok (.sipush 400, 3) := by decide +kernel
theorem dX2_add_11 : decode cX2_add 11 = .ok (.invokestatic 19, 3) := by decide +kernel
theorem dX2_add_14 : decode cX2_add 14 = .ok (.sipush 1000, 3) := by decide +kernel
theorem dX2_add_17 : decode cX2_add 17 = .ok (.iload_n 1, 1) := by decide +kernel
theorem dX2_add_18 : decode cX2_add 18 = .ok (.imul, 1) := by decide +kernel
theorem dX2_add_19 : decode cX2_add 19 = .ok (.bipush 10, 2) := by decide +kernel
theorem dX2_add_21 : decode cX2_add 21 = .ok (.iload_n 2, 1) := by decide +kernel
theorem dX2_add_22 : decode cX2_add 22 = .ok (.imul, 1) := by decide +kernel
theorem dX2_add_23 : decode cX2_add 23 = .ok (.iadd, 1) := by decide +kernel
theorem dX2_add_24 : decode cX2_add 24 = .ok (.iload_n 3, 1) := by decide +kernel
theorem dX2_add_25 : decode cX2_add 25 = .ok (.iadd, 1) := by decide +kernel
theorem dX2_add_26 : decode cX2_add 26 = .ok (.iastore, 1) := by decide +kernel
theorem dX2_add_27 : decode cX2_add 27 = .ok (.aload_n 0, 1) := by decide +kernel
theorem dX2_add_28 : decode cX2_add 28 = .ok (.dup, 1) := by decide +kernel
theorem dX2_add_29 : decode cX2_add 29 = .ok (.getfield 15, 3) := by decide +kernel
theorem dX2_add_32 : decode cX2_add 32 = .ok (.iconst 1, 1) := by decide +kernel
theorem dX2_add_33 : decode cX2_add 33 = .ok (.iadd, 1) := by decide +kernel
theorem dX2_add_34 : decode cX2_add 34 = .ok (.putfield 15, 3) := by decide +kernel
theorem dX2_add_37 : decode cX2_add 37 = .ok (.return_, 1) := by decide +kernel
theorem dX2_told_0 : decode cX2_told 0 = .ok (.aload_n 0, 1) := by decide +kernel
theorem dX2_told_1 : decode cX2_told 1 = .ok (.getfield 15, 3) := by decide +kernel
theorem dX2_told_4 : decode cX2_told 4 = .ok (.sipush 400, 3) := by decide +kernel
theorem dX2_told_7 : decode cX2_told 7 = .ok (.invokestatic 25, 3) := by decide +kernel
theorem dX2_told_10 : decode cX2_told 10 = .ok (.ireturn, 1) := by decide +kernel
theorem dX2_codeAt_0 : decode cX2_codeAt 0 = .ok (.aload_n 0, 1) := by decide +kernel
theorem dX2_codeAt_1 : decode cX2_codeAt 1 = .ok (.getfield 9, 3) := by decide +kernel
theorem dX2_codeAt_4 : decode cX2_codeAt 4 = .ok (.aload_n 0, 1) := by decide +kernel
theorem dX2_codeAt_5 : decode cX2_codeAt 5 = .ok (.getfield 15, 3) := by decide +kernel
theorem dX2_codeAt_8 : decode cX2_codeAt 8 = .ok (.iconst 1, 1) := by decide +kernel
theorem dX2_codeAt_9 : decode cX2_codeAt 9 = .ok (.isub, 1) := by decide +kernel
theorem dX2_codeAt_10 : decode cX2_codeAt 10 = .ok (.iload_n 1, 1) := by decide +kernel
theorem dX2_codeAt_11 : decode cX2_codeAt 11 = .ok (.isub, 1) := by decide +kernel
theorem dX2_codeAt_12 : decode cX2_codeAt 12 = .ok (.sipush 400, 3) := by decide +kernel
theorem dX2_codeAt_15 : decode cX2_codeAt 15 = .ok (.invokestatic 19, 3) := by decide +kernel
theorem dX2_codeAt_18 : decode cX2_codeAt 18 = .ok (.iaload, 1) := by decide +kernel
theorem dX2_codeAt_19 : decode cX2_codeAt 19 = .ok (.ireturn, 1) := by decide +kernel
theorem dX2_lastStateOf_0 : decode cX2_lastStateOf 0 = .ok (.aload_n 0, 1) := by decide +kernel
theorem dX2_lastStateOf_1 : decode cX2_lastStateOf 1 = .ok (.invokevirtual 28, 3) := by decide +kernel
theorem dX2_lastStateOf_4 : decode cX2_lastStateOf 4 = .ok (.istore_n 3, 1) := by decide +kernel
theorem dX2_lastStateOf_5 : decode cX2_lastStateOf 5 = .ok (.iconst 0, 1) := by decide +kernel
theorem dX2_lastStateOf_6 : decode cX2_lastStateOf 6 = .ok (.istore 4, 2) := by decide +kernel
theorem dX2_lastStateOf_8 : decode cX2_lastStateOf 8 = .ok (.iload 4, 2) := by decide +kernel
theorem dX2_lastStateOf_10 : decode cX2_lastStateOf 10 = .ok (.iload_n 3, 1) := by decide +kernel
theorem dX2_lastStateOf_11 : decode cX2_lastStateOf 11 = .ok (.if_icmp .ge 58, 3) := by decide +kernel
theorem dX2_lastStateOf_14 : decode cX2_lastStateOf 14 = .ok (.aload_n 0, 1) := by decide +kernel
theorem dX2_lastStateOf_15 : decode cX2_lastStateOf 15 = .ok (.iload 4, 2) := by decide +kernel
theorem dX2_lastStateOf_17 : decode cX2_lastStateOf 17 = .ok (.invokevirtual 32, 3) := by decide +kernel
theorem dX2_lastStateOf_20 : decode cX2_lastStateOf 20 = .ok (.istore 5, 2) := by decide +kernel
theorem dX2_lastStateOf_22 : decode cX2_lastStateOf 22 = .ok (.iload 5, 2) := by decide +kernel
theorem dX2_lastStateOf_24 : decode cX2_lastStateOf 24 = .ok (.sipush 1000, 3) := by decide +kernel
theorem dX2_lastStateOf_27 : decode cX2_lastStateOf 27 = .ok (.irem, 1) := by decide +kernel
theorem dX2_lastStateOf_28 : decode cX2_lastStateOf 28 = .ok (.bipush 10, 2) := by decide +kernel
theorem dX2_lastStateOf_30 : decode cX2_lastStateOf 30 = .ok (.idiv, 1) := by decide +kernel
theorem dX2_lastStateOf_31 : decode cX2_lastStateOf 31 = .ok (.iload_n 1, 1) := by decide +kernel
theorem dX2_lastStateOf_32 : decode cX2_lastStateOf 32 = .ok (.if_icmp .ne 7, 3) := by decide +kernel
theorem dX2_lastStateOf_35 : decode cX2_lastStateOf 35 = .ok (.iconst 1, 1) := by decide +kernel
theorem dX2_lastStateOf_36 : decode cX2_lastStateOf 36 = .ok (.goto 4, 3) := by decide +kernel
theorem dX2_lastStateOf_39 : decode cX2_lastStateOf 39 = .ok (.iconst 0, 1) := by decide +kernel
theorem dX2_lastStateOf_40 : decode cX2_lastStateOf 40 = .ok (.istore 6, 2) := by decide +kernel
theorem dX2_lastStateOf_42 : decode cX2_lastStateOf 42 = .ok (.iload 6, 2) := by decide +kernel
theorem dX2_lastStateOf_44 : decode cX2_lastStateOf 44 = .ok (.ifCond .eq 19, 3) := by decide +kernel
theorem dX2_lastStateOf_47 : decode cX2_lastStateOf 47 = .ok (.iload 5, 2) := by decide +kernel
theorem dX2_lastStateOf_49 : decode cX2_lastStateOf 49 = .ok (.sipush 1000, 3) := by decide +kernel
theorem dX2_lastStateOf_52 : decode cX2_lastStateOf 52 = .ok (.idiv, 1) := by decide +kernel
theorem dX2_lastStateOf_53 : decode cX2_lastStateOf 53 = .ok (.iload_n 2, 1) := by decide +kernel
theorem dX2_lastStateOf_54 : decode cX2_lastStateOf 54 = .ok (.if_icmp .gt 9, 3) := by decide +kernel
theorem dX2_lastStateOf_57 : decode cX2_lastStateOf 57 = .ok (.iload 5, 2) := by decide +kernel
theorem dX2_lastStateOf_59 : decode cX2_lastStateOf 59 = .ok (.bipush 10, 2) := by decide +kernel
theorem dX2_lastStateOf_61 : decode cX2_lastStateOf 61 = .ok (.irem, 1) := by decide +kernel
theorem dX2_lastStateOf_62 : decode cX2_lastStateOf 62 = .ok (.ireturn, 1) := by decide +kernel
theorem dX2_lastStateOf_63 : decode cX2_lastStateOf 63 = .ok (.iinc 4 1, 3) := by decide +kernel
theorem dX2_lastStateOf_66 : decode cX2_lastStateOf 66 = .ok (.goto (-58), 3) := by decide +kernel
theorem dX2_lastStateOf_69 : decode cX2_lastStateOf 69 = .ok (.iconst (-1), 1) := by decide +kernel
theorem dX2_lastStateOf_70 : decode cX2_lastStateOf 70 = .ok (.ireturn, 1) := by decide +kernel
theorem dX3_init_0 : decode cX3_init 0 = .ok (.aload_n 0, 1) := by decide +kernel
theorem dX3_init_1 : decode cX3_init 1 = .ok (.invokespecial 3, 3) := by decide +kernel
theorem dX3_init_4 : decode cX3_init 4 = .ok (.aload_n 0, 1) := by decide +kernel
theorem dX3_init_5 : decode cX3_init 5 = .ok (.bipush 6, 2) := by decide +kernel
theorem dX3_init_7 : decode cX3_init 7 = .ok (.newarray .int, 2) := by decide +kernel
theorem dX3_init_9 : decode cX3_init 9 = .ok (.putfield 9, 3) := by decide +kernel
theorem dX3_init_12 : decode cX3_init 12 = .ok (.iconst 0, 1) := by decide +kernel
theorem dX3_init_13 : decode cX3_init 13 = .ok (.istore_n 2, 1) := by decide +kernel
theorem dX3_init_14 : decode cX3_init 14 = .ok (.iload_n 2, 1) := by decide +kernel
theorem dX3_init_15 : decode cX3_init 15 = .ok (.aload_n 1, 1) := by decide +kernel
theorem dX3_init_16 : decode cX3_init 16 = .ok (.arraylength, 1) := by decide +kernel
theorem dX3_init_17 : decode cX3_init 17 = .ok (.if_icmp .ge 37, 3) := by decide +kernel
theorem dX3_init_20 : decode cX3_init 20 = .ok (.iload_n 2, 1) := by decide +kernel
theorem dX3_init_21 : decode cX3_init 21 = .ok (.aload_n 0, 1) := by decide +kernel
theorem dX3_init_22 : decode cX3_init 22 = .ok (.getfield 9, 3) := by decide +kernel
theorem dX3_init_25 : decode cX3_init 25 = .ok (.arraylength, 1) := by decide +kernel
theorem dX3_init_26 : decode cX3_init 26 = .ok (.if_icmp .ge 28, 3) := by decide +kernel
theorem dX3_init_29 : decode cX3_init 29 = .ok (.aload_n 0, 1) := by decide +kernel
theorem dX3_init_30 : decode cX3_init 30 = .ok (.getfield 9, 3) := by decide +kernel
theorem dX3_init_33 : decode cX3_init 33 = .ok (.iload_n 2, 1) := by decide +kernel
theorem dX3_init_34 : decode cX3_init 34 = .ok (.aload_n 1, 1) := by decide +kernel
theorem dX3_init_35 : decode cX3_init 35 = .ok (.iload_n 2, 1) := by decide +kernel
theorem dX3_init_36 : decode cX3_init 36 = .ok (.iaload, 1) := by decide +kernel
theorem dX3_init_37 : decode cX3_init 37 = .ok (.iastore, 1) := by decide +kernel
theorem dX3_init_38 : decode cX3_init 38 = .ok (.aload_n 0, 1) := by decide +kernel
theorem dX3_init_39 : decode cX3_init 39 = .ok (.dup, 1) := by decide +kernel
theorem dX3_init_40 : decode cX3_init 40 = .ok (.getfield 15, 3) := by decide +kernel
theorem dX3_init_43 : decode cX3_init 43 = .ok (.iconst 1, 1) := by decide +kernel
theorem dX3_init_44 : decode cX3_init 44 = .ok (.iadd, 1) := by decide +kernel
theorem dX3_init_45 : decode cX3_init 45 = .ok (.putfield 15, 3) := by decide +kernel
theorem dX3_init_48 : decode cX3_init 48 = .ok (.iinc 2 1, 3) := by decide +kernel
theorem dX3_init_51 : decode cX3_init 51 = .ok (.goto (-37), 3) := by decide +kernel
theorem dX3_init_54 : decode cX3_init 54 = .ok (.return_, 1) := by decide +kernel
theorem dX3_append_0 : decode cX3_append 0 = .ok (.aload_n 0, 1) := by decide +kernel
theorem dX3_append_1 : decode cX3_append 1 = .ok (.getfield 15, 3) := by decide +kernel
theorem dX3_append_4 : decode cX3_append 4 = .ok (.ifCond .lt 35, 3) := by decide +kernel
theorem dX3_append_7 : decode cX3_append 7 = .ok (.aload_n 0, 1) := by decide +kernel
theorem dX3_append_8 : decode cX3_append 8 = .ok (.getfield 15, 3) := by decide +kernel
theorem dX3_append_11 : decode cX3_append 11 = .ok (.aload_n 0, 1) := by decide +kernel
theorem dX3_append_12 : decode cX3_append 12 = .ok (.getfield 9, 3) := by decide +kernel
theorem dX3_append_15 : decode cX3_append 15 = .ok (.arraylength, 1) := by decide +kernel
theorem dX3_append_16 : decode cX3_append 16 = .ok (.if_icmp .ge 23, 3) := by decide +kernel
theorem dX3_append_19 : decode cX3_append 19 = .ok (.aload_n 0, 1) := by decide +kernel
theorem dX3_append_20 : decode cX3_append 20 = .ok (.getfield 9, 3) := by decide +kernel
theorem dX3_append_23 : decode cX3_append 23 = .ok (.aload_n 0, 1) := by decide +kernel
theorem dX3_append_24 : decode cX3_append 24 = .ok (.getfield 15, 3) := by decide +kernel
theorem dX3_append_27 : decode cX3_append 27 = .ok (.iload_n 1, 1) := by decide +kernel
theorem dX3_append_28 : decode cX3_append 28 = .ok (.iastore, 1) := by decide +kernel
theorem dX3_append_29 : decode cX3_append 29 = .ok (.aload_n 0, 1) := by decide +kernel
theorem dX3_append_30 : decode cX3_append 30 = .ok (.dup, 1) := by decide +kernel
theorem dX3_append_31 : decode cX3_append 31 = .ok (.getfield 15, 3) := by decide +kernel
theorem dX3_append_34 : decode cX3_append 34 = .ok (.iconst 1, 1) := by decide +kernel
theorem dX3_append_35 : decode cX3_append 35 = .ok (.iadd, 1) := by decide +kernel
theorem dX3_append_36 : decode cX3_append 36 = .ok (.putfield 15, 3) := by decide +kernel
theorem dX3_append_39 : decode cX3_append 39 = .ok (.return_, 1) := by decide +kernel
theorem dX3_daysBehind_0 : decode cX3_daysBehind 0 = .ok (.iload_n 1, 1) := by decide +kernel
theorem dX3_daysBehind_1 : decode cX3_daysBehind 1 = .ok (.iconst 1, 1) := by decide +kernel
theorem dX3_daysBehind_2 : decode cX3_daysBehind 2 = .ok (.if_icmp .lt 24, 3) := by decide +kernel
theorem dX3_daysBehind_5 : decode cX3_daysBehind 5 = .ok (.iload_n 1, 1) := by decide +kernel
theorem dX3_daysBehind_6 : decode cX3_daysBehind 6 = .ok (.aload_n 0, 1) := by decide +kernel
theorem dX3_daysBehind_7 : decode cX3_daysBehind 7 = .ok (.getfield 15, 3) := by decide +kernel
theorem dX3_daysBehind_10 : decode cX3_daysBehind 10 = .ok (.if_icmp .gt 16, 3) := by decide +kernel
theorem dX3_daysBehind_13 : decode cX3_daysBehind 13 = .ok (.iload_n 1, 1) := by decide +kernel
theorem dX3_daysBehind_14 : decode cX3_daysBehind 14 = .ok (.aload_n 0, 1) := by decide +kernel
theorem dX3_daysBehind_15 : decode cX3_daysBehind 15 = .ok (.getfield 9, 3) := by decide +kernel
theorem dX3_daysBehind_18 : decode cX3_daysBehind 18 = .ok (.arraylength, 1) := by decide +kernel
theorem dX3_daysBehind_19 : decode cX3_daysBehind 19 = .ok (.if_icmp .gt 7, 3) := by decide +kernel
theorem dX3_daysBehind_22 : decode cX3_daysBehind 22 = .ok (.iconst 1, 1) := by decide +kernel
theorem dX3_daysBehind_23 : decode cX3_daysBehind 23 = .ok (.goto 4, 3) := by decide +kernel
theorem dX3_daysBehind_26 : decode cX3_daysBehind 26 = .ok (.iconst 0, 1) := by decide +kernel
theorem dX3_daysBehind_27 : decode cX3_daysBehind 27 = .ok (.istore_n 2, 1) := by decide +kernel
theorem dX3_daysBehind_28 : decode cX3_daysBehind 28 = .ok (.iload_n 2, 1) := by decide +kernel
theorem dX3_daysBehind_29 : decode cX3_daysBehind 29 = .ok (.ifCond .eq 14, 3) := by decide +kernel
theorem dX3_daysBehind_32 : decode cX3_daysBehind 32 = .ok (.aload_n 0, 1) := by decide +kernel
theorem dX3_daysBehind_33 : decode cX3_daysBehind 33 = .ok (.getfield 9, 3) := by decide +kernel
theorem dX3_daysBehind_36 : decode cX3_daysBehind 36 = .ok (.iload_n 1, 1) := by decide +kernel
theorem dX3_daysBehind_37 : decode cX3_daysBehind 37 = .ok (.iconst 1, 1) := by decide +kernel
theorem dX3_daysBehind_38 : decode cX3_daysBehind 38 = .ok (.isub, 1) := by decide +kernel
theorem dX3_daysBehind_39 : decode cX3_daysBehind 39 = .ok (.iaload, 1) := by decide +kernel
theorem dX3_daysBehind_40 : decode cX3_daysBehind 40 = .ok (.goto 4, 3) := by decide +kernel
theorem dX3_daysBehind_43 : decode cX3_daysBehind 43 = .ok (.iconst 0, 1) := by decide +kernel
theorem dX3_daysBehind_44 : decode cX3_daysBehind 44 = .ok (.ireturn, 1) := by decide +kernel
theorem dX4_init_0 : decode cX4_init 0 = .ok (.aload_n 0, 1) := by decide +kernel
theorem dX4_init_1 : decode cX4_init 1 = .ok (.invokespecial 1, 3) := by decide +kernel
theorem dX4_init_4 : decode cX4_init 4 = .ok (.aload_n 0, 1) := by decide +kernel
theorem dX4_init_5 : decode cX4_init 5 = .ok (.new 7, 3) := by decide +kernel
theorem dX4_init_8 : decode cX4_init 8 = .ok (.dup, 1) := by decide +kernel
theorem dX4_init_9 : decode cX4_init 9 = .ok (.invokespecial 9, 3) := by decide +kernel
theorem dX4_init_12 : decode cX4_init 12 = .ok (.putfield 10, 3) := by decide +kernel
theorem dX4_init_15 : decode cX4_init 15 = .ok (.aload_n 0, 1) := by decide +kernel
theorem dX4_init_16 : decode cX4_init 16 = .ok (.iconst 4, 1) := by decide +kernel
theorem dX4_init_17 : decode cX4_init 17 = .ok (.anewarray 16, 3) := by decide +kernel
theorem dX4_init_20 : decode cX4_init 20 = .ok (.dup, 1) := by decide +kernel
theorem dX4_init_21 : decode cX4_init 21 = .ok (.iconst 0, 1) := by decide +kernel
theorem dX4_init_22 : decode cX4_init 22 = .ok (.new 16, 3) := by decide +kernel
theorem dX4_init_25 : decode cX4_init 25 = .ok (.dup, 1) := by decide +kernel
theorem dX4_init_26 : decode cX4_init 26 = .ok (.getstatic 18, 3) := by decide +kernel
theorem dX4_init_29 : decode cX4_init 29 = .ok (.invokespecial 22, 3) := by decide +kernel
theorem dX4_init_32 : decode cX4_init 32 = .ok (.aastore, 1) := by decide +kernel
theorem dX4_init_33 : decode cX4_init 33 = .ok (.dup, 1) := by decide +kernel
theorem dX4_init_34 : decode cX4_init 34 = .ok (.iconst 1, 1) := by decide +kernel
theorem dX4_init_35 : decode cX4_init 35 = .ok (.new 16, 3) := by decide +kernel
theorem dX4_init_38 : decode cX4_init 38 = .ok (.dup, 1) := by decide +kernel
theorem dX4_init_39 : decode cX4_init 39 = .ok (.getstatic 25, 3) := by decide +kernel
theorem dX4_init_42 : decode cX4_init 42 = .ok (.invokespecial 22, 3) := by decide +kernel
theorem dX4_init_45 : decode cX4_init 45 = .ok (.aastore, 1) := by decide +kernel
theorem dX4_init_46 : decode cX4_init 46 = .ok (.dup, 1) := by decide +kernel
theorem dX4_init_47 : decode cX4_init 47 = .ok (.iconst 2, 1) := by decide +kernel
theorem dX4_init_48 : decode cX4_init 48 = .ok (.new 16, 3) := by decide +kernel
theorem dX4_init_51 : decode cX4_init 51 = .ok (.dup, 1) := by decide +kernel
theorem dX4_init_52 : decode cX4_init 52 = .ok (.getstatic 28, 3) := by decide +kernel
theorem dX4_init_55 : decode cX4_init 55 = .ok (.invokespecial 22, 3) := by decide +kernel
theorem dX4_init_58 : decode cX4_init 58 = .ok (.aastore, 1) := by decide +kernel
theorem dX4_init_59 : decode cX4_init 59 = .ok (.dup, 1) := by decide +kernel
theorem dX4_init_60 : decode cX4_init 60 = .ok (.iconst 3, 1) := by decide +kernel
theorem dX4_init_61 : decode cX4_init 61 = .ok (.new 16, 3) := by decide +kernel
theorem dX4_init_64 : decode cX4_init 64 = .ok (.dup, 1) := by decide +kernel
theorem dX4_init_65 : decode cX4_init 65 = .ok (.getstatic 31, 3) := by decide +kernel
theorem dX4_init_68 : decode cX4_init 68 = .ok (.invokespecial 22, 3) := by decide +kernel
theorem dX4_init_71 : decode cX4_init 71 = .ok (.aastore, 1) := by decide +kernel
theorem dX4_init_72 : decode cX4_init 72 = .ok (.putfield 34, 3) := by decide +kernel
theorem dX4_init_75 : decode cX4_init 75 = .ok (.aload_n 0, 1) := by decide +kernel
theorem dX4_init_76 : decode cX4_init 76 = .ok (.bipush 30, 2) := by decide +kernel
theorem dX4_init_78 : decode cX4_init 78 = .ok (.anewarray 38, 3) := by decide +kernel
theorem dX4_init_81 : decode cX4_init 81 = .ok (.putfield 40, 3) := by decide +kernel
theorem dX4_init_84 : decode cX4_init 84 = .ok (.aload_n 0, 1) := by decide +kernel
theorem dX4_init_85 : decode cX4_init 85 = .ok (.new 44, 3) := by decide +kernel
theorem dX4_init_88 : decode cX4_init 88 = .ok (.dup, 1) := by decide +kernel
theorem dX4_init_89 : decode cX4_init 89 = .ok (.invokespecial 46, 3) := by decide +kernel
theorem dX4_init_92 : decode cX4_init 92 = .ok (.putfield 47, 3) := by decide +kernel
theorem dX4_init_95 : decode cX4_init 95 = .ok (.aload_n 0, 1) := by decide +kernel
theorem dX4_init_96 : decode cX4_init 96 = .ok (.bipush 10, 2) := by decide +kernel
theorem dX4_init_98 : decode cX4_init 98 = .ok (.putfield 51, 3) := by decide +kernel
theorem dX4_init_101 : decode cX4_init 101 = .ok (.aload_n 0, 1) := by decide +kernel
theorem dX4_init_102 : decode cX4_init 102 = .ok (.bipush 30, 2) := by decide +kernel
theorem dX4_init_104 : decode cX4_init 104 = .ok (.putfield 55, 3) := by decide +kernel
theorem dX4_init_107 : decode cX4_init 107 = .ok (.return_, 1) := by decide +kernel
theorem dX4_setWeekday_0 : decode cX4_setWeekday 0 = .ok (.iload_n 1, 1) := by decide +kernel
theorem dX4_setWeekday_1 : decode cX4_setWeekday 1 = .ok (.ifCond .lt 9, 3) := by decide +kernel
theorem dX4_setWeekday_4 : decode cX4_setWeekday 4 = .ok (.iload_n 1, 1) := by decide +kernel
theorem dX4_setWeekday_5 : decode cX4_setWeekday 5 = .ok (.bipush 7, 2) := by decide +kernel
theorem dX4_setWeekday_7 : decode cX4_setWeekday 7 = .ok (.if_icmp .lt 13, 3) := by decide +kernel
theorem dX4_setWeekday_10 : decode cX4_setWeekday 10 = .ok (.new 58, 3) := by decide +kernel
theorem dX4_setWeekday_13 : decode cX4_setWeekday 13 = .ok (.dup, 1) := by decide +kernel
theorem dX4_setWeekday_14 : decode cX4_setWeekday 14 = .ok (.ldc 60, 2) := by decide +kernel
theorem dX4_setWeekday_16 : decode cX4_setWeekday 16 = .ok (.invokespecial 62, 3) := by decide +kernel
theorem dX4_setWeekday_19 : decode cX4_setWeekday 19 = .ok (.athrow, 1) := by decide +kernel
theorem dX4_setWeekday_20 : decode cX4_setWeekday 20 = .ok (.aload_n 0, 1) := by decide +kernel
theorem dX4_setWeekday_21 : decode cX4_setWeekday 21 = .ok (.getfield 10, 3) := by decide +kernel
theorem dX4_setWeekday_24 : decode cX4_setWeekday 24 = .ok (.iload_n 1, 1) := by decide +kernel
theorem dX4_setWeekday_25 : decode cX4_setWeekday 25 = .ok (.iload_n 2, 1) := by decide +kernel
theorem dX4_setWeekday_26 : decode cX4_setWeekday 26 = .ok (.invokevirtual 65, 3) := by decide +kernel
theorem dX4_setWeekday_29 : decode cX4_setWeekday 29 = .ok (.istore_n 3, 1) := by decide +kernel
theorem dX4_setWeekday_30 : decode cX4_setWeekday 30 = .ok (.iload_n 3, 1) := by decide +kernel
theorem dX4_setWeekday_31 : decode cX4_setWeekday 31 = .ok (.ifCond .ne 13, 3) := by decide +kernel
theorem dX4_setWeekday_34 : decode cX4_setWeekday 34 = .ok (.new 69, 3) := by decide +kernel
theorem dX4_setWeekday_37 : decode cX4_setWeekday 37 = .ok (.dup, 1) := by decide +kernel
theorem dX4_setWeekday_38 : decode cX4_setWeekday 38 = .ok (.ldc 71, 2) := by decide +kernel
theorem dX4_setWeekday_40 : decode cX4_setWeekday 40 = .ok (.invokespecial 73, 3) := by decide +kernel
theorem dX4_setWeekday_43 : decode cX4_setWeekday 43 = .ok (.athrow, 1) := by decide +kernel
theorem dX4_setWeekday_44 : decode cX4_setWeekday 44 = .ok (.aload_n 0, 1) := by decide +kernel
theorem dX4_setWeekday_45 : decode cX4_setWeekday 45 = .ok (.getfield 10, 3) := by decide +kernel
theorem dX4_setWeekday_48 : decode cX4_setWeekday 48 = .ok (.iload_n 3, 1) := by decide +kernel
theorem dX4_setWeekday_49 : decode cX4_setWeekday 49 = .ok (.putfield 74, 3) := by decide +kernel
theorem dX4_setWeekday_52 : decode cX4_setWeekday 52 = .ok (.iload_n 3, 1) := by decide +kernel
theorem dX4_setWeekday_53 : decode cX4_setWeekday 53 = .ok (.invokestatic 77, 3) := by decide +kernel
theorem dX4_setWeekday_56 : decode cX4_setWeekday 56 = .ok (.ireturn, 1) := by decide +kernel
theorem dX4_addHoliday_0 : decode cX4_addHoliday 0 = .ok (.iload_n 1, 1) := by decide +kernel
theorem dX4_addHoliday_1 : decode cX4_addHoliday 1 = .ok (.aload_n 0, 1) := by decide +kernel
theorem dX4_addHoliday_2 : decode cX4_addHoliday 2 = .ok (.getfield 83, 3) := by decide +kernel
theorem dX4_addHoliday_5 : decode cX4_addHoliday 5 = .ok (.iconst 1, 1) := by decide +kernel
theorem dX4_addHoliday_6 : decode cX4_addHoliday 6 = .ok (.iadd, 1) := by decide +kernel
theorem dX4_addHoliday_7 : decode cX4_addHoliday 7 = .ok (.aload_n 0, 1) := by decide +kernel
theorem dX4_addHoliday_8 : decode cX4_addHoliday 8 = .ok (.getfield 83, 3) := by decide +kernel
theorem dX4_addHoliday_11 : decode cX4_addHoliday 11 = .ok (.bipush 60, 2) := by decide +kernel
theorem dX4_addHoliday_13 : decode cX4_addHoliday 13 = .ok (.iadd, 1) := by decide +kernel
theorem dX4_addHoliday_14 : decode cX4_addHoliday 14 = .ok (.invokestatic 86, 3) := by decide +kernel
theorem dX4_addHoliday_17 : decode cX4_addHoliday 17 = .ok (.aload_n 0, 1) := by decide +kernel
theorem dX4_addHoliday_18 : decode cX4_addHoliday 18 = .ok (.getfield 10, 3) := by decide +kernel
theorem dX4_addHoliday_21 : decode cX4_addHoliday 21 = .ok (.iload_n 1, 1) := by decide +kernel
theorem dX4_addHoliday_22 : decode cX4_addHoliday 22 = .ok (.invokevirtual 90, 3) := by decide +kernel
theorem dX4_addHoliday_25 : decode cX4_addHoliday 25 = .ok (.ifCond .ne 7, 3) := by decide +kernel
theorem dX4_addHoliday_28 : decode cX4_addHoliday 28 = .ok (.iconst 1, 1) := by decide +kernel
theorem dX4_addHoliday_29 : decode cX4_addHoliday 29 = .ok (.goto 4, 3) := by decide +kernel
theorem dX4_addHoliday_32 : decode cX4_addHoliday 32 = .ok (.iconst 0, 1) := by decide +kernel
theorem dX4_addHoliday_33 : decode cX4_addHoliday 33 = .ok (.istore_n 2, 1) := by decide +kernel
theorem dX4_addHoliday_34 : decode cX4_addHoliday 34 = .ok (.aload_n 0, 1) := by decide +kernel
theorem dX4_addHoliday_35 : decode cX4_addHoliday 35 = .ok (.getfield 10, 3) := by decide +kernel
theorem dX4_addHoliday_38 : decode cX4_addHoliday 38 = .ok (.iload_n 1, 1) := by decide +kernel
theorem dX4_addHoliday_39 : decode cX4_addHoliday 39 = .ok (.invokevirtual 94, 3) := by decide +kernel
theorem dX4_addHoliday_42 : decode cX4_addHoliday 42 = .ok (.iload_n 2, 1) := by decide +kernel
theorem dX4_addHoliday_43 : decode cX4_addHoliday 43 = .ok (.ireturn, 1) := by decide +kernel
theorem dX4_addGap_0 : decode cX4_addGap 0 = .ok (.aload_n 0, 1) := by decide +kernel
theorem dX4_addGap_1 : decode cX4_addGap 1 = .ok (.getfield 34, 3) := by decide +kernel
theorem dX4_addGap_4 : decode cX4_addGap 4 = .ok (.iload_n 1, 1) := by decide +kernel
theorem dX4_addGap_5 : decode cX4_addGap 5 = .ok (.invokestatic 98, 3) := by decide +kernel
theorem dX4_addGap_8 : decode cX4_addGap 8 = .ok (.aaload, 1) := by decide +kernel
theorem dX4_addGap_9 : decode cX4_addGap 9 = .ok (.astore_n 3, 1) := by decide +kernel
theorem dX4_addGap_10 : decode cX4_addGap 10 = .ok (.iload_n 2, 1) := by decide +kernel
theorem dX4_addGap_11 : decode cX4_addGap 11 = .ok (.iconst 1, 1) := by decide +kernel
theorem dX4_addGap_12 : decode cX4_addGap 12 = .ok (.bipush 30, 2) := by decide +kernel
theorem dX4_addGap_14 : decode cX4_addGap 14 = .ok (.invokestatic 86, 3) := by decide +kernel
theorem dX4_addGap_17 : decode cX4_addGap 17 = .ok (.aload_n 3, 1) := by decide +kernel
theorem dX4_addGap_18 : decode cX4_addGap 18 = .ok (.getfield 101, 3) := by decide +kernel
theorem dX4_addGap_21 : decode cX4_addGap 21 = .ok (.bipush 6, 2) := by decide +kernel
theorem dX4_addGap_23 : decode cX4_addGap 23 = .ok (.if_icmp .lt 13, 3) := by decide +kernel
theorem dX4_addGap_26 : decode cX4_addGap 26 = .ok (.new 69, 3) := by decide +kernel
theorem dX4_addGap_29 : decode cX4_addGap 29 = .ok (.dup, 1) := by decide +kernel
theorem dX4_addGap_30 : decode cX4_addGap 30 = .ok (.ldc 104, 2) := by decide +kernel
theorem dX4_addGap_32 : decode cX4_addGap 32 = .ok (.invokespecial 73, 3) := by decide +kernel
theorem dX4_addGap_35 : decode cX4_addGap 35 = .ok (.athrow, 1) := by decide +kernel
theorem dX4_addGap_36 : decode cX4_addGap 36 = .ok (.aload_n 3, 1) := by decide +kernel
theorem dX4_addGap_37 : decode cX4_addGap 37 = .ok (.iload_n 2, 1) := by decide +kernel
theorem dX4_addGap_38 : decode cX4_addGap 38 = .ok (.invokevirtual 106, 3) := by decide +kernel
theorem dX4_addGap_41 : decode cX4_addGap 41 = .ok (.aload_n 3, 1) := by decide +kernel
theorem dX4_addGap_42 : decode cX4_addGap 42 = .ok (.getfield 101, 3) := by decide +kernel
theorem dX4_addGap_45 : decode cX4_addGap 45 = .ok (.ireturn, 1) := by decide +kernel
theorem dX4_clearGaps_0 : decode cX4_clearGaps 0 = .ok (.aload_n 0, 1) := by decide +kernel
theorem dX4_clearGaps_1 : decode cX4_clearGaps 1 = .ok (.getfield 34, 3) := by decide +kernel
theorem dX4_clearGaps_4 : decode cX4_clearGaps 4 = .ok (.iload_n 1, 1) := by decide +kernel
theorem dX4_clearGaps_5 : decode cX4_clearGaps 5 = .ok (.invokestatic 98, 3) := by decide +kernel
theorem dX4_clearGaps_8 : decode cX4_clearGaps 8 = .ok (.aaload, 1) := by decide +kernel
theorem dX4_clearGaps_9 : decode cX4_clearGaps 9 = .ok (.astore_n 2, 1) := by decide +kernel
theorem dX4_clearGaps_10 : decode cX4_clearGaps 10 = .ok (.aload_n 2, 1) := by decide +kernel
theorem dX4_clearGaps_11 : decode cX4_clearGaps 11 = .ok (.getfield 101, 3) := by decide +kernel
theorem dX4_clearGaps_14 : decode cX4_clearGaps 14 = .ok (.istore_n 3, 1) := by decide +kernel
theorem dX4_clearGaps_15 : decode cX4_clearGaps 15 = .ok (.aload_n 2, 1) := by decide +kernel
theorem dX4_clearGaps_16 : decode cX4_clearGaps 16 = .ok (.iconst 0, 1) := by decide +kernel
theorem dX4_clearGaps_17 : decode cX4_clearGaps 17 = .ok (.putfield 101, 3) := by decide +kernel
theorem dX4_clearGaps_20 : decode cX4_clearGaps 20 = .ok (.iload_n 3, 1) := by decide +kernel
theorem dX4_clearGaps_21 : decode cX4_clearGaps 21 = .ok (.ireturn, 1) := by decide +kernel
theorem dX4_setTimes_0 : decode cX4_setTimes 0 = .ok (.iload_n 1, 1) := by decide +kernel
theorem dX4_setTimes_1 : decode cX4_setTimes 1 = .ok (.iconst 1, 1) := by decide +kernel
theorem dX4_setTimes_2 : decode cX4_setTimes 2 = .ok (.bipush 60, 2) := by decide +kernel
theorem dX4_setTimes_4 : decode cX4_setTimes 4 = .ok (.invokestatic 86, 3) := by decide +kernel
theorem dX4_setTimes_7 : decode cX4_setTimes 7 = .ok (.iload_n 2, 1) := by decide +kernel
theorem dX4_setTimes_8 : decode cX4_setTimes 8 = .ok (.iconst 1, 1) := by decide +kernel
theorem dX4_setTimes_9 : decode cX4_setTimes 9 = .ok (.bipush 90, 2) := by decide +kernel
theorem dX4_setTimes_11 : decode cX4_setTimes 11 = .ok (.invokestatic 86, 3) := by decide +kernel
theorem dX4_setTimes_14 : decode cX4_setTimes 14 = .ok (.aload_n 0, 1) := by decide +kernel
theorem dX4_setTimes_15 : decode cX4_setTimes 15 = .ok (.getfield 51, 3) := by decide +kernel
theorem dX4_setTimes_18 : decode cX4_setTimes 18 = .ok (.istore_n 3, 1) := by decide +kernel
theorem dX4_setTimes_19 : decode cX4_setTimes 19 = .ok (.aload_n 0, 1) := by decide +kernel
theorem dX4_setTimes_20 : decode cX4_setTimes 20 = .ok (.iload_n 1, 1) := by decide +kernel
theorem dX4_setTimes_21 : decode cX4_setTimes 21 = .ok (.putfield 51, 3) := by decide +kernel
theorem dX4_setTimes_24 : decode cX4_setTimes 24 = .ok (.aload_n 0, 1) := by decide +kernel
theorem dX4_setTimes_25 : decode cX4_setTimes 25 = .ok (.iload_n 2, 1) := by decide +kernel
theorem dX4_setTimes_26 : decode cX4_setTimes 26 = .ok (.putfield 55, 3) := by decide +kernel
theorem dX4_setTimes_29 : decode cX4_setTimes 29 = .ok (.iload_n 3, 1) := by decide +kernel
theorem dX4_setTimes_30 : decode cX4_setTimes 30 = .ok (.ireturn, 1) := by decide +kernel
theorem dX4_bill_0 : decode cX4_bill 0 = .ok (.iload_n 1, 1) := by decide +kernel
theorem dX4_bill_1 : decode cX4_bill 1 = .ok (.invokestatic 109, 3) := by decide +kernel
theorem dX4_bill_4 : decode cX4_bill 4 = .ok (.iload_n 2, 1) := by decide +kernel
theorem dX4_bill_5 : decode cX4_bill 5 = .ok (.iconst 1, 1) := by decide +kernel
theorem dX4_bill_6 : decode cX4_bill 6 = .ok (.sipush 9999, 3) := by decide +kernel
theorem dX4_bill_9 : decode cX4_bill 9 = .ok (.invokestatic 86, 3) := by decide +kernel
theorem dX4_bill_12 : decode cX4_bill 12 = .ok (.aload_n 0, 1) := by decide +kernel
theorem dX4_bill_13 : decode cX4_bill 13 = .ok (.getfield 112, 3) := by decide +kernel
theorem dX4_bill_16 : decode cX4_bill 16 = .ok (.istore_n 3, 1) := by decide +kernel
theorem dX4_bill_17 : decode cX4_bill 17 = .ok (.iload_n 3, 1) := by decide +kernel
theorem dX4_bill_18 : decode cX4_bill 18 = .ok (.ifCond .lt 12, 3) := by decide +kernel
theorem dX4_bill_21 : decode cX4_bill 21 = .ok (.iload_n 3, 1) := by decide +kernel
theorem dX4_bill_22 : decode cX4_bill 22 = .ok (.aload_n 0, 1) := by decide +kernel
theorem dX4_bill_23 : decode cX4_bill 23 = .ok (.getfield 40, 3) := by decide +kernel
theorem dX4_bill_26 : decode cX4_bill 26 = .ok (.arraylength, 1) := by decide +kernel
theorem dX4_bill_27 : decode cX4_bill 27 = .ok (.if_icmp .lt 13, 3) := by decide +kernel
theorem dX4_bill_30 : decode cX4_bill 30 = .ok (.new 69, 3) := by decide +kernel
theorem dX4_bill_33 : decode cX4_bill 33 = .ok (.dup, 1) := by decide +kernel
theorem dX4_bill_34 : decode cX4_bill 34 = .ok (.ldc 115, 2) := by decide +kernel
theorem dX4_bill_36 : decode cX4_bill 36 = .ok (.invokespecial 73, 3) := by decide +kernel
theorem dX4_bill_39 : decode cX4_bill 39 = .ok (.athrow, 1) := by decide +kernel
theorem dX4_bill_40 : decode cX4_bill 40 = .ok (.new 38, 3) := by decide +kernel
theorem dX4_bill_43 : decode cX4_bill 43 = .ok (.dup, 1) := by decide +kernel
theorem dX4_bill_44 : decode cX4_bill 44 = .ok (.iload_n 3, 1) := by decide +kernel
theorem dX4_bill_45 : decode cX4_bill 45 = .ok (.iload_n 1, 1) := by decide +kernel
theorem dX4_bill_46 : decode cX4_bill 46 = .ok (.iload_n 2, 1) := by decide +kernel
theorem dX4_bill_47 : decode cX4_bill 47 = .ok (.invokespecial 117, 3) := by decide +kernel
theorem dX4_bill_50 : decode cX4_bill 50 = .ok (.astore 4, 2) := by decide +kernel
theorem dX4_bill_52 : decode cX4_bill 52 = .ok (.aload_n 0, 1) := by decide +kernel
theorem dX4_bill_53 : decode cX4_bill 53 = .ok (.getfield 40, 3) := by decide +kernel
theorem dX4_bill_56 : decode cX4_bill 56 = .ok (.iload_n 3, 1) := by decide +kernel
theorem dX4_bill_57 : decode cX4_bill 57 = .ok (.aload 4, 2) := by decide +kernel
theorem dX4_bill_59 : decode cX4_bill 59 = .ok (.aastore, 1) := by decide +kernel
theorem dX4_bill_60 : decode cX4_bill 60 = .ok (.aload_n 0, 1) := by decide +kernel
theorem dX4_bill_61 : decode cX4_bill 61 = .ok (.iload_n 3, 1) := by decide +kernel
theorem dX4_bill_62 : decode cX4_bill 62 = .ok (.iconst 1, 1) := by decide +kernel
theorem dX4_bill_63 : decode cX4_bill 63 = .ok (.iadd, 1) := by decide +kernel
theorem dX4_bill_64 : decode cX4_bill 64 = .ok (.putfield 112, 3) := by decide +kernel
theorem dX4_bill_67 : decode cX4_bill 67 = .ok (.aload_n 0, 1) := by decide +kernel
theorem dX4_bill_68 : decode cX4_bill 68 = .ok (.dup, 1) := by decide +kernel
theorem dX4_bill_69 : decode cX4_bill 69 = .ok (.getfield 119, 3) := by decide +kernel
theorem dX4_bill_72 : decode cX4_bill 72 = .ok (.iload_n 2, 1) := by decide +kernel
theorem dX4_bill_73 : decode cX4_bill 73 = .ok (.iadd, 1) := by decide +kernel
theorem dX4_bill_74 : decode cX4_bill 74 = .ok (.putfield 119, 3) := by decide +kernel
theorem dX4_bill_77 : decode cX4_bill 77 = .ok (.aload_n 0, 1) := by decide +kernel
theorem dX4_bill_78 : decode cX4_bill 78 = .ok (.aload 4, 2) := by decide +kernel
theorem dX4_bill_80 : decode cX4_bill 80 = .ok (.iconst 0, 1) := by decide +kernel
theorem dX4_bill_81 : decode cX4_bill 81 = .ok (.aload_n 0, 1) := by decide +kernel
theorem dX4_bill_82 : decode cX4_bill 82 = .ok (.getfield 10, 3) := by decide +kernel
theorem dX4_bill_85 : decode cX4_bill 85 = .ok (.aload_n 0, 1) := by decide +kernel
theorem dX4_bill_86 : decode cX4_bill 86 = .ok (.getfield 83, 3) := by decide +kernel
theorem dX4_bill_89 : decode cX4_bill 89 = .ok (.iconst 1, 1) := by decide +kernel
theorem dX4_bill_90 : decode cX4_bill 90 = .ok (.iadd, 1) := by decide +kernel
theorem dX4_bill_91 : decode cX4_bill 91 = .ok (.invokevirtual 122, 3) := by decide +kernel
theorem dX4_bill_94 : decode cX4_bill 94 = .ok (.invokevirtual 125, 3) := by decide +kernel
theorem dX4_bill_97 : decode cX4_bill 97 = .ok (.iload_n 3, 1) := by decide +kernel
theorem dX4_bill_98 : decode cX4_bill 98 = .ok (.ireturn, 1) := by decide +kernel
theorem dX4_outcome_0 : decode cX4_outcome 0 = .ok (.aload_n 0, 1) := by decide +kernel
theorem dX4_outcome_1 : decode cX4_outcome 1 = .ok (.iload_n 1, 1) := by decide +kernel
theorem dX4_outcome_2 : decode cX4_outcome 2 = .ok (.invokevirtual 129, 3) := by decide +kernel
theorem dX4_outcome_5 : decode cX4_outcome 5 = .ok (.astore_n 3, 1) := by decide +kernel
theorem dX4_outcome_6 : decode cX4_outcome 6 = .ok (.iload_n 2, 1) := by decide +kernel
theorem dX4_outcome_7 : decode cX4_outcome 7 = .ok (.iconst 0, 1) := by decide +kernel
theorem dX4_outcome_8 : decode cX4_outcome 8 = .ok (.iconst 4, 1) := by decide +kernel
theorem dX4_outcome_9 : decode cX4_outcome 9 = .ok (.invokestatic 86, 3) := by decide +kernel
theorem dX4_outcome_12 : decode cX4_outcome 12 = .ok (.aload_n 3, 1) := by decide +kernel
theorem dX4_outcome_13 : decode cX4_outcome 13 = .ok (.getfield 133, 3) := by decide +kernel
theorem dX4_outcome_16 : decode cX4_outcome 16 = .ok (.iconst 1, 1) := by decide +kernel
theorem dX4_outcome_17 : decode cX4_outcome 17 = .ok (.if_icmp .eq 13, 3) := by decide +kernel
theorem dX4_outcome_20 : decode cX4_outcome 20 = .ok (.new 69, 3) := by decide +kernel
theorem dX4_outcome_23 : decode cX4_outcome 23 = .ok (.dup, 1) := by decide +kernel
theorem dX4_outcome_24 : decode cX4_outcome 24 = .ok (.ldc 136, 2) := by decide +kernel
theorem dX4_outcome_26 : decode cX4_outcome 26 = .ok (.invokespecial 73, 3) := by decide +kernel
theorem dX4_outcome_29 : decode cX4_outcome 29 = .ok (.athrow, 1) := by decide +kernel
theorem dX4_outcome_30 : decode cX4_outcome 30 = .ok (.iload_n 2, 1) := by decide +kernel
theorem dX4_outcome_31 : decode cX4_outcome 31 = .ok (.ifCond .ne 15, 3) := by decide +kernel
theorem dX4_outcome_34 : decode cX4_outcome 34 = .ok (.aload_n 0, 1) := by decide +kernel
theorem dX4_outcome_35 : decode cX4_outcome 35 = .ok (.aload_n 3, 1) := by decide +kernel
theorem dX4_outcome_36 : decode cX4_outcome 36 = .ok (.aload_n 3, 1) := by decide +kernel
theorem dX4_outcome_37 : decode cX4_outcome 37 = .ok (.getfield 138, 3) := by decide +kernel
theorem dX4_outcome_40 : decode cX4_outcome 40 = .ok (.invokevirtual 141, 3) := by decide +kernel
theorem dX4_outcome_43 : decode cX4_outcome 43 = .ok (.goto 9, 3) := by decide +kernel
theorem dX4_outcome_46 : decode cX4_outcome 46 = .ok (.aload_n 0, 1) := by decide +kernel
theorem dX4_outcome_47 : decode cX4_outcome 47 = .ok (.aload_n 3, 1) := by decide +kernel
theorem dX4_outcome_48 : decode cX4_outcome 48 = .ok (.iload_n 2, 1) := by decide +kernel
theorem dX4_outcome_49 : decode cX4_outcome 49 = .ok (.invokevirtual 145, 3) := by decide +kernel
theorem dX4_outcome_52 : decode cX4_outcome 52 = .ok (.aload_n 3, 1) := by decide +kernel
theorem dX4_outcome_53 : decode cX4_outcome 53 = .ok (.getfield 133, 3) := by decide +kernel
theorem dX4_outcome_56 : decode cX4_outcome 56 = .ok (.ireturn, 1) := by decide +kernel
theorem dX4_pay_0 : decode cX4_pay 0 = .ok (.aload_n 0, 1) := by decide +kernel
theorem dX4_pay_1 : decode cX4_pay 1 = .ok (.iload_n 1, 1) := by decide +kernel
theorem dX4_pay_2 : decode cX4_pay 2 = .ok (.invokevirtual 129, 3) := by decide +kernel
theorem dX4_pay_5 : decode cX4_pay 5 = .ok (.astore_n 3, 1) := by decide +kernel
theorem dX4_pay_6 : decode cX4_pay 6 = .ok (.iload_n 2, 1) := by decide +kernel
theorem dX4_pay_7 : decode cX4_pay 7 = .ok (.iconst 1, 1) := by decide +kernel
theorem dX4_pay_8 : decode cX4_pay 8 = .ok (.sipush 9999, 3) := by decide +kernel
theorem dX4_pay_11 : decode cX4_pay 11 = .ok (.invokestatic 86, 3) := by decide +kernel
theorem dX4_pay_14 : decode cX4_pay 14 = .ok (.aload_n 3, 1) := by decide +kernel
theorem dX4_pay_15 : decode cX4_pay 15 = .ok (.getfield 133, 3) := by decide +kernel
theorem dX4_pay_18 : decode cX4_pay 18 = .ok (.iconst 1, 1) := by decide +kernel
theorem dX4_pay_19 : decode cX4_pay 19 = .ok (.if_icmp .eq 20, 3) := by decide +kernel
theorem dX4_pay_22 : decode cX4_pay 22 = .ok (.aload_n 3, 1) := by decide +kernel
theorem dX4_pay_23 : decode cX4_pay 23 = .ok (.getfield 133, 3) := by decide +kernel
theorem dX4_pay_26 : decode cX4_pay 26 = .ok (.bipush 6, 2) := by decide +kernel
theorem dX4_pay_28 : decode cX4_pay 28 = .ok (.if_icmp .eq 11, 3) := by decide +kernel
theorem dX4_pay_31 : decode cX4_pay 31 = .ok (.iload_n 2, 1) := by decide +kernel
theorem dX4_pay_32 : decode cX4_pay 32 = .ok (.aload_n 3, 1) := by decide +kernel
theorem dX4_pay_33 : decode cX4_pay 33 = .ok (.getfield 138, 3) := by decide +kernel
theorem dX4_pay_36 : decode cX4_pay 36 = .ok (.if_icmp .le 13, 3) := by decide +kernel
theorem dX4_pay_39 : decode cX4_pay 39 = .ok (.new 69, 3) := by decide +kernel
theorem dX4_pay_42 : decode cX4_pay 42 = .ok (.dup, 1) := by decide +kernel
theorem dX4_pay_43 : decode cX4_pay 43 = .ok (.ldc 148, 2) := by decide +kernel
theorem dX4_pay_45 : decode cX4_pay 45 = .ok (.invokespecial 73, 3) := by decide +kernel
theorem dX4_pay_48 : decode cX4_pay 48 = .ok (.athrow, 1) := by decide +kernel
theorem dX4_pay_49 : decode cX4_pay 49 = .ok (.aload_n 0, 1) := by decide +kernel
theorem dX4_pay_50 : decode cX4_pay 50 = .ok (.aload_n 3, 1) := by decide +kernel
theorem dX4_pay_51 : decode cX4_pay 51 = .ok (.iload_n 2, 1) := by decide +kernel
theorem dX4_pay_52 : decode cX4_pay 52 = .ok (.invokevirtual 141, 3) := by decide +kernel
theorem dX4_pay_55 : decode cX4_pay 55 = .ok (.aload_n 3, 1) := by decide +kernel
theorem dX4_pay_56 : decode cX4_pay 56 = .ok (.getfield 138, 3) := by decide +kernel
theorem dX4_pay_59 : decode cX4_pay 59 = .ok (.ireturn, 1) := by decide +kernel
theorem dX4_promise_0 : decode cX4_promise 0 = .ok (.aload_n 0, 1) := by decide +kernel
theorem dX4_promise_1 : decode cX4_promise 1 = .ok (.iload_n 1, 1) := by decide +kernel
theorem dX4_promise_2 : decode cX4_promise 2 = .ok (.invokevirtual 129, 3) := by decide +kernel
theorem dX4_promise_5 : decode cX4_promise 5 = .ok (.astore_n 3, 1) := by decide +kernel
theorem dX4_promise_6 : decode cX4_promise 6 = .ok (.iload_n 2, 1) := by decide +kernel
theorem dX4_promise_7 : decode cX4_promise 7 = .ok (.iconst 1, 1) := by decide +kernel
theorem dX4_promise_8 : decode cX4_promise 8 = .ok (.bipush 30, 2) := by decide +kernel
theorem dX4_promise_10 : decode cX4_promise 10 = .ok (.invokestatic 86, 3) := by decide +kernel
theorem dX4_promise_13 : decode cX4_promise 13 = .ok (.aload_n 3, 1) := by decide +kernel
theorem dX4_promise_14 : decode cX4_promise 14 = .ok (.getfield 133, 3) := by decide +kernel
theorem dX4_promise_17 : decode cX4_promise 17 = .ok (.ifCond .eq 19, 3) := by decide +kernel
theorem dX4_promise_20 : decode cX4_promise 20 = .ok (.aload_n 3, 1) := by decide +kernel
theorem dX4_promise_21 : decode cX4_promise 21 = .ok (.getfield 133, 3) := by decide +kernel
theorem dX4_promise_24 : decode cX4_promise 24 = .ok (.iconst 2, 1) := by decide +kernel
theorem dX4_promise_25 : decode cX4_promise 25 = .ok (.if_icmp .eq 11, 3) := by decide +kernel
theorem dX4_promise_28 : decode cX4_promise 28 = .ok (.aload_n 3, 1) := by decide +kernel
theorem dX4_promise_29 : decode cX4_promise 29 = .ok (.getfield 133, 3) := by decide +kernel
theorem dX4_promise_32 : decode cX4_promise 32 = .ok (.iconst 3, 1) := by decide +kernel
theorem dX4_promise_33 : decode cX4_promise 33 = .ok (.if_icmp .ne 7, 3) := by decide +kernel
theorem dX4_promise_36 : decode cX4_promise 36 = .ok (.iconst 1, 1) := by decide +kernel
theorem dX4_promise_37 : decode cX4_promise 37 = .ok (.goto 4, 3) := by decide +kernel
theorem dX4_promise_40 : decode cX4_promise 40 = .ok (.iconst 0, 1) := by decide +kernel
theorem dX4_promise_41 : decode cX4_promise 41 = .ok (.istore 4, 2) := by decide +kernel
theorem dX4_promise_43 : decode cX4_promise 43 = .ok (.iload 4, 2) := by decide +kernel
theorem dX4_promise_45 : decode cX4_promise 45 = .ok (.ifCond .eq 11, 3) := by decide +kernel
theorem dX4_promise_48 : decode cX4_promise 48 = .ok (.aload_n 3, 1) := by decide +kernel
theorem dX4_promise_49 : decode cX4_promise 49 = .ok (.getfield 150, 3) := by decide +kernel
theorem dX4_promise_52 : decode cX4_promise 52 = .ok (.iconst 2, 1) := by decide +kernel
theorem dX4_promise_53 : decode cX4_promise 53 = .ok (.if_icmp .lt 13, 3) := by decide +kernel
theorem dX4_promise_56 : decode cX4_promise 56 = .ok (.new 69, 3) := by decide +kernel
theorem dX4_promise_59 : decode cX4_promise 59 = .ok (.dup, 1) := by decide +kernel
theorem dX4_promise_60 : decode cX4_promise 60 = .ok (.ldc 153, 2) := by decide +kernel
theorem dX4_promise_62 : decode cX4_promise 62 = .ok (.invokespecial 73, 3) := by decide +kernel
theorem dX4_promise_65 : decode cX4_promise 65 = .ok (.athrow, 1) := by decide +kernel
theorem dX4_promise_66 : decode cX4_promise 66 = .ok (.aload_n 3, 1) := by decide +kernel
theorem dX4_promise_67 : decode cX4_promise 67 = .ok (.dup, 1) := by decide +kernel
theorem dX4_promise_68 : decode cX4_promise 68 = .ok (.getfield 150, 3) := by decide +kernel
theorem dX4_promise_71 : decode cX4_promise 71 = .ok (.iconst 1, 1) := by decide +kernel
theorem dX4_promise_72 : decode cX4_promise 72 = .ok (.iadd, 1) := by decide +kernel
theorem dX4_promise_73 : decode cX4_promise 73 = .ok (.putfield 150, 3) := by decide +kernel
theorem dX4_promise_76 : decode cX4_promise 76 = .ok (.aload_n 3, 1) := by decide +kernel
theorem dX4_promise_77 : decode cX4_promise 77 = .ok (.aload_n 3, 1) := by decide +kernel
theorem dX4_promise_78 : decode cX4_promise 78 = .ok (.getfield 133, 3) := by decide +kernel
theorem dX4_promise_81 : decode cX4_promise 81 = .ok (.putfield 155, 3) := by decide +kernel
theorem dX4_promise_84 : decode cX4_promise 84 = .ok (.aload_n 3, 1) := by decide +kernel
theorem dX4_promise_85 : decode cX4_promise 85 = .ok (.aload_n 3, 1) := by decide +kernel
theorem dX4_promise_86 : decode cX4_promise 86 = .ok (.getfield 158, 3) := by decide +kernel
theorem dX4_promise_89 : decode cX4_promise 89 = .ok (.aload_n 0, 1) := by decide +kernel
theorem dX4_promise_90 : decode cX4_promise 90 = .ok (.getfield 83, 3) := by decide +kernel
theorem dX4_promise_93 : decode cX4_promise 93 = .ok (.isub, 1) := by decide +kernel
theorem dX4_promise_94 : decode cX4_promise 94 = .ok (.putfield 161, 3) := by decide +kernel
theorem dX4_promise_97 : decode cX4_promise 97 = .ok (.aload_n 0, 1) := by decide +kernel
theorem dX4_promise_98 : decode cX4_promise 98 = .ok (.aload_n 3, 1) := by decide +kernel
theorem dX4_promise_99 : decode cX4_promise 99 = .ok (.iconst 4, 1) := by decide +kernel
theorem dX4_promise_100 : decode cX4_promise 100 = .ok (.aload_n 0, 1) := by decide +kernel
theorem dX4_promise_101 : decode cX4_promise 101 = .ok (.getfield 83, 3) := by decide +kernel
theorem dX4_promise_104 : decode cX4_promise 104 = .ok (.iload_n 2, 1) := by decide +kernel
theorem dX4_promise_105 : decode cX4_promise 105 = .ok (.iadd, 1) := by decide +kernel
theorem dX4_promise_106 : decode cX4_promise 106 = .ok (.invokevirtual 125, 3) := by decide +kernel
theorem dX4_promise_109 : decode cX4_promise 109 = .ok (.aload_n 3, 1) := by decide +kernel
theorem dX4_promise_110 : decode cX4_promise 110 = .ok (.getfield 158, 3) := by decide +kernel
theorem dX4_promise_113 : decode cX4_promise 113 = .ok (.ireturn, 1) := by decide +kernel
theorem dX4_pass_0 : decode cX4_pass 0 = .ok (.iload_n 1, 1) := by decide +kernel
theorem dX4_pass_1 : decode cX4_pass 1 = .ok (.iconst 1, 1) := by decide +kernel
theorem dX4_pass_2 : decode cX4_pass 2 = .ok (.bipush 60, 2) := by decide +kernel
theorem dX4_pass_4 : decode cX4_pass 4 = .ok (.invokestatic 86, 3) := by decide +kernel
theorem dX4_pass_7 : decode cX4_pass 7 = .ok (.iconst 0, 1) := by decide +kernel
theorem dX4_pass_8 : decode cX4_pass 8 = .ok (.istore_n 2, 1) := by decide +kernel
theorem dX4_pass_9 : decode cX4_pass 9 = .ok (.iconst 0, 1) := by decide +kernel
theorem dX4_pass_10 : decode cX4_pass 10 = .ok (.istore_n 3, 1) := by decide +kernel
theorem dX4_pass_11 : decode cX4_pass 11 = .ok (.iload_n 3, 1) := by decide +kernel
theorem dX4_pass_12 : decode cX4_pass 12 = .ok (.iload_n 1, 1) := by decide +kernel
theorem dX4_pass_13 : decode cX4_pass 13 = .ok (.if_icmp .ge 30, 3) := by decide +kernel
theorem dX4_pass_16 : decode cX4_pass 16 = .ok (.aload_n 0, 1) := by decide +kernel
theorem dX4_pass_17 : decode cX4_pass 17 = .ok (.invokevirtual 164, 3) := by decide +kernel
theorem dX4_pass_20 : decode cX4_pass 20 = .ok (.aload_n 0, 1) := by decide +kernel
theorem dX4_pass_21 : decode cX4_pass 21 = .ok (.dup, 1) := by decide +kernel
theorem dX4_pass_22 : decode cX4_pass 22 = .ok (.getfield 83, 3) := by decide +kernel
theorem dX4_pass_25 : decode cX4_pass 25 = .ok (.iconst 1, 1) := by decide +kernel
theorem dX4_pass_26 : decode cX4_pass 26 = .ok (.iadd, 1) := by decide +kernel
theorem dX4_pass_27 : decode cX4_pass 27 = .ok (.putfield 83, 3) := by decide +kernel
theorem dX4_pass_30 : decode cX4_pass 30 = .ok (.iload_n 2, 1) := by decide +kernel
theorem dX4_pass_31 : decode cX4_pass 31 = .ok (.aload_n 0, 1) := by decide +kernel
theorem dX4_pass_32 : decode cX4_pass 32 = .ok (.invokevirtual 167, 3) := by decide +kernel
theorem dX4_pass_35 : decode cX4_pass 35 = .ok (.iadd, 1) := by decide +kernel
theorem dX4_pass_36 : decode cX4_pass 36 = .ok (.istore_n 2, 1) := by decide +kernel
theorem dX4_pass_37 : decode cX4_pass 37 = .ok (.iinc 3 1, 3) := by decide +kernel
theorem dX4_pass_40 : decode cX4_pass 40 = .ok (.goto (-29), 3) := by decide +kernel
theorem dX4_pass_43 : decode cX4_pass 43 = .ok (.iload_n 2, 1) := by decide +kernel
theorem dX4_pass_44 : decode cX4_pass 44 = .ok (.ireturn, 1) := by decide +kernel
theorem dX4_today_0 : decode cX4_today 0 = .ok (.aload_n 0, 1) := by decide +kernel
theorem dX4_today_1 : decode cX4_today 1 = .ok (.getfield 83, 3) := by decide +kernel
theorem dX4_today_4 : decode cX4_today 4 = .ok (.ireturn, 1) := by decide +kernel
theorem dX4_isCharging_0 : decode cX4_isCharging 0 = .ok (.iload_n 1, 1) := by decide +kernel
theorem dX4_isCharging_1 : decode cX4_isCharging 1 = .ok (.iconst 0, 1) := by decide +kernel
theorem dX4_isCharging_2 : decode cX4_isCharging 2 = .ok (.ldc 171, 2) := by decide +kernel
theorem dX4_isCharging_4 : decode cX4_isCharging 4 = .ok (.invokestatic 86, 3) := by decide +kernel
theorem dX4_isCharging_7 : decode cX4_isCharging 7 = .ok (.aload_n 0, 1) := by decide +kernel
theorem dX4_isCharging_8 : decode cX4_isCharging 8 = .ok (.getfield 10, 3) := by decide +kernel
theorem dX4_isCharging_11 : decode cX4_isCharging 11 = .ok (.iload_n 1, 1) := by decide +kernel
theorem dX4_isCharging_12 : decode cX4_isCharging 12 = .ok (.invokevirtual 172, 3) := by decide +kernel
theorem dX4_isCharging_15 : decode cX4_isCharging 15 = .ok (.ireturn, 1) := by decide +kernel
theorem dX4_bills_0 : decode cX4_bills 0 = .ok (.aload_n 0, 1) := by decide +kernel
theorem dX4_bills_1 : decode cX4_bills 1 = .ok (.getfield 112, 3) := by decide +kernel
theorem dX4_bills_4 : decode cX4_bills 4 = .ok (.ireturn, 1) := by decide +kernel
theorem dX4_stateOf_0 : decode cX4_stateOf 0 = .ok (.aload_n 0, 1) := by decide +kernel
theorem dX4_stateOf_1 : decode cX4_stateOf 1 = .ok (.iload_n 1, 1) := by decide +kernel
theorem dX4_stateOf_2 : decode cX4_stateOf 2 = .ok (.invokevirtual 129, 3) := by decide +kernel
theorem dX4_stateOf_5 : decode cX4_stateOf 5 = .ok (.getfield 133, 3) := by decide +kernel
theorem dX4_stateOf_8 : decode cX4_stateOf 8 = .ok (.ireturn, 1) := by decide +kernel
theorem dX4_left_0 : decode cX4_left 0 = .ok (.aload_n 0, 1) := by decide +kernel
theorem dX4_left_1 : decode cX4_left 1 = .ok (.iload_n 1, 1) := by decide +kernel
theorem dX4_left_2 : decode cX4_left 2 = .ok (.invokevirtual 129, 3) := by decide +kernel
theorem dX4_left_5 : decode cX4_left 5 = .ok (.getfield 138, 3) := by decide +kernel
theorem dX4_left_8 : decode cX4_left 8 = .ok (.ireturn, 1) := by decide +kernel
theorem dX4_tries_0 : decode cX4_tries 0 = .ok (.aload_n 0, 1) := by decide +kernel
theorem dX4_tries_1 : decode cX4_tries 1 = .ok (.iload_n 1, 1) := by decide +kernel
theorem dX4_tries_2 : decode cX4_tries 2 = .ok (.invokevirtual 129, 3) := by decide +kernel
theorem dX4_tries_5 : decode cX4_tries 5 = .ok (.getfield 175, 3) := by decide +kernel
theorem dX4_tries_8 : decode cX4_tries 8 = .ok (.ireturn, 1) := by decide +kernel
theorem dX4_failures_0 : decode cX4_failures 0 = .ok (.aload_n 0, 1) := by decide +kernel
theorem dX4_failures_1 : decode cX4_failures 1 = .ok (.iload_n 1, 1) := by decide +kernel
theorem dX4_failures_2 : decode cX4_failures 2 = .ok (.invokevirtual 129, 3) := by decide +kernel
theorem dX4_failures_5 : decode cX4_failures 5 = .ok (.astore_n 3, 1) := by decide +kernel
theorem dX4_failures_6 : decode cX4_failures 6 = .ok (.aload_n 3, 1) := by decide +kernel
theorem dX4_failures_7 : decode cX4_failures 7 = .ok (.getfield 178, 3) := by decide +kernel
theorem dX4_failures_10 : decode cX4_failures 10 = .ok (.iload_n 2, 1) := by decide +kernel
theorem dX4_failures_11 : decode cX4_failures 11 = .ok (.invokestatic 98, 3) := by decide +kernel
theorem dX4_failures_14 : decode cX4_failures 14 = .ok (.iaload, 1) := by decide +kernel
theorem dX4_failures_15 : decode cX4_failures 15 = .ok (.ireturn, 1) := by decide +kernel
theorem dX4_waitsFor_0 : decode cX4_waitsFor 0 = .ok (.aload_n 0, 1) := by decide +kernel
theorem dX4_waitsFor_1 : decode cX4_waitsFor 1 = .ok (.iload_n 1, 1) := by decide +kernel
theorem dX4_waitsFor_2 : decode cX4_waitsFor 2 = .ok (.invokevirtual 129, 3) := by decide +kernel
theorem dX4_waitsFor_5 : decode cX4_waitsFor 5 = .ok (.getfield 158, 3) := by decide +kernel
theorem dX4_waitsFor_8 : decode cX4_waitsFor 8 = .ok (.ireturn, 1) := by decide +kernel
theorem dX4_broken_0 : decode cX4_broken 0 = .ok (.aload_n 0, 1) := by decide +kernel
theorem dX4_broken_1 : decode cX4_broken 1 = .ok (.iload_n 1, 1) := by decide +kernel
theorem dX4_broken_2 : decode cX4_broken 2 = .ok (.invokevirtual 129, 3) := by decide +kernel
theorem dX4_broken_5 : decode cX4_broken 5 = .ok (.getfield 181, 3) := by decide +kernel
theorem dX4_broken_8 : decode cX4_broken 8 = .ok (.ireturn, 1) := by decide +kernel
theorem dX4_service_0 : decode cX4_service 0 = .ok (.iload_n 1, 1) := by decide +kernel
theorem dX4_service_1 : decode cX4_service 1 = .ok (.invokestatic 109, 3) := by decide +kernel
theorem dX4_service_4 : decode cX4_service 4 = .ok (.iconst 2, 1) := by decide +kernel
theorem dX4_service_5 : decode cX4_service 5 = .ok (.istore_n 2, 1) := by decide +kernel
theorem dX4_service_6 : decode cX4_service 6 = .ok (.iconst 0, 1) := by decide +kernel
theorem dX4_service_7 : decode cX4_service 7 = .ok (.istore_n 3, 1) := by decide +kernel
theorem dX4_service_8 : decode cX4_service 8 = .ok (.iload_n 3, 1) := by decide +kernel
theorem dX4_service_9 : decode cX4_service 9 = .ok (.aload_n 0, 1) := by decide +kernel
theorem dX4_service_10 : decode cX4_service 10 = .ok (.getfield 40, 3) := by decide +kernel
theorem dX4_service_13 : decode cX4_service 13 = .ok (.arraylength, 1) := by decide +kernel
theorem dX4_service_14 : decode cX4_service 14 = .ok (.if_icmp .ge 41, 3) := by decide +kernel
theorem dX4_service_17 : decode cX4_service 17 = .ok (.aload_n 0, 1) := by decide +kernel
theorem dX4_service_18 : decode cX4_service 18 = .ok (.getfield 40, 3) := by decide +kernel
theorem dX4_service_21 : decode cX4_service 21 = .ok (.iload_n 3, 1) := by decide +kernel
theorem dX4_service_22 : decode cX4_service 22 = .ok (.aaload, 1) := by decide +kernel
theorem dX4_service_23 : decode cX4_service 23 = .ok (.astore 4, 2) := by decide +kernel
theorem dX4_service_25 : decode cX4_service 25 = .ok (.aload 4, 2) := by decide +kernel
theorem dX4_service_27 : decode cX4_service 27 = .ok (.ifnull 22, 3) := by decide +kernel
theorem dX4_service_30 : decode cX4_service 30 = .ok (.aload 4, 2) := by decide +kernel
theorem dX4_service_32 : decode cX4_service 32 = .ok (.getfield 184, 3) := by decide +kernel
theorem dX4_service_35 : decode cX4_service 35 = .ok (.iload_n 1, 1) := by decide +kernel
theorem dX4_service_36 : decode cX4_service 36 = .ok (.if_icmp .ne 13, 3) := by decide +kernel
theorem dX4_service_39 : decode cX4_service 39 = .ok (.iload_n 2, 1) := by decide +kernel
theorem dX4_service_40 : decode cX4_service 40 = .ok (.aload 4, 2) := by decide +kernel
theorem dX4_service_42 : decode cX4_service 42 = .ok (.invokestatic 187, 3) := by decide +kernel
theorem dX4_service_45 : decode cX4_service 45 = .ok (.invokestatic 191, 3) := by decide +kernel
theorem dX4_service_48 : decode cX4_service 48 = .ok (.istore_n 2, 1) := by decide +kernel
theorem dX4_service_49 : decode cX4_service 49 = .ok (.iinc 3 1, 3) := by decide +kernel
theorem dX4_service_52 : decode cX4_service 52 = .ok (.goto (-44), 3) := by decide +kernel
theorem dX4_service_55 : decode cX4_service 55 = .ok (.iload_n 2, 1) := by decide +kernel
theorem dX4_service_56 : decode cX4_service 56 = .ok (.ireturn, 1) := by decide +kernel
theorem dX4_billed_0 : decode cX4_billed 0 = .ok (.aload_n 0, 1) := by decide +kernel
theorem dX4_billed_1 : decode cX4_billed 1 = .ok (.getfield 119, 3) := by decide +kernel
theorem dX4_billed_4 : decode cX4_billed 4 = .ok (.ireturn, 1) := by decide +kernel
theorem dX4_paid_0 : decode cX4_paid 0 = .ok (.aload_n 0, 1) := by decide +kernel
theorem dX4_paid_1 : decode cX4_paid 1 = .ok (.getfield 197, 3) := by decide +kernel
theorem dX4_paid_4 : decode cX4_paid 4 = .ok (.ireturn, 1) := by decide +kernel
theorem dX4_writtenOff_0 : decode cX4_writtenOff 0 = .ok (.aload_n 0, 1) := by decide +kernel
theorem dX4_writtenOff_1 : decode cX4_writtenOff 1 = .ok (.getfield 200, 3) := by decide +kernel
theorem dX4_writtenOff_4 : decode cX4_writtenOff 4 = .ok (.ireturn, 1) := by decide +kernel
theorem dX4_broughtBack_0 : decode cX4_broughtBack 0 = .ok (.aload_n 0, 1) := by decide +kernel
theorem dX4_broughtBack_1 : decode cX4_broughtBack 1 = .ok (.getfield 203, 3) := by decide +kernel
theorem dX4_broughtBack_4 : decode cX4_broughtBack 4 = .ok (.ireturn, 1) := by decide +kernel
theorem dX4_leftIn_0 : decode cX4_leftIn 0 = .ok (.iload_n 1, 1) := by decide +kernel
theorem dX4_leftIn_1 : decode cX4_leftIn 1 = .ok (.invokestatic 109, 3) := by decide +kernel
theorem dX4_leftIn_4 : decode cX4_leftIn 4 = .ok (.iload_n 2, 1) := by decide +kernel
theorem dX4_leftIn_5 : decode cX4_leftIn 5 = .ok (.iconst 0, 1) := by decide +kernel
theorem dX4_leftIn_6 : decode cX4_leftIn 6 = .ok (.bipush 6, 2) := by decide +kernel
theorem dX4_leftIn_8 : decode cX4_leftIn 8 = .ok (.invokestatic 86, 3) := by decide +kernel
theorem dX4_leftIn_11 : decode cX4_leftIn 11 = .ok (.iconst 0, 1) := by decide +kernel
theorem dX4_leftIn_12 : decode cX4_leftIn 12 = .ok (.istore_n 3, 1) := by decide +kernel
theorem dX4_leftIn_13 : decode cX4_leftIn 13 = .ok (.iconst 0, 1) := by decide +kernel
theorem dX4_leftIn_14 : decode cX4_leftIn 14 = .ok (.istore 4, 2) := by decide +kernel
theorem dX4_leftIn_16 : decode cX4_leftIn 16 = .ok (.iload 4, 2) := by decide +kernel
theorem dX4_leftIn_18 : decode cX4_leftIn 18 = .ok (.aload_n 0, 1) := by decide +kernel
theorem dX4_leftIn_19 : decode cX4_leftIn 19 = .ok (.getfield 40, 3) := by decide +kernel
theorem dX4_leftIn_22 : decode cX4_leftIn 22 = .ok (.arraylength, 1) := by decide +kernel
theorem dX4_leftIn_23 : decode cX4_leftIn 23 = .ok (.if_icmp .ge 49, 3) := by decide +kernel
theorem dX4_leftIn_26 : decode cX4_leftIn 26 = .ok (.aload_n 0, 1) := by decide +kernel
theorem dX4_leftIn_27 : decode cX4_leftIn 27 = .ok (.getfield 40, 3) := by decide +kernel
theorem dX4_leftIn_30 : decode cX4_leftIn 30 = .ok (.iload 4, 2) := by decide +kernel
theorem dX4_leftIn_32 : decode cX4_leftIn 32 = .ok (.aaload, 1) := by decide +kernel
theorem dX4_leftIn_33 : decode cX4_leftIn 33 = .ok (.astore 5, 2) := by decide +kernel
theorem dX4_leftIn_35 : decode cX4_leftIn 35 = .ok (.aload 5, 2) := by decide +kernel
theorem dX4_leftIn_37 : decode cX4_leftIn 37 = .ok (.ifnull 29, 3) := by decide +kernel
theorem dX4_leftIn_40 : decode cX4_leftIn 40 = .ok (.aload 5, 2) := by decide +kernel
theorem dX4_leftIn_42 : decode cX4_leftIn 42 = .ok (.getfield 184, 3) := by decide +kernel
theorem dX4_leftIn_45 : decode cX4_leftIn 45 = .ok (.iload_n 1, 1) := by decide +kernel
theorem dX4_leftIn_46 : decode cX4_leftIn 46 = .ok (.if_icmp .ne 20, 3) := by decide +kernel
theorem dX4_leftIn_49 : decode cX4_leftIn 49 = .ok (.aload 5, 2) := by decide +kernel
theorem dX4_leftIn_51 : decode cX4_leftIn 51 = .ok (.getfield 133, 3) := by decide +kernel
theorem dX4_leftIn_54 : decode cX4_leftIn 54 = .ok (.iload_n 2, 1) := by decide +kernel
theorem dX4_leftIn_55 : decode cX4_leftIn 55 = .ok (.if_icmp .ne 11, 3) := by decide +kernel
theorem dX4_leftIn_58 : decode cX4_leftIn 58 = .ok (.iload_n 3, 1) := by decide +kernel
theorem dX4_leftIn_59 : decode cX4_leftIn 59 = .ok (.aload 5, 2) := by decide +kernel
theorem dX4_leftIn_61 : decode cX4_leftIn 61 = .ok (.getfield 138, 3) := by decide +kernel
theorem dX4_leftIn_64 : decode cX4_leftIn 64 = .ok (.iadd, 1) := by decide +kernel
theorem dX4_leftIn_65 : decode cX4_leftIn 65 = .ok (.istore_n 3, 1) := by decide +kernel
theorem dX4_leftIn_66 : decode cX4_leftIn 66 = .ok (.iinc 4 1, 3) := by decide +kernel
theorem dX4_leftIn_69 : decode cX4_leftIn 69 = .ok (.goto (-53), 3) := by decide +kernel
theorem dX4_leftIn_72 : decode cX4_leftIn 72 = .ok (.iload_n 3, 1) := by decide +kernel
theorem dX4_leftIn_73 : decode cX4_leftIn 73 = .ok (.ireturn, 1) := by decide +kernel
theorem dX4_events_0 : decode cX4_events 0 = .ok (.aload_n 0, 1) := by decide +kernel
theorem dX4_events_1 : decode cX4_events 1 = .ok (.getfield 47, 3) := by decide +kernel
theorem dX4_events_4 : decode cX4_events 4 = .ok (.getfield 206, 3) := by decide +kernel
theorem dX4_events_7 : decode cX4_events 7 = .ok (.ireturn, 1) := by decide +kernel
theorem dX4_event_0 : decode cX4_event 0 = .ok (.iload_n 1, 1) := by decide +kernel
theorem dX4_event_1 : decode cX4_event 1 = .ok (.ifCond .lt 14, 3) := by decide +kernel
theorem dX4_event_4 : decode cX4_event 4 = .ok (.iload_n 1, 1) := by decide +kernel
theorem dX4_event_5 : decode cX4_event 5 = .ok (.aload_n 0, 1) := by decide +kernel
theorem dX4_event_6 : decode cX4_event 6 = .ok (.getfield 47, 3) := by decide +kernel
theorem dX4_event_9 : decode cX4_event 9 = .ok (.invokevirtual 209, 3) := by decide +kernel
theorem dX4_event_12 : decode cX4_event 12 = .ok (.if_icmp .lt 13, 3) := by decide +kernel
theorem dX4_event_15 : decode cX4_event 15 = .ok (.new 58, 3) := by decide +kernel
theorem dX4_event_18 : decode cX4_event 18 = .ok (.dup, 1) := by decide +kernel
theorem dX4_event_19 : decode cX4_event 19 = .ok (.ldc 212, 2) := by decide +kernel
theorem dX4_event_21 : decode cX4_event 21 = .ok (.invokespecial 62, 3) := by decide +kernel
theorem dX4_event_24 : decode cX4_event 24 = .ok (.athrow, 1) := by decide +kernel
theorem dX4_event_25 : decode cX4_event 25 = .ok (.aload_n 0, 1) := by decide +kernel
theorem dX4_event_26 : decode cX4_event 26 = .ok (.getfield 47, 3) := by decide +kernel
theorem dX4_event_29 : decode cX4_event 29 = .ok (.iload_n 1, 1) := by decide +kernel
theorem dX4_event_30 : decode cX4_event 30 = .ok (.invokevirtual 214, 3) := by decide +kernel
theorem dX4_event_33 : decode cX4_event 33 = .ok (.ireturn, 1) := by decide +kernel
theorem dX4_stateAt_0 : decode cX4_stateAt 0 = .ok (.aload_n 0, 1) := by decide +kernel
theorem dX4_stateAt_1 : decode cX4_stateAt 1 = .ok (.iload_n 1, 1) := by decide +kernel
theorem dX4_stateAt_2 : decode cX4_stateAt 2 = .ok (.invokevirtual 129, 3) := by decide +kernel
theorem dX4_stateAt_5 : decode cX4_stateAt 5 = .ok (.pop, 1) := by decide +kernel
theorem dX4_stateAt_6 : decode cX4_stateAt 6 = .ok (.iload_n 2, 1) := by decide +kernel
theorem dX4_stateAt_7 : decode cX4_stateAt 7 = .ok (.iconst 0, 1) := by decide +kernel
theorem dX4_stateAt_8 : decode cX4_stateAt 8 = .ok (.aload_n 0, 1) := by decide +kernel
theorem dX4_stateAt_9 : decode cX4_stateAt 9 = .ok (.getfield 83, 3) := by decide +kernel
theorem dX4_stateAt_12 : decode cX4_stateAt 12 = .ok (.invokestatic 86, 3) := by decide +kernel
theorem dX4_stateAt_15 : decode cX4_stateAt 15 = .ok (.aload_n 0, 1) := by decide +kernel
theorem dX4_stateAt_16 : decode cX4_stateAt 16 = .ok (.getfield 47, 3) := by decide +kernel
theorem dX4_stateAt_19 : decode cX4_stateAt 19 = .ok (.iload_n 1, 1) := by decide +kernel
theorem dX4_stateAt_20 : decode cX4_stateAt 20 = .ok (.iload_n 2, 1) := by decide +kernel
theorem dX4_stateAt_21 : decode cX4_stateAt 21 = .ok (.invokevirtual 217, 3) := by decide +kernel
theorem dX4_stateAt_24 : decode cX4_stateAt 24 = .ok (.ireturn, 1) := by decide +kernel
theorem dX4_checkRange_0 : decode cX4_checkRange 0 = .ok (.iload_n 0, 1) := by decide +kernel
theorem dX4_checkRange_1 : decode cX4_checkRange 1 = .ok (.iload_n 1, 1) := by decide +kernel
theorem dX4_checkRange_2 : decode cX4_checkRange 2 = .ok (.if_icmp .lt 8, 3) := by decide +kernel
theorem dX4_checkRange_5 : decode cX4_checkRange 5 = .ok (.iload_n 0, 1) := by decide +kernel
theorem dX4_checkRange_6 : decode cX4_checkRange 6 = .ok (.iload_n 2, 1) := by decide +kernel
theorem dX4_checkRange_7 : decode cX4_checkRange 7 = .ok (.if_icmp .le 13, 3) := by decide +kernel
theorem dX4_checkRange_10 : decode cX4_checkRange 10 = .ok (.new 220, 3) := by decide +kernel
theorem dX4_checkRange_13 : decode cX4_checkRange 13 = .ok (.dup, 1) := by decide +kernel
theorem dX4_checkRange_14 : decode cX4_checkRange 14 = .ok (.ldc 222, 2) := by decide +kernel
theorem dX4_checkRange_16 : decode cX4_checkRange 16 = .ok (.invokespecial 224, 3) := by decide +kernel
theorem dX4_checkRange_19 : decode cX4_checkRange 19 = .ok (.athrow, 1) := by decide +kernel
theorem dX4_checkRange_20 : decode cX4_checkRange 20 = .ok (.return_, 1) := by decide +kernel
theorem dX4_checkAccount_0 : decode cX4_checkAccount 0 = .ok (.iload_n 0, 1) := by decide +kernel
theorem dX4_checkAccount_1 : decode cX4_checkAccount 1 = .ok (.ifCond .lt 9, 3) := by decide +kernel
theorem dX4_checkAccount_4 : decode cX4_checkAccount 4 = .ok (.iload_n 0, 1) := by decide +kernel
theorem dX4_checkAccount_5 : decode cX4_checkAccount 5 = .ok (.bipush 8, 2) := by decide +kernel
theorem dX4_checkAccount_7 : decode cX4_checkAccount 7 = .ok (.if_icmp .lt 13, 3) := by decide +kernel
theorem dX4_checkAccount_10 : decode cX4_checkAccount 10 = .ok (.new 58, 3) := by decide +kernel
theorem dX4_checkAccount_13 : decode cX4_checkAccount 13 = .ok (.dup, 1) := by decide +kernel
theorem dX4_checkAccount_14 : decode cX4_checkAccount 14 = .ok (.ldc 225, 2) := by decide +kernel
theorem dX4_checkAccount_16 : decode cX4_checkAccount 16 = .ok (.invokespecial 62, 3) := by decide +kernel
theorem dX4_checkAccount_19 : decode cX4_checkAccount 19 = .ok (.athrow, 1) := by decide +kernel
theorem dX4_checkAccount_20 : decode cX4_checkAccount 20 = .ok (.return_, 1) := by decide +kernel
theorem dX4_indexOfReason_0 : decode cX4_indexOfReason 0 = .ok (.iload_n 0, 1) := by decide +kernel
theorem dX4_indexOfReason_1 : decode cX4_indexOfReason 1 = .ok (.iconst 1, 1) := by decide +kernel
theorem dX4_indexOfReason_2 : decode cX4_indexOfReason 2 = .ok (.if_icmp .lt 8, 3) := by decide +kernel
theorem dX4_indexOfReason_5 : decode cX4_indexOfReason 5 = .ok (.iload_n 0, 1) := by decide +kernel
theorem dX4_indexOfReason_6 : decode cX4_indexOfReason 6 = .ok (.iconst 4, 1) := by decide +kernel
theorem dX4_indexOfReason_7 : decode cX4_indexOfReason 7 = .ok (.if_icmp .le 13, 3) := by decide +kernel
theorem dX4_indexOfReason_10 : decode cX4_indexOfReason 10 = .ok (.new 58, 3) := by decide +kernel
theorem dX4_indexOfReason_13 : decode cX4_indexOfReason 13 = .ok (.dup, 1) := by decide +kernel
theorem dX4_indexOfReason_14 : decode cX4_indexOfReason 14 = .ok (.ldc 227, 2) := by decide +kernel
theorem dX4_indexOfReason_16 : decode cX4_indexOfReason 16 = .ok (.invokespecial 62, 3) := by decide +kernel
theorem dX4_indexOfReason_19 : decode cX4_indexOfReason 19 = .ok (.athrow, 1) := by decide +kernel
theorem dX4_indexOfReason_20 : decode cX4_indexOfReason 20 = .ok (.iload_n 0, 1) := by decide +kernel
theorem dX4_indexOfReason_21 : decode cX4_indexOfReason 21 = .ok (.iconst 1, 1) := by decide +kernel
theorem dX4_indexOfReason_22 : decode cX4_indexOfReason 22 = .ok (.isub, 1) := by decide +kernel
theorem dX4_indexOfReason_23 : decode cX4_indexOfReason 23 = .ok (.ireturn, 1) := by decide +kernel
theorem dX4_findBill_0 : decode cX4_findBill 0 = .ok (.iload_n 1, 1) := by decide +kernel
theorem dX4_findBill_1 : decode cX4_findBill 1 = .ok (.ifCond .lt 21, 3) := by decide +kernel
theorem dX4_findBill_4 : decode cX4_findBill 4 = .ok (.iload_n 1, 1) := by decide +kernel
theorem dX4_findBill_5 : decode cX4_findBill 5 = .ok (.aload_n 0, 1) := by decide +kernel
theorem dX4_findBill_6 : decode cX4_findBill 6 = .ok (.getfield 40, 3) := by decide +kernel
theorem dX4_findBill_9 : decode cX4_findBill 9 = .ok (.arraylength, 1) := by decide +kernel
theorem dX4_findBill_10 : decode cX4_findBill 10 = .ok (.if_icmp .ge 12, 3) := by decide +kernel
theorem dX4_findBill_13 : decode cX4_findBill 13 = .ok (.aload_n 0, 1) := by decide +kernel
theorem dX4_findBill_14 : decode cX4_findBill 14 = .ok (.getfield 40, 3) := by decide +kernel
theorem dX4_findBill_17 : decode cX4_findBill 17 = .ok (.iload_n 1, 1) := by decide +kernel
theorem dX4_findBill_18 : decode cX4_findBill 18 = .ok (.aaload, 1) := by decide +kernel
theorem dX4_findBill_19 : decode cX4_findBill 19 = .ok (.goto 4, 3) := by decide +kernel
theorem dX4_findBill_22 : decode cX4_findBill 22 = .ok (.aconst_null, 1) := by decide +kernel
theorem dX4_findBill_23 : decode cX4_findBill 23 = .ok (.astore_n 2, 1) := by decide +kernel
theorem dX4_findBill_24 : decode cX4_findBill 24 = .ok (.aload_n 2, 1) := by decide +kernel
theorem dX4_findBill_25 : decode cX4_findBill 25 = .ok (.ifnonnull 13, 3) := by decide +kernel
theorem dX4_findBill_28 : decode cX4_findBill 28 = .ok (.new 58, 3) := by decide +kernel
theorem dX4_findBill_31 : decode cX4_findBill 31 = .ok (.dup, 1) := by decide +kernel
theorem dX4_findBill_32 : decode cX4_findBill 32 = .ok (.ldc 229, 2) := by decide +kernel
theorem dX4_findBill_34 : decode cX4_findBill 34 = .ok (.invokespecial 62, 3) := by decide +kernel
theorem dX4_findBill_37 : decode cX4_findBill 37 = .ok (.athrow, 1) := by decide +kernel
theorem dX4_findBill_38 : decode cX4_findBill 38 = .ok (.aload_n 2, 1) := by decide +kernel
theorem dX4_findBill_39 : decode cX4_findBill 39 = .ok (.areturn, 1) := by decide +kernel
theorem dX4_enter_0 : decode cX4_enter 0 = .ok (.aload_n 1, 1) := by decide +kernel
theorem dX4_enter_1 : decode cX4_enter 1 = .ok (.iload_n 2, 1) := by decide +kernel
theorem dX4_enter_2 : decode cX4_enter 2 = .ok (.putfield 133, 3) := by decide +kernel
theorem dX4_enter_5 : decode cX4_enter 5 = .ok (.aload_n 1, 1) := by decide +kernel
theorem dX4_enter_6 : decode cX4_enter 6 = .ok (.iload_n 3, 1) := by decide +kernel
theorem dX4_enter_7 : decode cX4_enter 7 = .ok (.putfield 158, 3) := by decide +kernel
theorem dX4_enter_10 : decode cX4_enter 10 = .ok (.aload_n 0, 1) := by decide +kernel
theorem dX4_enter_11 : decode cX4_enter 11 = .ok (.getfield 47, 3) := by decide +kernel
theorem dX4_enter_14 : decode cX4_enter 14 = .ok (.aload_n 0, 1) := by decide +kernel
theorem dX4_enter_15 : decode cX4_enter 15 = .ok (.getfield 83, 3) := by decide +kernel
theorem dX4_enter_18 : decode cX4_enter 18 = .ok (.aload_n 1, 1) := by decide +kernel
theorem dX4_enter_19 : decode cX4_enter 19 = .ok (.getfield 231, 3) := by decide +kernel
theorem dX4_enter_22 : decode cX4_enter 22 = .ok (.iload_n 2, 1) := by decide +kernel
theorem dX4_enter_23 : decode cX4_enter 23 = .ok (.invokevirtual 234, 3) := by decide +kernel
theorem dX4_enter_26 : decode cX4_enter 26 = .ok (.return_, 1) := by decide +kernel
theorem dX4_takePayment_0 : decode cX4_takePayment 0 = .ok (.aload_n 1, 1) := by decide +kernel
theorem dX4_takePayment_1 : decode cX4_takePayment 1 = .ok (.dup, 1) := by decide +kernel
theorem dX4_takePayment_2 : decode cX4_takePayment 2 = .ok (.getfield 138, 3) := by decide +kernel
theorem dX4_takePayment_5 : decode cX4_takePayment 5 = .ok (.iload_n 2, 1) := by decide +kernel
theorem dX4_takePayment_6 : decode cX4_takePayment 6 = .ok (.isub, 1) := by decide +kernel
theorem dX4_takePayment_7 : decode cX4_takePayment 7 = .ok (.putfield 138, 3) := by decide +kernel
theorem dX4_takePayment_10 : decode cX4_takePayment 10 = .ok (.aload_n 0, 1) := by decide +kernel
theorem dX4_takePayment_11 : decode cX4_takePayment 11 = .ok (.dup, 1) := by decide +kernel
theorem dX4_takePayment_12 : decode cX4_takePayment 12 = .ok (.getfield 197, 3) := by decide +kernel
theorem dX4_takePayment_15 : decode cX4_takePayment 15 = .ok (.iload_n 2, 1) := by decide +kernel
theorem dX4_takePayment_16 : decode cX4_takePayment 16 = .ok (.iadd, 1) := by decide +kernel
theorem dX4_takePayment_17 : decode cX4_takePayment 17 = .ok (.putfield 197, 3) := by decide +kernel
theorem dX4_takePayment_20 : decode cX4_takePayment 20 = .ok (.aload_n 1, 1) := by decide +kernel
theorem dX4_takePayment_21 : decode cX4_takePayment 21 = .ok (.getfield 133, 3) := by decide +kernel
theorem dX4_takePayment_24 : decode cX4_takePayment 24 = .ok (.iconst 5, 1) := by decide +kernel
theorem dX4_takePayment_25 : decode cX4_takePayment 25 = .ok (.if_icmp .ne 13, 3) := by decide +kernel
theorem dX4_takePayment_28 : decode cX4_takePayment 28 = .ok (.aload_n 0, 1) := by decide +kernel
theorem dX4_takePayment_29 : decode cX4_takePayment 29 = .ok (.dup, 1) := by decide +kernel
theorem dX4_takePayment_30 : decode cX4_takePayment 30 = .ok (.getfield 203, 3) := by decide +kernel
theorem dX4_takePayment_33 : decode cX4_takePayment 33 = .ok (.iload_n 2, 1) := by decide +kernel
theorem dX4_takePayment_34 : decode cX4_takePayment 34 = .ok (.iadd, 1) := by decide +kernel
theorem dX4_takePayment_35 : decode cX4_takePayment 35 = .ok (.putfield 203, 3) := by decide +kernel
theorem dX4_takePayment_38 : decode cX4_takePayment 38 = .ok (.aload_n 1, 1) := by decide +kernel
theorem dX4_takePayment_39 : decode cX4_takePayment 39 = .ok (.getfield 138, 3) := by decide +kernel
theorem dX4_takePayment_42 : decode cX4_takePayment 42 = .ok (.ifCond .ne 11, 3) := by decide +kernel
theorem dX4_takePayment_45 : decode cX4_takePayment 45 = .ok (.aload_n 0, 1) := by decide +kernel
theorem dX4_takePayment_46 : decode cX4_takePayment 46 = .ok (.aload_n 1, 1) := by decide +kernel
theorem dX4_takePayment_47 : decode cX4_takePayment 47 = .ok (.bipush 6, 2) := by decide +kernel
theorem dX4_takePayment_49 : decode cX4_takePayment 49 = .ok (.iconst (-1), 1) := by decide +kernel
theorem dX4_takePayment_50 : decode cX4_takePayment 50 = .ok (.invokevirtual 125, 3) := by decide +kernel
theorem dX4_takePayment_53 : decode cX4_takePayment 53 = .ok (.return_, 1) := by decide +kernel
theorem dX4_fail_0 : decode cX4_fail 0 = .ok (.iload_n 2, 1) := by decide +kernel
theorem dX4_fail_1 : decode cX4_fail 1 = .ok (.invokestatic 98, 3) := by decide +kernel
theorem dX4_fail_4 : decode cX4_fail 4 = .ok (.istore_n 3, 1) := by decide +kernel
theorem dX4_fail_5 : decode cX4_fail 5 = .ok (.aload_n 1, 1) := by decide +kernel
theorem dX4_fail_6 : decode cX4_fail 6 = .ok (.getfield 178, 3) := by decide +kernel
theorem dX4_fail_9 : decode cX4_fail 9 = .ok (.iload_n 3, 1) := by decide +kernel
theorem dX4_fail_10 : decode cX4_fail 10 = .ok (.dup2, 1) := by decide +kernel
theorem dX4_fail_11 : decode cX4_fail 11 = .ok (.iaload, 1) := by decide +kernel
theorem dX4_fail_12 : decode cX4_fail 12 = .ok (.iconst 1, 1) := by decide +kernel
theorem dX4_fail_13 : decode cX4_fail 13 = .ok (.iadd, 1) := by decide +kernel
theorem dX4_fail_14 : decode cX4_fail 14 = .ok (.iastore, 1) := by decide +kernel
theorem dX4_fail_15 : decode cX4_fail 15 = .ok (.aload_n 0, 1) := by decide +kernel
theorem dX4_fail_16 : decode cX4_fail 16 = .ok (.getfield 34, 3) := by decide +kernel
theorem dX4_fail_19 : decode cX4_fail 19 = .ok (.iload_n 3, 1) := by decide +kernel
theorem dX4_fail_20 : decode cX4_fail 20 = .ok (.aaload, 1) := by decide +kernel
theorem dX4_fail_21 : decode cX4_fail 21 = .ok (.aload_n 1, 1) := by decide +kernel
theorem dX4_fail_22 : decode cX4_fail 22 = .ok (.getfield 178, 3) := by decide +kernel
theorem dX4_fail_25 : decode cX4_fail 25 = .ok (.iload_n 3, 1) := by decide +kernel
theorem dX4_fail_26 : decode cX4_fail 26 = .ok (.iaload, 1) := by decide +kernel
theorem dX4_fail_27 : decode cX4_fail 27 = .ok (.invokevirtual 237, 3) := by decide +kernel
theorem dX4_fail_30 : decode cX4_fail 30 = .ok (.istore 4, 2) := by decide +kernel
theorem dX4_fail_32 : decode cX4_fail 32 = .ok (.iload 4, 2) := by decide +kernel
theorem dX4_fail_34 : decode cX4_fail 34 = .ok (.ifCond .ne 21, 3) := by decide +kernel
theorem dX4_fail_37 : decode cX4_fail 37 = .ok (.aload_n 0, 1) := by decide +kernel
theorem dX4_fail_38 : decode cX4_fail 38 = .ok (.aload_n 1, 1) := by decide +kernel
theorem dX4_fail_39 : decode cX4_fail 39 = .ok (.iconst 2, 1) := by decide +kernel
theorem dX4_fail_40 : decode cX4_fail 40 = .ok (.aload_n 0, 1) := by decide +kernel
theorem dX4_fail_41 : decode cX4_fail 41 = .ok (.getfield 83, 3) := by decide +kernel
theorem dX4_fail_44 : decode cX4_fail 44 = .ok (.aload_n 0, 1) := by decide +kernel
theorem dX4_fail_45 : decode cX4_fail 45 = .ok (.getfield 51, 3) := by decide +kernel
theorem dX4_fail_48 : decode cX4_fail 48 = .ok (.iadd, 1) := by decide +kernel
theorem dX4_fail_49 : decode cX4_fail 49 = .ok (.invokevirtual 125, 3) := by decide +kernel
theorem dX4_fail_52 : decode cX4_fail 52 = .ok (.goto 23, 3) := by decide +kernel
theorem dX4_fail_55 : decode cX4_fail 55 = .ok (.aload_n 0, 1) := by decide +kernel
theorem dX4_fail_56 : decode cX4_fail 56 = .ok (.aload_n 1, 1) := by decide +kernel
theorem dX4_fail_57 : decode cX4_fail 57 = .ok (.iconst 0, 1) := by decide +kernel
theorem dX4_fail_58 : decode cX4_fail 58 = .ok (.aload_n 0, 1) := by decide +kernel
theorem dX4_fail_59 : decode cX4_fail 59 = .ok (.getfield 10, 3) := by decide +kernel
theorem dX4_fail_62 : decode cX4_fail 62 = .ok (.aload_n 0, 1) := by decide +kernel
theorem dX4_fail_63 : decode cX4_fail 63 = .ok (.getfield 83, 3) := by decide +kernel
theorem dX4_fail_66 : decode cX4_fail 66 = .ok (.iload 4, 2) := by decide +kernel
theorem dX4_fail_68 : decode cX4_fail 68 = .ok (.iadd, 1) := by decide +kernel
theorem dX4_fail_69 : decode cX4_fail 69 = .ok (.invokevirtual 122, 3) := by decide +kernel
theorem dX4_fail_72 : decode cX4_fail 72 = .ok (.invokevirtual 125, 3) := by decide +kernel
theorem dX4_fail_75 : decode cX4_fail 75 = .ok (.return_, 1) := by decide +kernel
theorem dX4_failUnansweredTries_0 : decode cX4_failUnansweredTries 0 = .ok (.iconst 0, 1) := by decide +kernel
theorem dX4_failUnansweredTries_1 : decode cX4_failUnansweredTries 1 = .ok (.istore_n 1, 1) := by decide +kernel
theorem dX4_failUnansweredTries_2 : decode cX4_failUnansweredTries 2 = .ok (.iload_n 1, 1) := by decide +kernel
theorem dX4_failUnansweredTries_3 : decode cX4_failUnansweredTries 3 = .ok (.aload_n 0, 1) := by decide +kernel
theorem dX4_failUnansweredTries_4 : decode cX4_failUnansweredTries 4 = .ok (.getfield 40, 3) := by decide +kernel
theorem dX4_failUnansweredTries_7 : decode cX4_failUnansweredTries 7 = .ok (.arraylength, 1) := by decide +kernel
theorem dX4_failUnansweredTries_8 : decode cX4_failUnansweredTries 8 = .ok (.if_icmp .ge 34, 3) := by decide +kernel
theorem dX4_failUnansweredTries_11 : decode cX4_failUnansweredTries 11 = .ok (.aload_n 0, 1) := by decide +kernel
theorem dX4_failUnansweredTries_12 : decode cX4_failUnansweredTries 12 = .ok (.getfield 40, 3) := by decide +kernel
theorem dX4_failUnansweredTries_15 : decode cX4_failUnansweredTries 15 = .ok (.iload_n 1, 1) := by decide +kernel
theorem dX4_failUnansweredTries_16 : decode cX4_failUnansweredTries 16 = .ok (.aaload, 1) := by decide +kernel
theorem dX4_failUnansweredTries_17 : decode cX4_failUnansweredTries 17 = .ok (.astore_n 2, 1) := by decide +kernel
theorem dX4_failUnansweredTries_18 : decode cX4_failUnansweredTries 18 = .ok (.aload_n 2, 1) := by decide +kernel
theorem dX4_failUnansweredTries_19 : decode cX4_failUnansweredTries 19 = .ok (.ifnull 17, 3) := by decide +kernel
theorem dX4_failUnansweredTries_22 : decode cX4_failUnansweredTries 22 = .ok (.aload_n 2, 1) := by decide +kernel
theorem dX4_failUnansweredTries_23 : decode cX4_failUnansweredTries 23 = .ok (.getfield 133, 3) := by decide +kernel
theorem dX4_failUnansweredTries_26 : decode cX4_failUnansweredTries 26 = .ok (.iconst 1, 1) := by decide +kernel
theorem dX4_failUnansweredTries_27 : decode cX4_failUnansweredTries 27 = .ok (.if_icmp .ne 9, 3) := by decide +kernel
theorem dX4_failUnansweredTries_30 : decode cX4_failUnansweredTries 30 = .ok (.aload_n 0, 1) := by decide +kernel
theorem dX4_failUnansweredTries_31 : decode cX4_failUnansweredTries 31 = .ok (.aload_n 2, 1) := by decide +kernel
theorem dX4_failUnansweredTries_32 : decode cX4_failUnansweredTries 32 = .ok (.iconst 4, 1) := by decide +kernel
theorem dX4_failUnansweredTries_33 : decode cX4_failUnansweredTries 33 = .ok (.invokevirtual 145, 3) := by decide +kernel
theorem dX4_failUnansweredTries_36 : decode cX4_failUnansweredTries 36 = .ok (.iinc 1 1, 3) := by decide +kernel
theorem dX4_failUnansweredTries_39 : decode cX4_failUnansweredTries 39 = .ok (.goto (-37), 3) := by decide +kernel
theorem dX4_failUnansweredTries_42 : decode cX4_failUnansweredTries 42 = .ok (.return_, 1) := by decide +kernel
theorem dX4_lookAtBills_0 : decode cX4_lookAtBills 0 = .ok (.iconst 0, 1) := by decide +kernel
theorem dX4_lookAtBills_1 : decode cX4_lookAtBills 1 = .ok (.istore_n 1, 1) := by decide +kernel
theorem dX4_lookAtBills_2 : decode cX4_lookAtBills 2 = .ok (.iconst 0, 1) := by decide +kernel
theorem dX4_lookAtBills_3 : decode cX4_lookAtBills 3 = .ok (.istore_n 2, 1) := by decide +kernel
theorem dX4_lookAtBills_4 : decode cX4_lookAtBills 4 = .ok (.iload_n 2, 1) := by decide +kernel
theorem dX4_lookAtBills_5 : decode cX4_lookAtBills 5 = .ok (.aload_n 0, 1) := by decide +kernel
theorem dX4_lookAtBills_6 : decode cX4_lookAtBills 6 = .ok (.getfield 40, 3) := by decide +kernel
theorem dX4_lookAtBills_9 : decode cX4_lookAtBills 9 = .ok (.arraylength, 1) := by decide +kernel
theorem dX4_lookAtBills_10 : decode cX4_lookAtBills 10 = .ok (.if_icmp .ge 31, 3) := by decide +kernel
theorem dX4_lookAtBills_13 : decode cX4_lookAtBills 13 = .ok (.aload_n 0, 1) := by decide +kernel
theorem dX4_lookAtBills_14 : decode cX4_lookAtBills 14 = .ok (.getfield 40, 3) := by decide +kernel
theorem dX4_lookAtBills_17 : decode cX4_lookAtBills 17 = .ok (.iload_n 2, 1) := by decide +kernel
theorem dX4_lookAtBills_18 : decode cX4_lookAtBills 18 = .ok (.aaload, 1) := by decide +kernel
theorem dX4_lookAtBills_19 : decode cX4_lookAtBills 19 = .ok (.astore_n 3, 1) := by decide +kernel
theorem dX4_lookAtBills_20 : decode cX4_lookAtBills 20 = .ok (.aload_n 3, 1) := by decide +kernel
theorem dX4_lookAtBills_21 : decode cX4_lookAtBills 21 = .ok (.ifnull 14, 3) := by decide +kernel
theorem dX4_lookAtBills_24 : decode cX4_lookAtBills 24 = .ok (.aload_n 0, 1) := by decide +kernel
theorem dX4_lookAtBills_25 : decode cX4_lookAtBills 25 = .ok (.aload_n 3, 1) := by decide +kernel
theorem dX4_lookAtBills_26 : decode cX4_lookAtBills 26 = .ok (.invokevirtual 240, 3) := by decide +kernel
theorem dX4_lookAtBills_29 : decode cX4_lookAtBills 29 = .ok (.ifCond .eq 6, 3) := by decide +kernel
theorem dX4_lookAtBills_32 : decode cX4_lookAtBills 32 = .ok (.iinc 1 1, 3) := by decide +kernel
theorem dX4_lookAtBills_35 : decode cX4_lookAtBills 35 = .ok (.iinc 2 1, 3) := by decide +kernel
theorem dX4_lookAtBills_38 : decode cX4_lookAtBills 38 = .ok (.goto (-34), 3) := by decide +kernel
theorem dX4_lookAtBills_41 : decode cX4_lookAtBills 41 = .ok (.iload_n 1, 1) := by decide +kernel
theorem dX4_lookAtBills_42 : decode cX4_lookAtBills 42 = .ok (.ireturn, 1) := by decide +kernel
theorem dX4_lookAt_0 : decode cX4_lookAt 0 = .ok (.aload_n 1, 1) := by decide +kernel
theorem dX4_lookAt_1 : decode cX4_lookAt 1 = .ok (.getfield 133, 3) := by decide +kernel
theorem dX4_lookAt_4 : decode cX4_lookAt 4 = .ok (.ifCond .ne 28, 3) := by decide +kernel
theorem dX4_lookAt_7 : decode cX4_lookAt 7 = .ok (.aload_n 1, 1) := by decide +kernel
theorem dX4_lookAt_8 : decode cX4_lookAt 8 = .ok (.getfield 158, 3) := by decide +kernel
theorem dX4_lookAt_11 : decode cX4_lookAt 11 = .ok (.aload_n 0, 1) := by decide +kernel
theorem dX4_lookAt_12 : decode cX4_lookAt 12 = .ok (.getfield 83, 3) := by decide +kernel
theorem dX4_lookAt_15 : decode cX4_lookAt 15 = .ok (.if_icmp .gt 15, 3) := by decide +kernel
theorem dX4_lookAt_18 : decode cX4_lookAt 18 = .ok (.aload_n 0, 1) := by decide +kernel
theorem dX4_lookAt_19 : decode cX4_lookAt 19 = .ok (.aload_n 1, 1) := by decide +kernel
theorem dX4_lookAt_20 : decode cX4_lookAt 20 = .ok (.invokevirtual 244, 3) := by decide +kernel
theorem dX4_lookAt_23 : decode cX4_lookAt 23 = .ok (.ifCond .eq 7, 3) := by decide +kernel
theorem dX4_lookAt_26 : decode cX4_lookAt 26 = .ok (.iconst 1, 1) := by decide +kernel
theorem dX4_lookAt_27 : decode cX4_lookAt 27 = .ok (.goto 4, 3) := by decide +kernel
theorem dX4_lookAt_30 : decode cX4_lookAt 30 = .ok (.iconst 0, 1) := by decide +kernel
theorem dX4_lookAt_31 : decode cX4_lookAt 31 = .ok (.ireturn, 1) := by decide +kernel
theorem dX4_lookAt_32 : decode cX4_lookAt 32 = .ok (.aload_n 1, 1) := by decide +kernel
theorem dX4_lookAt_33 : decode cX4_lookAt 33 = .ok (.getfield 158, 3) := by decide +kernel
theorem dX4_lookAt_36 : decode cX4_lookAt 36 = .ok (.aload_n 0, 1) := by decide +kernel
theorem dX4_lookAt_37 : decode cX4_lookAt 37 = .ok (.getfield 83, 3) := by decide +kernel
theorem dX4_lookAt_40 : decode cX4_lookAt 40 = .ok (.if_icmp .eq 5, 3) := by decide +kernel
theorem dX4_lookAt_43 : decode cX4_lookAt 43 = .ok (.iconst 0, 1) := by decide +kernel
theorem dX4_lookAt_44 : decode cX4_lookAt 44 = .ok (.ireturn, 1) := by decide +kernel
theorem dX4_lookAt_45 : decode cX4_lookAt 45 = .ok (.aload_n 1, 1) := by decide +kernel
theorem dX4_lookAt_46 : decode cX4_lookAt 46 = .ok (.getfield 133, 3) := by decide +kernel
theorem dX4_lookAt_49 : decode cX4_lookAt 49 = .ok (.iconst 2, 1) := by decide +kernel
theorem dX4_lookAt_50 : decode cX4_lookAt 50 = .ok (.if_icmp .ne 21, 3) := by decide +kernel
theorem dX4_lookAt_53 : decode cX4_lookAt 53 = .ok (.aload_n 0, 1) := by decide +kernel
theorem dX4_lookAt_54 : decode cX4_lookAt 54 = .ok (.aload_n 1, 1) := by decide +kernel
theorem dX4_lookAt_55 : decode cX4_lookAt 55 = .ok (.iconst 3, 1) := by decide +kernel
theorem dX4_lookAt_56 : decode cX4_lookAt 56 = .ok (.aload_n 0, 1) := by decide +kernel
theorem dX4_lookAt_57 : decode cX4_lookAt 57 = .ok (.getfield 83, 3) := by decide +kernel
theorem dX4_lookAt_60 : decode cX4_lookAt 60 = .ok (.aload_n 0, 1) := by decide +kernel
theorem dX4_lookAt_61 : decode cX4_lookAt 61 = .ok (.getfield 55, 3) := by decide +kernel
theorem dX4_lookAt_64 : decode cX4_lookAt 64 = .ok (.iadd, 1) := by decide +kernel
theorem dX4_lookAt_65 : decode cX4_lookAt 65 = .ok (.invokevirtual 125, 3) := by decide +kernel
theorem dX4_lookAt_68 : decode cX4_lookAt 68 = .ok (.goto 47, 3) := by decide +kernel
theorem dX4_lookAt_71 : decode cX4_lookAt 71 = .ok (.aload_n 1, 1) := by decide +kernel
theorem dX4_lookAt_72 : decode cX4_lookAt 72 = .ok (.getfield 133, 3) := by decide +kernel
theorem dX4_lookAt_75 : decode cX4_lookAt 75 = .ok (.iconst 3, 1) := by decide +kernel
theorem dX4_lookAt_76 : decode cX4_lookAt 76 = .ok (.if_icmp .ne 26, 3) := by decide +kernel
theorem dX4_lookAt_79 : decode cX4_lookAt 79 = .ok (.aload_n 0, 1) := by decide +kernel
theorem dX4_lookAt_80 : decode cX4_lookAt 80 = .ok (.dup, 1) := by decide +kernel
theorem dX4_lookAt_81 : decode cX4_lookAt 81 = .ok (.getfield 200, 3) := by decide +kernel
theorem dX4_lookAt_84 : decode cX4_lookAt 84 = .ok (.aload_n 1, 1) := by decide +kernel
theorem dX4_lookAt_85 : decode cX4_lookAt 85 = .ok (.getfield 138, 3) := by decide +kernel
theorem dX4_lookAt_88 : decode cX4_lookAt 88 = .ok (.iadd, 1) := by decide +kernel
theorem dX4_lookAt_89 : decode cX4_lookAt 89 = .ok (.putfield 200, 3) := by decide +kernel
theorem dX4_lookAt_92 : decode cX4_lookAt 92 = .ok (.aload_n 0, 1) := by decide +kernel
theorem dX4_lookAt_93 : decode cX4_lookAt 93 = .ok (.aload_n 1, 1) := by decide +kernel
theorem dX4_lookAt_94 : decode cX4_lookAt 94 = .ok (.iconst 5, 1) := by decide +kernel
theorem dX4_lookAt_95 : decode cX4_lookAt 95 = .ok (.iconst (-1), 1) := by decide +kernel
theorem dX4_lookAt_96 : decode cX4_lookAt 96 = .ok (.invokevirtual 125, 3) := by decide +kernel
theorem dX4_lookAt_99 : decode cX4_lookAt 99 = .ok (.goto 16, 3) := by decide +kernel
theorem dX4_lookAt_102 : decode cX4_lookAt 102 = .ok (.aload_n 1, 1) := by decide +kernel
theorem dX4_lookAt_103 : decode cX4_lookAt 103 = .ok (.getfield 133, 3) := by decide +kernel
theorem dX4_lookAt_106 : decode cX4_lookAt 106 = .ok (.iconst 4, 1) := by decide +kernel
theorem dX4_lookAt_107 : decode cX4_lookAt 107 = .ok (.if_icmp .ne 8, 3) := by decide +kernel
theorem dX4_lookAt_110 : decode cX4_lookAt 110 = .ok (.aload_n 0, 1) := by decide +kernel
theorem dX4_lookAt_111 : decode cX4_lookAt 111 = .ok (.aload_n 1, 1) := by decide +kernel
theorem dX4_lookAt_112 : decode cX4_lookAt 112 = .ok (.invokevirtual 247, 3) := by decide +kernel
theorem dX4_lookAt_115 : decode cX4_lookAt 115 = .ok (.iconst 0, 1) := by decide +kernel
theorem dX4_lookAt_116 : decode cX4_lookAt 116 = .ok (.ireturn, 1) := by decide +kernel
theorem dX4_beginTry_0 : decode cX4_beginTry 0 = .ok (.aload_n 0, 1) := by decide +kernel
theorem dX4_beginTry_1 : decode cX4_beginTry 1 = .ok (.getfield 10, 3) := by decide +kernel
theorem dX4_beginTry_4 : decode cX4_beginTry 4 = .ok (.aload_n 0, 1) := by decide +kernel
theorem dX4_beginTry_5 : decode cX4_beginTry 5 = .ok (.getfield 83, 3) := by decide +kernel
theorem dX4_beginTry_8 : decode cX4_beginTry 8 = .ok (.invokevirtual 172, 3) := by decide +kernel
theorem dX4_beginTry_11 : decode cX4_beginTry 11 = .ok (.ifCond .ne 22, 3) := by decide +kernel
theorem dX4_beginTry_14 : decode cX4_beginTry 14 = .ok (.aload_n 1, 1) := by decide +kernel
theorem dX4_beginTry_15 : decode cX4_beginTry 15 = .ok (.aload_n 0, 1) := by decide +kernel
theorem dX4_beginTry_16 : decode cX4_beginTry 16 = .ok (.getfield 10, 3) := by decide +kernel
theorem dX4_beginTry_19 : decode cX4_beginTry 19 = .ok (.aload_n 0, 1) := by decide +kernel
theorem dX4_beginTry_20 : decode cX4_beginTry 20 = .ok (.getfield 83, 3) := by decide +kernel
theorem dX4_beginTry_23 : decode cX4_beginTry 23 = .ok (.iconst 1, 1) := by decide +kernel
theorem dX4_beginTry_24 : decode cX4_beginTry 24 = .ok (.iadd, 1) := by decide +kernel
theorem dX4_beginTry_25 : decode cX4_beginTry 25 = .ok (.invokevirtual 122, 3) := by decide +kernel
theorem dX4_beginTry_28 : decode cX4_beginTry 28 = .ok (.putfield 158, 3) := by decide +kernel
theorem dX4_beginTry_31 : decode cX4_beginTry 31 = .ok (.iconst 0, 1) := by decide +kernel
theorem dX4_beginTry_32 : decode cX4_beginTry 32 = .ok (.ireturn, 1) := by decide +kernel
theorem dX4_beginTry_33 : decode cX4_beginTry 33 = .ok (.aload_n 1, 1) := by decide +kernel
theorem dX4_beginTry_34 : decode cX4_beginTry 34 = .ok (.dup, 1) := by decide +kernel
theorem dX4_beginTry_35 : decode cX4_beginTry 35 = .ok (.getfield 175, 3) := by decide +kernel
theorem dX4_beginTry_38 : decode cX4_beginTry 38 = .ok (.iconst 1, 1) := by decide +kernel
theorem dX4_beginTry_39 : decode cX4_beginTry 39 = .ok (.iadd, 1) := by decide +kernel
theorem dX4_beginTry_40 : decode cX4_beginTry 40 = .ok (.putfield 175, 3) := by decide +kernel
theorem dX4_beginTry_43 : decode cX4_beginTry 43 = .ok (.aload_n 0, 1) := by decide +kernel
theorem dX4_beginTry_44 : decode cX4_beginTry 44 = .ok (.aload_n 1, 1) := by decide +kernel
theorem dX4_beginTry_45 : decode cX4_beginTry 45 = .ok (.iconst 1, 1) := by decide +kernel
theorem dX4_beginTry_46 : decode cX4_beginTry 46 = .ok (.iconst (-1), 1) := by decide +kernel
theorem dX4_beginTry_47 : decode cX4_beginTry 47 = .ok (.invokevirtual 125, 3) := by decide +kernel
theorem dX4_beginTry_50 : decode cX4_beginTry 50 = .ok (.iconst 1, 1) := by decide +kernel
theorem dX4_beginTry_51 : decode cX4_beginTry 51 = .ok (.ireturn, 1) := by decide +kernel
theorem dX4_breakPromise_0 : decode cX4_breakPromise 0 = .ok (.aload_n 1, 1) := by decide +kernel
theorem dX4_breakPromise_1 : decode cX4_breakPromise 1 = .ok (.dup, 1) := by decide +kernel
theorem dX4_breakPromise_2 : decode cX4_breakPromise 2 = .ok (.getfield 181, 3) := by decide +kernel
theorem dX4_breakPromise_5 : decode cX4_breakPromise 5 = .ok (.iconst 1, 1) := by decide +kernel
theorem dX4_breakPromise_6 : decode cX4_breakPromise 6 = .ok (.iadd, 1) := by decide +kernel
theorem dX4_breakPromise_7 : decode cX4_breakPromise 7 = .ok (.putfield 181, 3) := by decide +kernel
theorem dX4_breakPromise_10 : decode cX4_breakPromise 10 = .ok (.aload_n 1, 1) := by decide +kernel
theorem dX4_breakPromise_11 : decode cX4_breakPromise 11 = .ok (.getfield 155, 3) := by decide +kernel
theorem dX4_breakPromise_14 : decode cX4_breakPromise 14 = .ok (.ifCond .ne 25, 3) := by decide +kernel
theorem dX4_breakPromise_17 : decode cX4_breakPromise 17 = .ok (.aload_n 0, 1) := by decide +kernel
theorem dX4_breakPromise_18 : decode cX4_breakPromise 18 = .ok (.aload_n 1, 1) := by decide +kernel
theorem dX4_breakPromise_19 : decode cX4_breakPromise 19 = .ok (.iconst 0, 1) := by decide +kernel
theorem dX4_breakPromise_20 : decode cX4_breakPromise 20 = .ok (.aload_n 0, 1) := by decide +kernel
theorem dX4_breakPromise_21 : decode cX4_breakPromise 21 = .ok (.getfield 10, 3) := by decide +kernel
theorem dX4_breakPromise_24 : decode cX4_breakPromise 24 = .ok (.aload_n 0, 1) := by decide +kernel
theorem dX4_breakPromise_25 : decode cX4_breakPromise 25 = .ok (.getfield 83, 3) := by decide +kernel
theorem dX4_breakPromise_28 : decode cX4_breakPromise 28 = .ok (.iconst 1, 1) := by decide +kernel
theorem dX4_breakPromise_29 : decode cX4_breakPromise 29 = .ok (.iadd, 1) := by decide +kernel
theorem dX4_breakPromise_30 : decode cX4_breakPromise 30 = .ok (.invokevirtual 122, 3) := by decide +kernel
theorem dX4_breakPromise_33 : decode cX4_breakPromise 33 = .ok (.invokevirtual 125, 3) := by decide +kernel
theorem dX4_breakPromise_36 : decode cX4_breakPromise 36 = .ok (.goto 21, 3) := by decide +kernel
theorem dX4_breakPromise_39 : decode cX4_breakPromise 39 = .ok (.aload_n 0, 1) := by decide +kernel
theorem dX4_breakPromise_40 : decode cX4_breakPromise 40 = .ok (.aload_n 1, 1) := by decide +kernel
theorem dX4_breakPromise_41 : decode cX4_breakPromise 41 = .ok (.aload_n 1, 1) := by decide +kernel
theorem dX4_breakPromise_42 : decode cX4_breakPromise 42 = .ok (.getfield 155, 3) := by decide +kernel
theorem dX4_breakPromise_45 : decode cX4_breakPromise 45 = .ok (.aload_n 0, 1) := by decide +kernel
theorem dX4_breakPromise_46 : decode cX4_breakPromise 46 = .ok (.getfield 83, 3) := by decide +kernel
theorem dX4_breakPromise_49 : decode cX4_breakPromise 49 = .ok (.aload_n 1, 1) := by decide +kernel
theorem dX4_breakPromise_50 : decode cX4_breakPromise 50 = .ok (.getfield 161, 3) := by decide +kernel
theorem dX4_breakPromise_53 : decode cX4_breakPromise 53 = .ok (.iadd, 1) := by decide +kernel
theorem dX4_breakPromise_54 : decode cX4_breakPromise 54 = .ok (.invokevirtual 125, 3) := by decide +kernel
theorem dX4_breakPromise_57 : decode cX4_breakPromise 57 = .ok (.return_, 1) := by decide +kernel
theorem dX4_serviceWith_0 : decode cX4_serviceWith 0 = .ok (.aload_n 0, 1) := by decide +kernel
theorem dX4_serviceWith_1 : decode cX4_serviceWith 1 = .ok (.getfield 133, 3) := by decide +kernel
theorem dX4_serviceWith_4 : decode cX4_serviceWith 4 = .ok (.iconst 3, 1) := by decide +kernel
theorem dX4_serviceWith_5 : decode cX4_serviceWith 5 = .ok (.if_icmp .eq 11, 3) := by decide +kernel
theorem dX4_serviceWith_8 : decode cX4_serviceWith 8 = .ok (.aload_n 0, 1) := by decide +kernel
theorem dX4_serviceWith_9 : decode cX4_serviceWith 9 = .ok (.getfield 133, 3) := by decide +kernel
theorem dX4_serviceWith_12 : decode cX4_serviceWith 12 = .ok (.iconst 5, 1) := by decide +kernel
theorem dX4_serviceWith_13 : decode cX4_serviceWith 13 = .ok (.if_icmp .ne 5, 3) := by decide +kernel
theorem dX4_serviceWith_16 : decode cX4_serviceWith 16 = .ok (.iconst 0, 1) := by decide +kernel
theorem dX4_serviceWith_17 : decode cX4_serviceWith 17 = .ok (.ireturn, 1) := by decide +kernel
theorem dX4_serviceWith_18 : decode cX4_serviceWith 18 = .ok (.aload_n 0, 1) := by decide +kernel
theorem dX4_serviceWith_19 : decode cX4_serviceWith 19 = .ok (.getfield 133, 3) := by decide +kernel
theorem dX4_serviceWith_22 : decode cX4_serviceWith 22 = .ok (.iconst 4, 1) := by decide +kernel
theorem dX4_serviceWith_23 : decode cX4_serviceWith 23 = .ok (.if_icmp .ne 14, 3) := by decide +kernel
theorem dX4_serviceWith_26 : decode cX4_serviceWith 26 = .ok (.aload_n 0, 1) := by decide +kernel
theorem dX4_serviceWith_27 : decode cX4_serviceWith 27 = .ok (.getfield 155, 3) := by decide +kernel
theorem dX4_serviceWith_30 : decode cX4_serviceWith 30 = .ok (.ifCond .eq 7, 3) := by decide +kernel
theorem dX4_serviceWith_33 : decode cX4_serviceWith 33 = .ok (.iconst 1, 1) := by decide +kernel
theorem dX4_serviceWith_34 : decode cX4_serviceWith 34 = .ok (.goto 4, 3) := by decide +kernel
theorem dX4_serviceWith_37 : decode cX4_serviceWith 37 = .ok (.iconst 0, 1) := by decide +kernel
theorem dX4_serviceWith_38 : decode cX4_serviceWith 38 = .ok (.istore_n 1, 1) := by decide +kernel
theorem dX4_serviceWith_39 : decode cX4_serviceWith 39 = .ok (.aload_n 0, 1) := by decide +kernel
theorem dX4_serviceWith_40 : decode cX4_serviceWith 40 = .ok (.getfield 133, 3) := by decide +kernel
theorem dX4_serviceWith_43 : decode cX4_serviceWith 43 = .ok (.iconst 2, 1) := by decide +kernel
theorem dX4_serviceWith_44 : decode cX4_serviceWith 44 = .ok (.if_icmp .eq 7, 3) := by decide +kernel
theorem dX4_serviceWith_47 : decode cX4_serviceWith 47 = .ok (.iload_n 1, 1) := by decide +kernel
theorem dX4_serviceWith_48 : decode cX4_serviceWith 48 = .ok (.ifCond .eq 7, 3) := by decide +kernel
theorem dX4_serviceWith_51 : decode cX4_serviceWith 51 = .ok (.iconst 1, 1) := by decide +kernel
theorem dX4_serviceWith_52 : decode cX4_serviceWith 52 = .ok (.goto 4, 3) := by decide +kernel
theorem dX4_serviceWith_55 : decode cX4_serviceWith 55 = .ok (.iconst 2, 1) := by decide +kernel
theorem dX4_serviceWith_56 : decode cX4_serviceWith 56 = .ok (.ireturn, 1) := by decide +kernel
theorem dJ6_bitCount_0f7a4_0 : decode cJ6_bitCount_0f7a4 0 = .ok (.iload_n 0, 1) := by decide +kernel
theorem dJ6_bitCount_0f7a4_1 : decode cJ6_bitCount_0f7a4 1 = .ok (.iload_n 0, 1) := by decide +kernel
theorem dJ6_bitCount_0f7a4_2 : decode cJ6_bitCount_0f7a4 2 = .ok (.iconst 1, 1) := by decide +kernel
theorem dJ6_bitCount_0f7a4_3 : decode cJ6_bitCount_0f7a4 3 = .ok (.iushr, 1) := by decide +kernel
theorem dJ6_bitCount_0f7a4_4 : decode cJ6_bitCount_0f7a4 4 = .ok (.ldc_w 265, 3) := by decide +kernel
theorem dJ6_bitCount_0f7a4_7 : decode cJ6_bitCount_0f7a4 7 = .ok (.iand, 1) := by decide +kernel
theorem dJ6_bitCount_0f7a4_8 : decode cJ6_bitCount_0f7a4 8 = .ok (.isub, 1) := by decide +kernel
theorem dJ6_bitCount_0f7a4_9 : decode cJ6_bitCount_0f7a4 9 = .ok (.istore_n 0, 1) := by decide +kernel
theorem dJ6_bitCount_0f7a4_10 : decode cJ6_bitCount_0f7a4 10 = .ok (.iload_n 0, 1) := by decide +kernel
theorem dJ6_bitCount_0f7a4_11 : decode cJ6_bitCount_0f7a4 11 = .ok (.ldc_w 266, 3) := by decide +kernel
theorem dJ6_bitCount_0f7a4_14 : decode cJ6_bitCount_0f7a4 14 = .ok (.iand, 1) := by decide +kernel
theorem dJ6_bitCount_0f7a4_15 : decode cJ6_bitCount_0f7a4 15 = .ok (.iload_n 0, 1) := by decide +kernel
theorem dJ6_bitCount_0f7a4_16 : decode cJ6_bitCount_0f7a4 16 = .ok (.iconst 2, 1) := by decide +kernel
theorem dJ6_bitCount_0f7a4_17 : decode cJ6_bitCount_0f7a4 17 = .ok (.iushr, 1) := by decide +kernel
theorem dJ6_bitCount_0f7a4_18 : decode cJ6_bitCount_0f7a4 18 = .ok (.ldc_w 266, 3) := by decide +kernel
theorem dJ6_bitCount_0f7a4_21 : decode cJ6_bitCount_0f7a4 21 = .ok (.iand, 1) := by decide +kernel
theorem dJ6_bitCount_0f7a4_22 : decode cJ6_bitCount_0f7a4 22 = .ok (.iadd, 1) := by decide +kernel
theorem dJ6_bitCount_0f7a4_23 : decode cJ6_bitCount_0f7a4 23 = .ok (.istore_n 0, 1) := by decide +kernel
theorem dJ6_bitCount_0f7a4_24 : decode cJ6_bitCount_0f7a4 24 = .ok (.iload_n 0, 1) := by decide +kernel
theorem dJ6_bitCount_0f7a4_25 : decode cJ6_bitCount_0f7a4 25 = .ok (.iload_n 0, 1) := by decide +kernel
theorem dJ6_bitCount_0f7a4_26 : decode cJ6_bitCount_0f7a4 26 = .ok (.iconst 4, 1) := by decide +kernel
theorem dJ6_bitCount_0f7a4_27 : decode cJ6_bitCount_0f7a4 27 = .ok (.iushr, 1) := by decide +kernel
theorem dJ6_bitCount_0f7a4_28 : decode cJ6_bitCount_0f7a4 28 = .ok (.iadd, 1) := by decide +kernel
theorem dJ6_bitCount_0f7a4_29 : decode cJ6_bitCount_0f7a4 29 = .ok (.ldc_w 267, 3) := by decide +kernel
theorem dJ6_bitCount_0f7a4_32 : decode cJ6_bitCount_0f7a4 32 = .ok (.iand, 1) := by decide +kernel
theorem dJ6_bitCount_0f7a4_33 : decode cJ6_bitCount_0f7a4 33 = .ok (.istore_n 0, 1) := by decide +kernel
theorem dJ6_bitCount_0f7a4_34 : decode cJ6_bitCount_0f7a4 34 = .ok (.iload_n 0, 1) := by decide +kernel
theorem dJ6_bitCount_0f7a4_35 : decode cJ6_bitCount_0f7a4 35 = .ok (.iload_n 0, 1) := by decide +kernel
theorem dJ6_bitCount_0f7a4_36 : decode cJ6_bitCount_0f7a4 36 = .ok (.bipush 8, 2) := by decide +kernel
theorem dJ6_bitCount_0f7a4_38 : decode cJ6_bitCount_0f7a4 38 = .ok (.iushr, 1) := by decide +kernel
theorem dJ6_bitCount_0f7a4_39 : decode cJ6_bitCount_0f7a4 39 = .ok (.iadd, 1) := by decide +kernel
theorem dJ6_bitCount_0f7a4_40 : decode cJ6_bitCount_0f7a4 40 = .ok (.istore_n 0, 1) := by decide +kernel
theorem dJ6_bitCount_0f7a4_41 : decode cJ6_bitCount_0f7a4 41 = .ok (.iload_n 0, 1) := by decide +kernel
theorem dJ6_bitCount_0f7a4_42 : decode cJ6_bitCount_0f7a4 42 = .ok (.iload_n 0, 1) := by decide +kernel
theorem dJ6_bitCount_0f7a4_43 : decode cJ6_bitCount_0f7a4 43 = .ok (.bipush 16, 2) := by decide +kernel
theorem dJ6_bitCount_0f7a4_45 : decode cJ6_bitCount_0f7a4 45 = .ok (.iushr, 1) := by decide +kernel
theorem dJ6_bitCount_0f7a4_46 : decode cJ6_bitCount_0f7a4 46 = .ok (.iadd, 1) := by decide +kernel
theorem dJ6_bitCount_0f7a4_47 : decode cJ6_bitCount_0f7a4 47 = .ok (.istore_n 0, 1) := by decide +kernel
theorem dJ6_bitCount_0f7a4_48 : decode cJ6_bitCount_0f7a4 48 = .ok (.iload_n 0, 1) := by decide +kernel
theorem dJ6_bitCount_0f7a4_49 : decode cJ6_bitCount_0f7a4 49 = .ok (.bipush 63, 2) := by decide +kernel
theorem dJ6_bitCount_0f7a4_51 : decode cJ6_bitCount_0f7a4 51 = .ok (.iand, 1) := by decide +kernel
theorem dJ6_bitCount_0f7a4_52 : decode cJ6_bitCount_0f7a4 52 = .ok (.ireturn, 1) := by decide +kernel
theorem dJ9_floorMod_7cf53_0 : decode cJ9_floorMod_7cf53 0 = .ok (.iload_n 0, 1) := by decide +kernel
theorem dJ9_floorMod_7cf53_1 : decode cJ9_floorMod_7cf53 1 = .ok (.iload_n 1, 1) := by decide +kernel
theorem dJ9_floorMod_7cf53_2 : decode cJ9_floorMod_7cf53 2 = .ok (.irem, 1) := by decide +kernel
theorem dJ9_floorMod_7cf53_3 : decode cJ9_floorMod_7cf53 3 = .ok (.istore_n 2, 1) := by decide +kernel
theorem dJ9_floorMod_7cf53_4 : decode cJ9_floorMod_7cf53 4 = .ok (.iload_n 0, 1) := by decide +kernel
theorem dJ9_floorMod_7cf53_5 : decode cJ9_floorMod_7cf53 5 = .ok (.iload_n 1, 1) := by decide +kernel
theorem dJ9_floorMod_7cf53_6 : decode cJ9_floorMod_7cf53 6 = .ok (.ixor, 1) := by decide +kernel
theorem dJ9_floorMod_7cf53_7 : decode cJ9_floorMod_7cf53 7 = .ok (.ifCond .ge 11, 3) := by decide +kernel
theorem dJ9_floorMod_7cf53_10 : decode cJ9_floorMod_7cf53 10 = .ok (.iload_n 2, 1) := by decide +kernel
theorem dJ9_floorMod_7cf53_11 : decode cJ9_floorMod_7cf53 11 = .ok (.ifCond .eq 7, 3) := by decide +kernel
theorem dJ9_floorMod_7cf53_14 : decode cJ9_floorMod_7cf53 14 = .ok (.iload_n 2, 1) := by decide +kernel
theorem dJ9_floorMod_7cf53_15 : decode cJ9_floorMod_7cf53 15 = .ok (.iload_n 1, 1) := by decide +kernel
theorem dJ9_floorMod_7cf53_16 : decode cJ9_floorMod_7cf53 16 = .ok (.iadd, 1) := by decide +kernel
theorem dJ9_floorMod_7cf53_17 : decode cJ9_floorMod_7cf53 17 = .ok (.ireturn, 1) := by decide +kernel
theorem dJ9_floorMod_7cf53_18 : decode cJ9_floorMod_7cf53 18 = .ok (.iload_n 2, 1) := by decide +kernel
theorem dJ9_floorMod_7cf53_19 : decode cJ9_floorMod_7cf53 19 = .ok (.ireturn, 1) := by decide +kernel
theorem dJ9_min_7cf53_0 : decode cJ9_min_7cf53 0 = .ok (.iload_n 0, 1) := by decide +kernel
theorem dJ9_min_7cf53_1 : decode cJ9_min_7cf53 1 = .ok (.iload_n 1, 1) := by decide +kernel
theorem dJ9_min_7cf53_2 : decode cJ9_min_7cf53 2 = .ok (.if_icmp .gt 7, 3) := by decide +kernel
theorem dJ9_min_7cf53_5 : decode cJ9_min_7cf53 5 = .ok (.iload_n 0, 1) := by decide +kernel
theorem dJ9_min_7cf53_6 : decode cJ9_min_7cf53 6 = .ok (.goto 4, 3) := by decide +kernel
theorem dJ9_min_7cf53_9 : decode cJ9_min_7cf53 9 = .ok (.iload_n 1, 1) := by decide +kernel
theorem dJ9_min_7cf53_10 : decode cJ9_min_7cf53 10 = .ok (.ireturn, 1) := by decide +kernel
theorem dL_charges_0 : decode cL_charges 0 = .ok (.aload_n 0, 1) := by decide +kernel
theorem dL_charges_1 : decode cL_charges 1 = .ok (.iconst 1, 1) := by decide +kernel
theorem dL_charges_2 : decode cL_charges 2 = .ok (.iaload, 1) := by decide +kernel
theorem dL_charges_3 : decode cL_charges 3 = .ok (.iload_n 2, 1) := by decide +kernel
theorem dL_charges_4 : decode cL_charges 4 = .ok (.bipush 7, 2) := by decide +kernel
theorem dL_charges_6 : decode cL_charges 6 = .ok (.irem, 1) := by decide +kernel
theorem dL_charges_7 : decode cL_charges 7 = .ok (.ishr, 1) := by decide +kernel
theorem dL_charges_8 : decode cL_charges 8 = .ok (.iconst 1, 1) := by decide +kernel
theorem dL_charges_9 : decode cL_charges 9 = .ok (.iand, 1) := by decide +kernel
theorem dL_charges_10 : decode cL_charges 10 = .ok (.iconst 1, 1) := by decide +kernel
theorem dL_charges_11 : decode cL_charges 11 = .ok (.if_icmp .ne 7, 3) := by decide +kernel
theorem dL_charges_14 : decode cL_charges 14 = .ok (.iconst 1, 1) := by decide +kernel
theorem dL_charges_15 : decode cL_charges 15 = .ok (.goto 4, 3) := by decide +kernel
theorem dL_charges_18 : decode cL_charges 18 = .ok (.iconst 0, 1) := by decide +kernel
theorem dL_charges_19 : decode cL_charges 19 = .ok (.istore_n 3, 1) := by decide +kernel
theorem dL_charges_20 : decode cL_charges 20 = .ok (.iconst 0, 1) := by decide +kernel
theorem dL_charges_21 : decode cL_charges 21 = .ok (.istore 4, 2) := by decide +kernel
theorem dL_charges_23 : decode cL_charges 23 = .ok (.iload 4, 2) := by decide +kernel
theorem dL_charges_25 : decode cL_charges 25 = .ok (.aload_n 1, 1) := by decide +kernel
theorem dL_charges_26 : decode cL_charges 26 = .ok (.bipush 63, 2) := by decide +kernel
theorem dL_charges_28 : decode cL_charges 28 = .ok (.iaload, 1) := by decide +kernel
theorem dL_charges_29 : decode cL_charges 29 = .ok (.if_icmp .ge 27, 3) := by decide +kernel
theorem dL_charges_32 : decode cL_charges 32 = .ok (.iload_n 3, 1) := by decide +kernel
theorem dL_charges_33 : decode cL_charges 33 = .ok (.ifCond .eq 15, 3) := by decide +kernel
theorem dL_charges_36 : decode cL_charges 36 = .ok (.aload_n 1, 1) := by decide +kernel
theorem dL_charges_37 : decode cL_charges 37 = .ok (.iload 4, 2) := by decide +kernel
theorem dL_charges_39 : decode cL_charges 39 = .ok (.iaload, 1) := by decide +kernel
theorem dL_charges_40 : decode cL_charges 40 = .ok (.iload_n 2, 1) := by decide +kernel
theorem dL_charges_41 : decode cL_charges 41 = .ok (.if_icmp .eq 7, 3) := by decide +kernel
theorem dL_charges_44 : decode cL_charges 44 = .ok (.iconst 1, 1) := by decide +kernel
theorem dL_charges_45 : decode cL_charges 45 = .ok (.goto 4, 3) := by decide +kernel
theorem dL_charges_48 : decode cL_charges 48 = .ok (.iconst 0, 1) := by decide +kernel
theorem dL_charges_49 : decode cL_charges 49 = .ok (.istore_n 3, 1) := by decide +kernel
theorem dL_charges_50 : decode cL_charges 50 = .ok (.iinc 4 1, 3) := by decide +kernel
theorem dL_charges_53 : decode cL_charges 53 = .ok (.goto (-30), 3) := by decide +kernel
theorem dL_charges_56 : decode cL_charges 56 = .ok (.iload_n 3, 1) := by decide +kernel
theorem dL_charges_57 : decode cL_charges 57 = .ok (.ireturn, 1) := by decide +kernel
theorem dL_from_0 : decode cL_from 0 = .ok (.iload_n 2, 1) := by decide +kernel
theorem dL_from_1 : decode cL_from 1 = .ok (.istore_n 3, 1) := by decide +kernel
theorem dL_from_2 : decode cL_from 2 = .ok (.aload_n 0, 1) := by decide +kernel
theorem dL_from_3 : decode cL_from 3 = .ok (.aload_n 1, 1) := by decide +kernel
theorem dL_from_4 : decode cL_from 4 = .ok (.iload_n 3, 1) := by decide +kernel
theorem dL_from_5 : decode cL_from 5 = .ok (.invokestatic 7, 3) := by decide +kernel
theorem dL_from_8 : decode cL_from 8 = .ok (.ifCond .ne 9, 3) := by decide +kernel
theorem dL_from_11 : decode cL_from 11 = .ok (.iinc 3 1, 3) := by decide +kernel
theorem dL_from_14 : decode cL_from 14 = .ok (.goto (-12), 3) := by decide +kernel
theorem dL_from_17 : decode cL_from 17 = .ok (.iload_n 3, 1) := by decide +kernel
theorem dL_from_18 : decode cL_from 18 = .ok (.ireturn, 1) := by decide +kernel
theorem dL_enters_0 : decode cL_enters 0 = .ok (.aload_n 1, 1) := by decide +kernel
theorem dL_enters_1 : decode cL_enters 1 = .ok (.iload_n 3, 1) := by decide +kernel
theorem dL_enters_2 : decode cL_enters 2 = .ok (.iload 4, 2) := by decide +kernel
theorem dL_enters_4 : decode cL_enters 4 = .ok (.iastore, 1) := by decide +kernel
theorem dL_enters_5 : decode cL_enters 5 = .ok (.aload_n 2, 1) := by decide +kernel
theorem dL_enters_6 : decode cL_enters 6 = .ok (.aload_n 0, 1) := by decide +kernel
theorem dL_enters_7 : decode cL_enters 7 = .ok (.bipush 8, 2) := by decide +kernel
theorem dL_enters_9 : decode cL_enters 9 = .ok (.iaload, 1) := by decide +kernel
theorem dL_enters_10 : decode cL_enters 10 = .ok (.bipush 60, 2) := by decide +kernel
theorem dL_enters_12 : decode cL_enters 12 = .ok (.irem, 1) := by decide +kernel
theorem dL_enters_13 : decode cL_enters 13 = .ok (.aload_n 0, 1) := by decide +kernel
theorem dL_enters_14 : decode cL_enters 14 = .ok (.iconst 0, 1) := by decide +kernel
theorem dL_enters_15 : decode cL_enters 15 = .ok (.iaload, 1) := by decide +kernel
theorem dL_enters_16 : decode cL_enters 16 = .ok (.bipush 100, 2) := by decide +kernel
theorem dL_enters_18 : decode cL_enters 18 = .ok (.imul, 1) := by decide +kernel
theorem dL_enters_19 : decode cL_enters 19 = .ok (.iload_n 3, 1) := by decide +kernel
theorem dL_enters_20 : decode cL_enters 20 = .ok (.iadd, 1) := by decide +kernel
theorem dL_enters_21 : decode cL_enters 21 = .ok (.bipush 10, 2) := by decide +kernel
theorem dL_enters_23 : decode cL_enters 23 = .ok (.imul, 1) := by decide +kernel
theorem dL_enters_24 : decode cL_enters 24 = .ok (.iload 4, 2) := by decide +kernel
theorem dL_enters_26 : decode cL_enters 26 = .ok (.iadd, 1) := by decide +kernel
theorem dL_enters_27 : decode cL_enters 27 = .ok (.iastore, 1) := by decide +kernel
theorem dL_enters_28 : decode cL_enters 28 = .ok (.aload_n 0, 1) := by decide +kernel
theorem dL_enters_29 : decode cL_enters 29 = .ok (.bipush 8, 2) := by decide +kernel
theorem dL_enters_31 : decode cL_enters 31 = .ok (.dup2, 1) := by decide +kernel
theorem dL_enters_32 : decode cL_enters 32 = .ok (.iaload, 1) := by decide +kernel
theorem dL_enters_33 : decode cL_enters 33 = .ok (.iconst 1, 1) := by decide +kernel
theorem dL_enters_34 : decode cL_enters 34 = .ok (.iadd, 1) := by decide +kernel
theorem dL_enters_35 : decode cL_enters 35 = .ok (.iastore, 1) := by decide +kernel
theorem dL_enters_36 : decode cL_enters 36 = .ok (.return_, 1) := by decide +kernel
theorem dL_fails_0 : decode cL_fails 0 = .ok (.aload 5, 2) := by decide +kernel
theorem dL_fails_2 : decode cL_fails 2 = .ok (.iconst 5, 1) := by decide +kernel
theorem dL_fails_3 : decode cL_fails 3 = .ok (.iload 7, 2) := by decide +kernel
theorem dL_fails_5 : decode cL_fails 5 = .ok (.imul, 1) := by decide +kernel
theorem dL_fails_6 : decode cL_fails 6 = .ok (.iload 8, 2) := by decide +kernel
theorem dL_fails_8 : decode cL_fails 8 = .ok (.iadd, 1) := by decide +kernel
theorem dL_fails_9 : decode cL_fails 9 = .ok (.iaload, 1) := by decide +kernel
theorem dL_fails_10 : decode cL_fails 10 = .ok (.istore 9, 2) := by decide +kernel
theorem dL_fails_12 : decode cL_fails 12 = .ok (.aload 5, 2) := by decide +kernel
theorem dL_fails_14 : decode cL_fails 14 = .ok (.iconst 5, 1) := by decide +kernel
theorem dL_fails_15 : decode cL_fails 15 = .ok (.iload 7, 2) := by decide +kernel
theorem dL_fails_17 : decode cL_fails 17 = .ok (.imul, 1) := by decide +kernel
theorem dL_fails_18 : decode cL_fails 18 = .ok (.iload 8, 2) := by decide +kernel
theorem dL_fails_20 : decode cL_fails 20 = .ok (.iadd, 1) := by decide +kernel
theorem dL_fails_21 : decode cL_fails 21 = .ok (.dup2, 1) := by decide +kernel
theorem dL_fails_22 : decode cL_fails 22 = .ok (.iaload, 1) := by decide +kernel
theorem dL_fails_23 : decode cL_fails 23 = .ok (.iconst 1, 1) := by decide +kernel
theorem dL_fails_24 : decode cL_fails 24 = .ok (.iadd, 1) := by decide +kernel
theorem dL_fails_25 : decode cL_fails 25 = .ok (.iastore, 1) := by decide +kernel
theorem dL_fails_26 : decode cL_fails 26 = .ok (.iload 9, 2) := by decide +kernel
theorem dL_fails_28 : decode cL_fails 28 = .ok (.aload_n 3, 1) := by decide +kernel
theorem dL_fails_29 : decode cL_fails 29 = .ok (.iload 8, 2) := by decide +kernel
theorem dL_fails_31 : decode cL_fails 31 = .ok (.iaload, 1) := by decide +kernel
theorem dL_fails_32 : decode cL_fails 32 = .ok (.if_icmp .ge 7, 3) := by decide +kernel
theorem dL_fails_35 : decode cL_fails 35 = .ok (.iconst 1, 1) := by decide +kernel
theorem dL_fails_36 : decode cL_fails 36 = .ok (.goto 4, 3) := by decide +kernel
theorem dL_fails_39 : decode cL_fails 39 = .ok (.iconst 0, 1) := by decide +kernel
theorem dL_fails_40 : decode cL_fails 40 = .ok (.istore 10, 2) := by decide +kernel
theorem dL_fails_42 : decode cL_fails 42 = .ok (.aload 4, 2) := by decide +kernel
theorem dL_fails_44 : decode cL_fails 44 = .ok (.bipush 12, 2) := by decide +kernel
theorem dL_fails_46 : decode cL_fails 46 = .ok (.iload 7, 2) := by decide +kernel
theorem dL_fails_48 : decode cL_fails 48 = .ok (.iadd, 1) := by decide +kernel
theorem dL_fails_49 : decode cL_fails 49 = .ok (.iload 10, 2) := by decide +kernel
theorem dL_fails_51 : decode cL_fails 51 = .ok (.ifCond .eq 25, 3) := by decide +kernel
theorem dL_fails_54 : decode cL_fails 54 = .ok (.aload_n 0, 1) := by decide +kernel
theorem dL_fails_55 : decode cL_fails 55 = .ok (.aload_n 1, 1) := by decide +kernel
theorem dL_fails_56 : decode cL_fails 56 = .ok (.aload_n 0, 1) := by decide +kernel
theorem dL_fails_57 : decode cL_fails 57 = .ok (.iconst 0, 1) := by decide +kernel
theorem dL_fails_58 : decode cL_fails 58 = .ok (.iaload, 1) := by decide +kernel
theorem dL_fails_59 : decode cL_fails 59 = .ok (.aload_n 2, 1) := by decide +kernel
theorem dL_fails_60 : decode cL_fails 60 = .ok (.bipush 6, 2) := by decide +kernel
theorem dL_fails_62 : decode cL_fails 62 = .ok (.iload 8, 2) := by decide +kernel
theorem dL_fails_64 : decode cL_fails 64 = .ok (.imul, 1) := by decide +kernel
theorem dL_fails_65 : decode cL_fails 65 = .ok (.iload 9, 2) := by decide +kernel
theorem dL_fails_67 : decode cL_fails 67 = .ok (.iadd, 1) := by decide +kernel
theorem dL_fails_68 : decode cL_fails 68 = .ok (.iaload, 1) := by decide +kernel
theorem dL_fails_69 : decode cL_fails 69 = .ok (.iadd, 1) := by decide +kernel
theorem dL_fails_70 : decode cL_fails 70 = .ok (.invokestatic 13, 3) := by decide +kernel
theorem dL_fails_73 : decode cL_fails 73 = .ok (.goto 10, 3) := by decide +kernel
theorem dL_fails_76 : decode cL_fails 76 = .ok (.aload_n 0, 1) := by decide +kernel
theorem dL_fails_77 : decode cL_fails 77 = .ok (.iconst 0, 1) := by decide +kernel
theorem dL_fails_78 : decode cL_fails 78 = .ok (.iaload, 1) := by decide +kernel
theorem dL_fails_79 : decode cL_fails 79 = .ok (.aload_n 0, 1) := by decide +kernel
theorem dL_fails_80 : decode cL_fails 80 = .ok (.iconst 3, 1) := by decide +kernel
theorem dL_fails_81 : decode cL_fails 81 = .ok (.iaload, 1) := by decide +kernel
theorem dL_fails_82 : decode cL_fails 82 = .ok (.iadd, 1) := by decide +kernel
theorem dL_fails_83 : decode cL_fails 83 = .ok (.iastore, 1) := by decide +kernel
theorem dL_fails_84 : decode cL_fails 84 = .ok (.aload_n 0, 1) := by decide +kernel
theorem dL_fails_85 : decode cL_fails 85 = .ok (.aload 4, 2) := by decide +kernel
theorem dL_fails_87 : decode cL_fails 87 = .ok (.aload 6, 2) := by decide +kernel
theorem dL_fails_89 : decode cL_fails 89 = .ok (.iload 7, 2) := by decide +kernel
theorem dL_fails_91 : decode cL_fails 91 = .ok (.iload 10, 2) := by decide +kernel
theorem dL_fails_93 : decode cL_fails 93 = .ok (.ifCond .eq 7, 3) := by decide +kernel
theorem dL_fails_96 : decode cL_fails 96 = .ok (.iconst 0, 1) := by decide +kernel
theorem dL_fails_97 : decode cL_fails 97 = .ok (.goto 4, 3) := by decide +kernel
theorem dL_fails_100 : decode cL_fails 100 = .ok (.iconst 2, 1) := by decide +kernel
theorem dL_fails_101 : decode cL_fails 101 = .ok (.invokestatic 17, 3) := by decide +kernel
theorem dL_fails_104 : decode cL_fails 104 = .ok (.return_, 1) := by decide +kernel
theorem dL_passes_0 : decode cL_passes 0 = .ok (.iconst 0, 1) := by decide +kernel
theorem dL_passes_1 : decode cL_passes 1 = .ok (.istore 9, 2) := by decide +kernel
theorem dL_passes_3 : decode cL_passes 3 = .ok (.iconst 0, 1) := by decide +kernel
theorem dL_passes_4 : decode cL_passes 4 = .ok (.istore 10, 2) := by decide +kernel
theorem dL_passes_6 : decode cL_passes 6 = .ok (.iload 10, 2) := by decide +kernel
theorem dL_passes_8 : decode cL_passes 8 = .ok (.aload_n 0, 1) := by decide +kernel
theorem dL_passes_9 : decode cL_passes 9 = .ok (.iconst 2, 1) := by decide +kernel
theorem dL_passes_10 : decode cL_passes 10 = .ok (.iaload, 1) := by decide +kernel
theorem dL_passes_11 : decode cL_passes 11 = .ok (.if_icmp .ge 34, 3) := by decide +kernel
theorem dL_passes_14 : decode cL_passes 14 = .ok (.aload 5, 2) := by decide +kernel
theorem dL_passes_16 : decode cL_passes 16 = .ok (.iload 10, 2) := by decide +kernel
theorem dL_passes_18 : decode cL_passes 18 = .ok (.iaload, 1) := by decide +kernel
theorem dL_passes_19 : decode cL_passes 19 = .ok (.iconst 1, 1) := by decide +kernel
theorem dL_passes_20 : decode cL_passes 20 = .ok (.if_icmp .ne 19, 3) := by decide +kernel
theorem dL_passes_23 : decode cL_passes 23 = .ok (.aload_n 0, 1) := by decide +kernel
theorem dL_passes_24 : decode cL_passes 24 = .ok (.aload_n 1, 1) := by decide +kernel
theorem dL_passes_25 : decode cL_passes 25 = .ok (.aload_n 2, 1) := by decide +kernel
theorem dL_passes_26 : decode cL_passes 26 = .ok (.aload_n 3, 1) := by decide +kernel
theorem dL_passes_27 : decode cL_passes 27 = .ok (.aload 5, 2) := by decide +kernel
theorem dL_passes_29 : decode cL_passes 29 = .ok (.aload 6, 2) := by decide +kernel
theorem dL_passes_31 : decode cL_passes 31 = .ok (.aload 8, 2) := by decide +kernel
theorem dL_passes_33 : decode cL_passes 33 = .ok (.iload 10, 2) := by decide +kernel
theorem dL_passes_35 : decode cL_passes 35 = .ok (.iconst 4, 1) := by decide +kernel
theorem dL_passes_36 : decode cL_passes 36 = .ok (.invokestatic 21, 3) := by decide +kernel
theorem dL_passes_39 : decode cL_passes 39 = .ok (.iinc 10 1, 3) := by decide +kernel
theorem dL_passes_42 : decode cL_passes 42 = .ok (.goto (-36), 3) := by decide +kernel
theorem dL_passes_45 : decode cL_passes 45 = .ok (.aload_n 0, 1) := by decide +kernel
theorem dL_passes_46 : decode cL_passes 46 = .ok (.iconst 0, 1) := by decide +kernel
theorem dL_passes_47 : decode cL_passes 47 = .ok (.dup2, 1) := by decide +kernel
theorem dL_passes_48 : decode cL_passes 48 = .ok (.iaload, 1) := by decide +kernel
theorem dL_passes_49 : decode cL_passes 49 = .ok (.iconst 1, 1) := by decide +kernel
theorem dL_passes_50 : decode cL_passes 50 = .ok (.iadd, 1) := by decide +kernel
theorem dL_passes_51 : decode cL_passes 51 = .ok (.iastore, 1) := by decide +kernel
theorem dL_passes_52 : decode cL_passes 52 = .ok (.iconst 0, 1) := by decide +kernel
theorem dL_passes_53 : decode cL_passes 53 = .ok (.istore 10, 2) := by decide +kernel
theorem dL_passes_55 : decode cL_passes 55 = .ok (.iload 10, 2) := by decide +kernel
theorem dL_passes_57 : decode cL_passes 57 = .ok (.aload_n 0, 1) := by decide +kernel
theorem dL_passes_58 : decode cL_passes 58 = .ok (.iconst 2, 1) := by decide +kernel
theorem dL_passes_59 : decode cL_passes 59 = .ok (.iaload, 1) := by decide +kernel
theorem dL_passes_60 : decode cL_passes 60 = .ok (.if_icmp .ge 280, 3) := by decide +kernel
theorem dL_passes_63 : decode cL_passes 63 = .ok (.aload 5, 2) := by decide +kernel
theorem dL_passes_65 : decode cL_passes 65 = .ok (.bipush 12, 2) := by decide +kernel
theorem dL_passes_67 : decode cL_passes 67 = .ok (.iload 10, 2) := by decide +kernel
theorem dL_passes_69 : decode cL_passes 69 = .ok (.iadd, 1) := by decide +kernel
theorem dL_passes_70 : decode cL_passes 70 = .ok (.iaload, 1) := by decide +kernel
theorem dL_passes_71 : decode cL_passes 71 = .ok (.aload_n 0, 1) := by decide +kernel
theorem dL_passes_72 : decode cL_passes 72 = .ok (.iconst 0, 1) := by decide +kernel
theorem dL_passes_73 : decode cL_passes 73 = .ok (.iaload, 1) := by decide +kernel
theorem dL_passes_74 : decode cL_passes 74 = .ok (.if_icmp .ne 7, 3) := by decide +kernel
theorem dL_passes_77 : decode cL_passes 77 = .ok (.iconst 1, 1) := by decide +kernel
theorem dL_passes_78 : decode cL_passes 78 = .ok (.goto 4, 3) := by decide +kernel
theorem dL_passes_81 : decode cL_passes 81 = .ok (.iconst 0, 1) := by decide +kernel
theorem dL_passes_82 : decode cL_passes 82 = .ok (.istore 11, 2) := by decide +kernel
theorem dL_passes_84 : decode cL_passes 84 = .ok (.aload 5, 2) := by decide +kernel
theorem dL_passes_86 : decode cL_passes 86 = .ok (.iload 10, 2) := by decide +kernel
theorem dL_passes_88 : decode cL_passes 88 = .ok (.iaload, 1) := by decide +kernel
theorem dL_passes_89 : decode cL_passes 89 = .ok (.ifCond .ne 78, 3) := by decide +kernel
theorem dL_passes_92 : decode cL_passes 92 = .ok (.aload 5, 2) := by decide +kernel
theorem dL_passes_94 : decode cL_passes 94 = .ok (.bipush 12, 2) := by decide +kernel
theorem dL_passes_96 : decode cL_passes 96 = .ok (.iload 10, 2) := by decide +kernel
theorem dL_passes_98 : decode cL_passes 98 = .ok (.iadd, 1) := by decide +kernel
theorem dL_passes_99 : decode cL_passes 99 = .ok (.iaload, 1) := by decide +kernel
theorem dL_passes_100 : decode cL_passes 100 = .ok (.aload_n 0, 1) := by decide +kernel
theorem dL_passes_101 : decode cL_passes 101 = .ok (.iconst 0, 1) := by decide +kernel
theorem dL_passes_102 : decode cL_passes 102 = .ok (.iaload, 1) := by decide +kernel
theorem dL_passes_103 : decode cL_passes 103 = .ok (.if_icmp .gt 64, 3) := by decide +kernel
theorem dL_passes_106 : decode cL_passes 106 = .ok (.aload_n 0, 1) := by decide +kernel
theorem dL_passes_107 : decode cL_passes 107 = .ok (.aload_n 1, 1) := by decide +kernel
theorem dL_passes_108 : decode cL_passes 108 = .ok (.aload_n 0, 1) := by decide +kernel
theorem dL_passes_109 : decode cL_passes 109 = .ok (.iconst 0, 1) := by decide +kernel
theorem dL_passes_110 : decode cL_passes 110 = .ok (.iaload, 1) := by decide +kernel
theorem dL_passes_111 : decode cL_passes 111 = .ok (.invokestatic 7, 3) := by decide +kernel
theorem dL_passes_114 : decode cL_passes 114 = .ok (.ifCond .eq 32, 3) := by decide +kernel
theorem dL_passes_117 : decode cL_passes 117 = .ok (.aload 5, 2) := by decide +kernel
theorem dL_passes_119 : decode cL_passes 119 = .ok (.bipush 24, 2) := by decide +kernel
theorem dL_passes_121 : decode cL_passes 121 = .ok (.iload 10, 2) := by decide +kernel
theorem dL_passes_123 : decode cL_passes 123 = .ok (.iadd, 1) := by decide +kernel
theorem dL_passes_124 : decode cL_passes 124 = .ok (.dup2, 1) := by decide +kernel
theorem dL_passes_125 : decode cL_passes 125 = .ok (.iaload, 1) := by decide +kernel
theorem dL_passes_126 : decode cL_passes 126 = .ok (.iconst 1, 1) := by decide +kernel
theorem dL_passes_127 : decode cL_passes 127 = .ok (.iadd, 1) := by decide +kernel
theorem dL_passes_128 : decode cL_passes 128 = .ok (.iastore, 1) := by decide +kernel
theorem dL_passes_129 : decode cL_passes 129 = .ok (.iinc 9 1, 3) := by decide +kernel
theorem dL_passes_132 : decode cL_passes 132 = .ok (.aload_n 0, 1) := by decide +kernel
theorem dL_passes_133 : decode cL_passes 133 = .ok (.aload 5, 2) := by decide +kernel
theorem dL_passes_135 : decode cL_passes 135 = .ok (.aload 8, 2) := by decide +kernel
theorem dL_passes_137 : decode cL_passes 137 = .ok (.iload 10, 2) := by decide +kernel
theorem dL_passes_139 : decode cL_passes 139 = .ok (.iconst 1, 1) := by decide +kernel
theorem dL_passes_140 : decode cL_passes 140 = .ok (.invokestatic 17, 3) := by decide +kernel
theorem dL_passes_143 : decode cL_passes 143 = .ok (.goto 191, 3) := by decide +kernel
theorem dL_passes_146 : decode cL_passes 146 = .ok (.aload 5, 2) := by decide +kernel
theorem dL_passes_148 : decode cL_passes 148 = .ok (.bipush 12, 2) := by decide +kernel
theorem dL_passes_150 : decode cL_passes 150 = .ok (.iload 10, 2) := by decide +kernel
theorem dL_passes_152 : decode cL_passes 152 = .ok (.iadd, 1) := by decide +kernel
theorem dL_passes_153 : decode cL_passes 153 = .ok (.aload_n 0, 1) := by decide +kernel
theorem dL_passes_154 : decode cL_passes 154 = .ok (.aload_n 1, 1) := by decide +kernel
theorem dL_passes_155 : decode cL_passes 155 = .ok (.aload_n 0, 1) := by decide +kernel
theorem dL_passes_156 : decode cL_passes 156 = .ok (.iconst 0, 1) := by decide +kernel
theorem dL_passes_157 : decode cL_passes 157 = .ok (.iaload, 1) := by decide +kernel
theorem dL_passes_158 : decode cL_passes 158 = .ok (.iconst 1, 1) := by decide +kernel
theorem dL_passes_159 : decode cL_passes 159 = .ok (.iadd, 1) := by decide +kernel
theorem dL_passes_160 : decode cL_passes 160 = .ok (.invokestatic 13, 3) := by decide +kernel
theorem dL_passes_163 : decode cL_passes 163 = .ok (.iastore, 1) := by decide +kernel
theorem dL_passes_164 : decode cL_passes 164 = .ok (.goto 170, 3) := by decide +kernel
theorem dL_passes_167 : decode cL_passes 167 = .ok (.aload 5, 2) := by decide +kernel
theorem dL_passes_169 : decode cL_passes 169 = .ok (.iload 10, 2) := by decide +kernel
theorem dL_passes_171 : decode cL_passes 171 = .ok (.iaload, 1) := by decide +kernel
theorem dL_passes_172 : decode cL_passes 172 = .ok (.iconst 2, 1) := by decide +kernel
theorem dL_passes_173 : decode cL_passes 173 = .ok (.if_icmp .ne 36, 3) := by decide +kernel
theorem dL_passes_176 : decode cL_passes 176 = .ok (.iload 11, 2) := by decide +kernel
theorem dL_passes_178 : decode cL_passes 178 = .ok (.ifCond .eq 31, 3) := by decide +kernel
theorem dL_passes_181 : decode cL_passes 181 = .ok (.aload 5, 2) := by decide +kernel
theorem dL_passes_183 : decode cL_passes 183 = .ok (.bipush 12, 2) := by decide +kernel
theorem dL_passes_185 : decode cL_passes 185 = .ok (.iload 10, 2) := by decide +kernel
theorem dL_passes_187 : decode cL_passes 187 = .ok (.iadd, 1) := by decide +kernel
theorem dL_passes_188 : decode cL_passes 188 = .ok (.dup2, 1) := by decide +kernel
theorem dL_passes_189 : decode cL_passes 189 = .ok (.iaload, 1) := by decide +kernel
theorem dL_passes_190 : decode cL_passes 190 = .ok (.aload_n 0, 1) := by decide +kernel
theorem dL_passes_191 : decode cL_passes 191 = .ok (.iconst 4, 1) := by decide +kernel
theorem dL_passes_192 : decode cL_passes 192 = .ok (.iaload, 1) := by decide +kernel
theorem dL_passes_193 : decode cL_passes 193 = .ok (.iadd, 1) := by decide +kernel
theorem dL_passes_194 : decode cL_passes 194 = .ok (.iastore, 1) := by decide +kernel
theorem dL_passes_195 : decode cL_passes 195 = .ok (.aload_n 0, 1) := by decide +kernel
theorem dL_passes_196 : decode cL_passes 196 = .ok (.aload 5, 2) := by decide +kernel
theorem dL_passes_198 : decode cL_passes 198 = .ok (.aload 8, 2) := by decide +kernel
theorem dL_passes_200 : decode cL_passes 200 = .ok (.iload 10, 2) := by decide +kernel
theorem dL_passes_202 : decode cL_passes 202 = .ok (.iconst 3, 1) := by decide +kernel
theorem dL_passes_203 : decode cL_passes 203 = .ok (.invokestatic 17, 3) := by decide +kernel
theorem dL_passes_206 : decode cL_passes 206 = .ok (.goto 128, 3) := by decide +kernel
theorem dL_passes_209 : decode cL_passes 209 = .ok (.aload 5, 2) := by decide +kernel
theorem dL_passes_211 : decode cL_passes 211 = .ok (.iload 10, 2) := by decide +kernel
theorem dL_passes_213 : decode cL_passes 213 = .ok (.iaload, 1) := by decide +kernel
theorem dL_passes_214 : decode cL_passes 214 = .ok (.iconst 3, 1) := by decide +kernel
theorem dL_passes_215 : decode cL_passes 215 = .ok (.if_icmp .ne 37, 3) := by decide +kernel
theorem dL_passes_218 : decode cL_passes 218 = .ok (.iload 11, 2) := by decide +kernel
theorem dL_passes_220 : decode cL_passes 220 = .ok (.ifCond .eq 32, 3) := by decide +kernel
theorem dL_passes_223 : decode cL_passes 223 = .ok (.aload_n 0, 1) := by decide +kernel
theorem dL_passes_224 : decode cL_passes 224 = .ok (.bipush 6, 2) := by decide +kernel
theorem dL_passes_226 : decode cL_passes 226 = .ok (.dup2, 1) := by decide +kernel
theorem dL_passes_227 : decode cL_passes 227 = .ok (.iaload, 1) := by decide +kernel
theorem dL_passes_228 : decode cL_passes 228 = .ok (.aload 4, 2) := by decide +kernel
theorem dL_passes_230 : decode cL_passes 230 = .ok (.bipush 24, 2) := by decide +kernel
theorem dL_passes_232 : decode cL_passes 232 = .ok (.iload 10, 2) := by decide +kernel
theorem dL_passes_234 : decode cL_passes 234 = .ok (.iadd, 1) := by decide +kernel
theorem dL_passes_235 : decode cL_passes 235 = .ok (.iaload, 1) := by decide +kernel
theorem dL_passes_236 : decode cL_passes 236 = .ok (.iadd, 1) := by decide +kernel
theorem dL_passes_237 : decode cL_passes 237 = .ok (.iastore, 1) := by decide +kernel
theorem dL_passes_238 : decode cL_passes 238 = .ok (.aload_n 0, 1) := by decide +kernel
theorem dL_passes_239 : decode cL_passes 239 = .ok (.aload 5, 2) := by decide +kernel
theorem dL_passes_241 : decode cL_passes 241 = .ok (.aload 8, 2) := by decide +kernel
theorem dL_passes_243 : decode cL_passes 243 = .ok (.iload 10, 2) := by decide +kernel
theorem dL_passes_245 : decode cL_passes 245 = .ok (.iconst 5, 1) := by decide +kernel
theorem dL_passes_246 : decode cL_passes 246 = .ok (.invokestatic 17, 3) := by decide +kernel
theorem dL_passes_249 : decode cL_passes 249 = .ok (.goto 85, 3) := by decide +kernel
theorem dL_passes_252 : decode cL_passes 252 = .ok (.aload 5, 2) := by decide +kernel
theorem dL_passes_254 : decode cL_passes 254 = .ok (.iload 10, 2) := by decide +kernel
theorem dL_passes_256 : decode cL_passes 256 = .ok (.iaload, 1) := by decide +kernel
theorem dL_passes_257 : decode cL_passes 257 = .ok (.iconst 4, 1) := by decide +kernel
theorem dL_passes_258 : decode cL_passes 258 = .ok (.if_icmp .ne 76, 3) := by decide +kernel
theorem dL_passes_261 : decode cL_passes 261 = .ok (.iload 11, 2) := by decide +kernel
theorem dL_passes_263 : decode cL_passes 263 = .ok (.ifCond .eq 71, 3) := by decide +kernel
theorem dL_passes_266 : decode cL_passes 266 = .ok (.aload 7, 2) := by decide +kernel
theorem dL_passes_268 : decode cL_passes 268 = .ok (.bipush 24, 2) := by decide +kernel
theorem dL_passes_270 : decode cL_passes 270 = .ok (.iload 10, 2) := by decide +kernel
theorem dL_passes_272 : decode cL_passes 272 = .ok (.iadd, 1) := by decide +kernel
theorem dL_passes_273 : decode cL_passes 273 = .ok (.dup2, 1) := by decide +kernel
theorem dL_passes_274 : decode cL_passes 274 = .ok (.iaload, 1) := by decide +kernel
theorem dL_passes_275 : decode cL_passes 275 = .ok (.iconst 1, 1) := by decide +kernel
theorem dL_passes_276 : decode cL_passes 276 = .ok (.iadd, 1) := by decide +kernel
theorem dL_passes_277 : decode cL_passes 277 = .ok (.iastore, 1) := by decide +kernel
theorem dL_passes_278 : decode cL_passes 278 = .ok (.aload 5, 2) := by decide +kernel
theorem dL_passes_280 : decode cL_passes 280 = .ok (.bipush 12, 2) := by decide +kernel
theorem dL_passes_282 : decode cL_passes 282 = .ok (.iload 10, 2) := by decide +kernel
theorem dL_passes_284 : decode cL_passes 284 = .ok (.iadd, 1) := by decide +kernel
theorem dL_passes_285 : decode cL_passes 285 = .ok (.aload 7, 2) := by decide +kernel
theorem dL_passes_287 : decode cL_passes 287 = .ok (.iload 10, 2) := by decide +kernel
theorem dL_passes_289 : decode cL_passes 289 = .ok (.iaload, 1) := by decide +kernel
theorem dL_passes_290 : decode cL_passes 290 = .ok (.ifCond .ne 16, 3) := by decide +kernel
theorem dL_passes_293 : decode cL_passes 293 = .ok (.aload_n 0, 1) := by decide +kernel
theorem dL_passes_294 : decode cL_passes 294 = .ok (.aload_n 1, 1) := by decide +kernel
theorem dL_passes_295 : decode cL_passes 295 = .ok (.aload_n 0, 1) := by decide +kernel
theorem dL_passes_296 : decode cL_passes 296 = .ok (.iconst 0, 1) := by decide +kernel
theorem dL_passes_297 : decode cL_passes 297 = .ok (.iaload, 1) := by decide +kernel
theorem dL_passes_298 : decode cL_passes 298 = .ok (.iconst 1, 1) := by decide +kernel
theorem dL_passes_299 : decode cL_passes 299 = .ok (.iadd, 1) := by decide +kernel
theorem dL_passes_300 : decode cL_passes 300 = .ok (.invokestatic 13, 3) := by decide +kernel
theorem dL_passes_303 : decode cL_passes 303 = .ok (.goto 15, 3) := by decide +kernel
theorem dL_passes_306 : decode cL_passes 306 = .ok (.aload_n 0, 1) := by decide +kernel
theorem dL_passes_307 : decode cL_passes 307 = .ok (.iconst 0, 1) := by decide +kernel
theorem dL_passes_308 : decode cL_passes 308 = .ok (.iaload, 1) := by decide +kernel
theorem dL_passes_309 : decode cL_passes 309 = .ok (.aload 7, 2) := by decide +kernel
theorem dL_passes_311 : decode cL_passes 311 = .ok (.bipush 12, 2) := by decide +kernel
theorem dL_passes_313 : decode cL_passes 313 = .ok (.iload 10, 2) := by decide +kernel
theorem dL_passes_315 : decode cL_passes 315 = .ok (.iadd, 1) := by decide +kernel
theorem dL_passes_316 : decode cL_passes 316 = .ok (.iaload, 1) := by decide +kernel
theorem dL_passes_317 : decode cL_passes 317 = .ok (.iadd, 1) := by decide +kernel
theorem dL_passes_318 : decode cL_passes 318 = .ok (.iastore, 1) := by decide +kernel
theorem dL_passes_319 : decode cL_passes 319 = .ok (.aload_n 0, 1) := by decide +kernel
theorem dL_passes_320 : decode cL_passes 320 = .ok (.aload 5, 2) := by decide +kernel
theorem dL_passes_322 : decode cL_passes 322 = .ok (.aload 8, 2) := by decide +kernel
theorem dL_passes_324 : decode cL_passes 324 = .ok (.iload 10, 2) := by decide +kernel
theorem dL_passes_326 : decode cL_passes 326 = .ok (.aload 7, 2) := by decide +kernel
theorem dL_passes_328 : decode cL_passes 328 = .ok (.iload 10, 2) := by decide +kernel
theorem dL_passes_330 : decode cL_passes 330 = .ok (.iaload, 1) := by decide +kernel
theorem dL_passes_331 : decode cL_passes 331 = .ok (.invokestatic 17, 3) := by decide +kernel
theorem dL_passes_334 : decode cL_passes 334 = .ok (.iinc 10 1, 3) := by decide +kernel
theorem dL_passes_337 : decode cL_passes 337 = .ok (.goto (-282), 3) := by decide +kernel
theorem dL_passes_340 : decode cL_passes 340 = .ok (.iload 9, 2) := by decide +kernel
theorem dL_passes_342 : decode cL_passes 342 = .ok (.ireturn, 1) := by decide +kernel
theorem dL_pays_0 : decode cL_pays 0 = .ok (.aload_n 2, 1) := by decide +kernel
theorem dL_pays_1 : decode cL_pays 1 = .ok (.iload 4, 2) := by decide +kernel
theorem dL_pays_3 : decode cL_pays 3 = .ok (.iaload, 1) := by decide +kernel
theorem dL_pays_4 : decode cL_pays 4 = .ok (.iconst 1, 1) := by decide +kernel
theorem dL_pays_5 : decode cL_pays 5 = .ok (.if_icmp .eq 24, 3) := by decide +kernel
theorem dL_pays_8 : decode cL_pays 8 = .ok (.aload_n 2, 1) := by decide +kernel
theorem dL_pays_9 : decode cL_pays 9 = .ok (.iload 4, 2) := by decide +kernel
theorem dL_pays_11 : decode cL_pays 11 = .ok (.iaload, 1) := by decide +kernel
theorem dL_pays_12 : decode cL_pays 12 = .ok (.bipush 6, 2) := by decide +kernel
theorem dL_pays_14 : decode cL_pays 14 = .ok (.if_icmp .eq 15, 3) := by decide +kernel
theorem dL_pays_17 : decode cL_pays 17 = .ok (.iload 5, 2) := by decide +kernel
theorem dL_pays_19 : decode cL_pays 19 = .ok (.aload_n 1, 1) := by decide +kernel
theorem dL_pays_20 : decode cL_pays 20 = .ok (.bipush 24, 2) := by decide +kernel
theorem dL_pays_22 : decode cL_pays 22 = .ok (.iload 4, 2) := by decide +kernel
theorem dL_pays_24 : decode cL_pays 24 = .ok (.iadd, 1) := by decide +kernel
theorem dL_pays_25 : decode cL_pays 25 = .ok (.iaload, 1) := by decide +kernel
theorem dL_pays_26 : decode cL_pays 26 = .ok (.if_icmp .le 6, 3) := by decide +kernel
theorem dL_pays_29 : decode cL_pays 29 = .ok (.bipush (-13), 2) := by decide +kernel
theorem dL_pays_31 : decode cL_pays 31 = .ok (.ireturn, 1) := by decide +kernel
theorem dL_pays_32 : decode cL_pays 32 = .ok (.aload_n 0, 1) := by decide +kernel
theorem dL_pays_33 : decode cL_pays 33 = .ok (.bipush 7, 2) := by decide +kernel
theorem dL_pays_35 : decode cL_pays 35 = .ok (.dup2, 1) := by decide +kernel
theorem dL_pays_36 : decode cL_pays 36 = .ok (.iaload, 1) := by decide +kernel
theorem dL_pays_37 : decode cL_pays 37 = .ok (.aload_n 2, 1) := by decide +kernel
theorem dL_pays_38 : decode cL_pays 38 = .ok (.iload 4, 2) := by decide +kernel
theorem dL_pays_40 : decode cL_pays 40 = .ok (.iaload, 1) := by decide +kernel
theorem dL_pays_41 : decode cL_pays 41 = .ok (.iconst 5, 1) := by decide +kernel
theorem dL_pays_42 : decode cL_pays 42 = .ok (.if_icmp .ne 8, 3) := by decide +kernel
theorem dL_pays_45 : decode cL_pays 45 = .ok (.iload 5, 2) := by decide +kernel
theorem dL_pays_47 : decode cL_pays 47 = .ok (.goto 4, 3) := by decide +kernel
theorem dL_pays_50 : decode cL_pays 50 = .ok (.iconst 0, 1) := by decide +kernel
theorem dL_pays_51 : decode cL_pays 51 = .ok (.iadd, 1) := by decide +kernel
theorem dL_pays_52 : decode cL_pays 52 = .ok (.iastore, 1) := by decide +kernel
theorem dL_pays_53 : decode cL_pays 53 = .ok (.aload_n 0, 1) := by decide +kernel
theorem dL_pays_54 : decode cL_pays 54 = .ok (.iconst 5, 1) := by decide +kernel
theorem dL_pays_55 : decode cL_pays 55 = .ok (.dup2, 1) := by decide +kernel
theorem dL_pays_56 : decode cL_pays 56 = .ok (.iaload, 1) := by decide +kernel
theorem dL_pays_57 : decode cL_pays 57 = .ok (.iload 5, 2) := by decide +kernel
theorem dL_pays_59 : decode cL_pays 59 = .ok (.iadd, 1) := by decide +kernel
theorem dL_pays_60 : decode cL_pays 60 = .ok (.iastore, 1) := by decide +kernel
theorem dL_pays_61 : decode cL_pays 61 = .ok (.aload_n 1, 1) := by decide +kernel
theorem dL_pays_62 : decode cL_pays 62 = .ok (.bipush 24, 2) := by decide +kernel
theorem dL_pays_64 : decode cL_pays 64 = .ok (.iload 4, 2) := by decide +kernel
theorem dL_pays_66 : decode cL_pays 66 = .ok (.iadd, 1) := by decide +kernel
theorem dL_pays_67 : decode cL_pays 67 = .ok (.dup2, 1) := by decide +kernel
theorem dL_pays_68 : decode cL_pays 68 = .ok (.iaload, 1) := by decide +kernel
theorem dL_pays_69 : decode cL_pays 69 = .ok (.iload 5, 2) := by decide +kernel
theorem dL_pays_71 : decode cL_pays 71 = .ok (.isub, 1) := by decide +kernel
theorem dL_pays_72 : decode cL_pays 72 = .ok (.iastore, 1) := by decide +kernel
theorem dL_pays_73 : decode cL_pays 73 = .ok (.aload_n 1, 1) := by decide +kernel
theorem dL_pays_74 : decode cL_pays 74 = .ok (.bipush 24, 2) := by decide +kernel
theorem dL_pays_76 : decode cL_pays 76 = .ok (.iload 4, 2) := by decide +kernel
theorem dL_pays_78 : decode cL_pays 78 = .ok (.iadd, 1) := by decide +kernel
theorem dL_pays_79 : decode cL_pays 79 = .ok (.iaload, 1) := by decide +kernel
theorem dL_pays_80 : decode cL_pays 80 = .ok (.ifCond .ne 13, 3) := by decide +kernel
theorem dL_pays_83 : decode cL_pays 83 = .ok (.aload_n 0, 1) := by decide +kernel
theorem dL_pays_84 : decode cL_pays 84 = .ok (.aload_n 2, 1) := by decide +kernel
theorem dL_pays_85 : decode cL_pays 85 = .ok (.aload_n 3, 1) := by decide +kernel
theorem dL_pays_86 : decode cL_pays 86 = .ok (.iload 4, 2) := by decide +kernel
theorem dL_pays_88 : decode cL_pays 88 = .ok (.bipush 6, 2) := by decide +kernel
theorem dL_pays_90 : decode cL_pays 90 = .ok (.invokestatic 17, 3) := by decide +kernel
theorem dL_pays_93 : decode cL_pays 93 = .ok (.aload_n 1, 1) := by decide +kernel
theorem dL_pays_94 : decode cL_pays 94 = .ok (.bipush 24, 2) := by decide +kernel
theorem dL_pays_96 : decode cL_pays 96 = .ok (.iload 4, 2) := by decide +kernel
theorem dL_pays_98 : decode cL_pays 98 = .ok (.iadd, 1) := by decide +kernel
theorem dL_pays_99 : decode cL_pays 99 = .ok (.iaload, 1) := by decide +kernel
theorem dL_pays_100 : decode cL_pays 100 = .ok (.ireturn, 1) := by decide +kernel
theorem dL_does_0 : decode cL_does 0 = .ok (.iload_n 1, 1) := by decide +kernel
theorem dL_does_1 : decode cL_does 1 = .ok (.ifCond .ne 12, 3) := by decide +kernel
theorem dL_does_4 : decode cL_does 4 = .ok (.aload_n 0, 1) := by decide +kernel
theorem dL_does_5 : decode cL_does 5 = .ok (.iload_n 2, 1) := by decide +kernel
theorem dL_does_6 : decode cL_does 6 = .ok (.iload_n 3, 1) := by decide +kernel
theorem dL_does_7 : decode cL_does 7 = .ok (.invokevirtual 25, 3) := by decide +kernel
theorem dL_does_10 : decode cL_does 10 = .ok (.goto 60, 3) := by decide +kernel
theorem dL_does_13 : decode cL_does 13 = .ok (.iload_n 1, 1) := by decide +kernel
theorem dL_does_14 : decode cL_does 14 = .ok (.iconst 1, 1) := by decide +kernel
theorem dL_does_15 : decode cL_does 15 = .ok (.if_icmp .ne 12, 3) := by decide +kernel
theorem dL_does_18 : decode cL_does 18 = .ok (.aload_n 0, 1) := by decide +kernel
theorem dL_does_19 : decode cL_does 19 = .ok (.iload_n 2, 1) := by decide +kernel
theorem dL_does_20 : decode cL_does 20 = .ok (.iload_n 3, 1) := by decide +kernel
theorem dL_does_21 : decode cL_does 21 = .ok (.invokevirtual 31, 3) := by decide +kernel
theorem dL_does_24 : decode cL_does 24 = .ok (.goto 46, 3) := by decide +kernel
theorem dL_does_27 : decode cL_does 27 = .ok (.iload_n 1, 1) := by decide +kernel
theorem dL_does_28 : decode cL_does 28 = .ok (.iconst 2, 1) := by decide +kernel
theorem dL_does_29 : decode cL_does 29 = .ok (.if_icmp .ne 12, 3) := by decide +kernel
theorem dL_does_32 : decode cL_does 32 = .ok (.aload_n 0, 1) := by decide +kernel
theorem dL_does_33 : decode cL_does 33 = .ok (.iload_n 2, 1) := by decide +kernel
theorem dL_does_34 : decode cL_does 34 = .ok (.iload_n 3, 1) := by decide +kernel
theorem dL_does_35 : decode cL_does 35 = .ok (.invokevirtual 34, 3) := by decide +kernel
theorem dL_does_38 : decode cL_does 38 = .ok (.goto 32, 3) := by decide +kernel
theorem dL_does_41 : decode cL_does 41 = .ok (.iload_n 1, 1) := by decide +kernel
theorem dL_does_42 : decode cL_does 42 = .ok (.iconst 3, 1) := by decide +kernel
theorem dL_does_43 : decode cL_does 43 = .ok (.if_icmp .ne 12, 3) := by decide +kernel
theorem dL_does_46 : decode cL_does 46 = .ok (.aload_n 0, 1) := by decide +kernel
theorem dL_does_47 : decode cL_does 47 = .ok (.iload_n 2, 1) := by decide +kernel
theorem dL_does_48 : decode cL_does 48 = .ok (.iload_n 3, 1) := by decide +kernel
theorem dL_does_49 : decode cL_does 49 = .ok (.invokevirtual 37, 3) := by decide +kernel
theorem dL_does_52 : decode cL_does 52 = .ok (.goto 18, 3) := by decide +kernel
theorem dL_does_55 : decode cL_does 55 = .ok (.aload_n 0, 1) := by decide +kernel
theorem dL_does_56 : decode cL_does 56 = .ok (.iload_n 2, 1) := by decide +kernel
theorem dL_does_57 : decode cL_does 57 = .ok (.iload_n 3, 1) := by decide +kernel
theorem dL_does_58 : decode cL_does 58 = .ok (.iconst 1, 1) := by decide +kernel
theorem dL_does_59 : decode cL_does 59 = .ok (.if_icmp .ne 7, 3) := by decide +kernel
theorem dL_does_62 : decode cL_does 62 = .ok (.iconst 1, 1) := by decide +kernel
theorem dL_does_63 : decode cL_does 63 = .ok (.goto 4, 3) := by decide +kernel
theorem dL_does_66 : decode cL_does 66 = .ok (.iconst 0, 1) := by decide +kernel
theorem dL_does_67 : decode cL_does 67 = .ok (.invokevirtual 40, 3) := by decide +kernel
theorem dL_does_70 : decode cL_does 70 = .ok (.ireturn, 1) := by decide +kernel
theorem dL_does_71 : decode cL_does 71 = .ok (.astore 4, 2) := by decide +kernel
theorem dL_does_73 : decode cL_does 73 = .ok (.bipush (-13), 2) := by decide +kernel
theorem dL_does_75 : decode cL_does 75 = .ok (.ireturn, 1) := by decide +kernel
theorem dL_isEngine_0 : decode cL_isEngine 0 = .ok (.iconst 0, 1) := by decide +kernel
theorem dL_isEngine_1 : decode cL_isEngine 1 = .ok (.istore 9, 2) := by decide +kernel
theorem dL_isEngine_3 : decode cL_isEngine 3 = .ok (.aload_n 0, 1) := by decide +kernel
theorem dL_isEngine_4 : decode cL_isEngine 4 = .ok (.invokevirtual 46, 3) := by decide +kernel
theorem dL_isEngine_7 : decode cL_isEngine 7 = .ok (.aload_n 1, 1) := by decide +kernel
theorem dL_isEngine_8 : decode cL_isEngine 8 = .ok (.iconst 0, 1) := by decide +kernel
theorem dL_isEngine_9 : decode cL_isEngine 9 = .ok (.iaload, 1) := by decide +kernel
theorem dL_isEngine_10 : decode cL_isEngine 10 = .ok (.if_icmp .ne 60, 3) := by decide +kernel
theorem dL_isEngine_13 : decode cL_isEngine 13 = .ok (.aload_n 0, 1) := by decide +kernel
theorem dL_isEngine_14 : decode cL_isEngine 14 = .ok (.invokevirtual 50, 3) := by decide +kernel
theorem dL_isEngine_17 : decode cL_isEngine 17 = .ok (.aload_n 1, 1) := by decide +kernel
theorem dL_isEngine_18 : decode cL_isEngine 18 = .ok (.iconst 2, 1) := by decide +kernel
theorem dL_isEngine_19 : decode cL_isEngine 19 = .ok (.iaload, 1) := by decide +kernel
theorem dL_isEngine_20 : decode cL_isEngine 20 = .ok (.if_icmp .ne 50, 3) := by decide +kernel
theorem dL_isEngine_23 : decode cL_isEngine 23 = .ok (.aload_n 0, 1) := by decide +kernel
theorem dL_isEngine_24 : decode cL_isEngine 24 = .ok (.invokevirtual 53, 3) := by decide +kernel
theorem dL_isEngine_27 : decode cL_isEngine 27 = .ok (.aload_n 1, 1) := by decide +kernel
theorem dL_isEngine_28 : decode cL_isEngine 28 = .ok (.iconst 5, 1) := by decide +kernel
theorem dL_isEngine_29 : decode cL_isEngine 29 = .ok (.iaload, 1) := by decide +kernel
theorem dL_isEngine_30 : decode cL_isEngine 30 = .ok (.if_icmp .ne 40, 3) := by decide +kernel
theorem dL_isEngine_33 : decode cL_isEngine 33 = .ok (.aload_n 0, 1) := by decide +kernel
theorem dL_isEngine_34 : decode cL_isEngine 34 = .ok (.invokevirtual 56, 3) := by decide +kernel
theorem dL_isEngine_37 : decode cL_isEngine 37 = .ok (.aload_n 1, 1) := by decide +kernel
theorem dL_isEngine_38 : decode cL_isEngine 38 = .ok (.bipush 6, 2) := by decide +kernel
theorem dL_isEngine_40 : decode cL_isEngine 40 = .ok (.iaload, 1) := by decide +kernel
theorem dL_isEngine_41 : decode cL_isEngine 41 = .ok (.if_icmp .ne 29, 3) := by decide +kernel
theorem dL_isEngine_44 : decode cL_isEngine 44 = .ok (.aload_n 0, 1) := by decide +kernel
theorem dL_isEngine_45 : decode cL_isEngine 45 = .ok (.invokevirtual 59, 3) := by decide +kernel
theorem dL_isEngine_48 : decode cL_isEngine 48 = .ok (.aload_n 1, 1) := by decide +kernel
theorem dL_isEngine_49 : decode cL_isEngine 49 = .ok (.bipush 7, 2) := by decide +kernel
theorem dL_isEngine_51 : decode cL_isEngine 51 = .ok (.iaload, 1) := by decide +kernel
theorem dL_isEngine_52 : decode cL_isEngine 52 = .ok (.if_icmp .ne 18, 3) := by decide +kernel
theorem dL_isEngine_55 : decode cL_isEngine 55 = .ok (.aload_n 0, 1) := by decide +kernel
theorem dL_isEngine_56 : decode cL_isEngine 56 = .ok (.invokevirtual 62, 3) := by decide +kernel
theorem dL_isEngine_59 : decode cL_isEngine 59 = .ok (.aload_n 1, 1) := by decide +kernel
theorem dL_isEngine_60 : decode cL_isEngine 60 = .ok (.bipush 8, 2) := by decide +kernel
theorem dL_isEngine_62 : decode cL_isEngine 62 = .ok (.iaload, 1) := by decide +kernel
theorem dL_isEngine_63 : decode cL_isEngine 63 = .ok (.if_icmp .ne 7, 3) := by decide +kernel
theorem dL_isEngine_66 : decode cL_isEngine 66 = .ok (.iconst 1, 1) := by decide +kernel
theorem dL_isEngine_67 : decode cL_isEngine 67 = .ok (.goto 4, 3) := by decide +kernel
theorem dL_isEngine_70 : decode cL_isEngine 70 = .ok (.iconst 0, 1) := by decide +kernel
theorem dL_isEngine_71 : decode cL_isEngine 71 = .ok (.istore 10, 2) := by decide +kernel
theorem dL_isEngine_73 : decode cL_isEngine 73 = .ok (.iconst 0, 1) := by decide +kernel
theorem dL_isEngine_74 : decode cL_isEngine 74 = .ok (.istore 11, 2) := by decide +kernel
theorem dL_isEngine_76 : decode cL_isEngine 76 = .ok (.iload 11, 2) := by decide +kernel
theorem dL_isEngine_78 : decode cL_isEngine 78 = .ok (.bipush 12, 2) := by decide +kernel
theorem dL_isEngine_80 : decode cL_isEngine 80 = .ok (.if_icmp .ge 45, 3) := by decide +kernel
theorem dL_isEngine_83 : decode cL_isEngine 83 = .ok (.iload 10, 2) := by decide +kernel
theorem dL_isEngine_85 : decode cL_isEngine 85 = .ok (.ifCond .eq 40, 3) := by decide +kernel
theorem dL_isEngine_88 : decode cL_isEngine 88 = .ok (.aload_n 0, 1) := by decide +kernel
theorem dL_isEngine_89 : decode cL_isEngine 89 = .ok (.aload_n 1, 1) := by decide +kernel
theorem dL_isEngine_90 : decode cL_isEngine 90 = .ok (.iconst 0, 1) := by decide +kernel
theorem dL_isEngine_91 : decode cL_isEngine 91 = .ok (.iaload, 1) := by decide +kernel
theorem dL_isEngine_92 : decode cL_isEngine 92 = .ok (.iload 11, 2) := by decide +kernel
theorem dL_isEngine_94 : decode cL_isEngine 94 = .ok (.iadd, 1) := by decide +kernel
theorem dL_isEngine_95 : decode cL_isEngine 95 = .ok (.invokevirtual 65, 3) := by decide +kernel
theorem dL_isEngine_98 : decode cL_isEngine 98 = .ok (.aload_n 1, 1) := by decide +kernel
theorem dL_isEngine_99 : decode cL_isEngine 99 = .ok (.aload_n 2, 1) := by decide +kernel
theorem dL_isEngine_100 : decode cL_isEngine 100 = .ok (.aload_n 1, 1) := by decide +kernel
theorem dL_isEngine_101 : decode cL_isEngine 101 = .ok (.iconst 0, 1) := by decide +kernel
theorem dL_isEngine_102 : decode cL_isEngine 102 = .ok (.iaload, 1) := by decide +kernel
theorem dL_isEngine_103 : decode cL_isEngine 103 = .ok (.iload 11, 2) := by decide +kernel
theorem dL_isEngine_105 : decode cL_isEngine 105 = .ok (.iadd, 1) := by decide +kernel
theorem dL_isEngine_106 : decode cL_isEngine 106 = .ok (.invokestatic 7, 3) := by decide +kernel
theorem dL_isEngine_109 : decode cL_isEngine 109 = .ok (.if_icmp .ne 7, 3) := by decide +kernel
theorem dL_isEngine_112 : decode cL_isEngine 112 = .ok (.iconst 1, 1) := by decide +kernel
theorem dL_isEngine_113 : decode cL_isEngine 113 = .ok (.goto 4, 3) := by decide +kernel
theorem dL_isEngine_116 : decode cL_isEngine 116 = .ok (.iconst 0, 1) := by decide +kernel
theorem dL_isEngine_117 : decode cL_isEngine 117 = .ok (.istore 10, 2) := by decide +kernel
theorem dL_isEngine_119 : decode cL_isEngine 119 = .ok (.iinc 11 1, 3) := by decide +kernel
theorem dL_isEngine_122 : decode cL_isEngine 122 = .ok (.goto (-46), 3) := by decide +kernel
theorem dL_isEngine_125 : decode cL_isEngine 125 = .ok (.iconst 0, 1) := by decide +kernel
theorem dL_isEngine_126 : decode cL_isEngine 126 = .ok (.istore 11, 2) := by decide +kernel
theorem dL_isEngine_128 : decode cL_isEngine 128 = .ok (.iload 11, 2) := by decide +kernel
theorem dL_isEngine_130 : decode cL_isEngine 130 = .ok (.bipush 8, 2) := by decide +kernel
theorem dL_isEngine_132 : decode cL_isEngine 132 = .ok (.if_icmp .ge 189, 3) := by decide +kernel
theorem dL_isEngine_135 : decode cL_isEngine 135 = .ok (.iload 10, 2) := by decide +kernel
theorem dL_isEngine_137 : decode cL_isEngine 137 = .ok (.ifCond .eq 184, 3) := by decide +kernel
theorem dL_isEngine_140 : decode cL_isEngine 140 = .ok (.iconst 2, 1) := by decide +kernel
theorem dL_isEngine_141 : decode cL_isEngine 141 = .ok (.istore 12, 2) := by decide +kernel
theorem dL_isEngine_143 : decode cL_isEngine 143 = .ok (.iconst 0, 1) := by decide +kernel
theorem dL_isEngine_144 : decode cL_isEngine 144 = .ok (.istore 13, 2) := by decide +kernel
theorem dL_isEngine_146 : decode cL_isEngine 146 = .ok (.iconst 0, 1) := by decide +kernel
theorem dL_isEngine_147 : decode cL_isEngine 147 = .ok (.istore 14, 2) := by decide +kernel
theorem dL_isEngine_149 : decode cL_isEngine 149 = .ok (.iload 14, 2) := by decide +kernel
theorem dL_isEngine_151 : decode cL_isEngine 151 = .ok (.aload_n 1, 1) := by decide +kernel
theorem dL_isEngine_152 : decode cL_isEngine 152 = .ok (.iconst 2, 1) := by decide +kernel
theorem dL_isEngine_153 : decode cL_isEngine 153 = .ok (.iaload, 1) := by decide +kernel
theorem dL_isEngine_154 : decode cL_isEngine 154 = .ok (.if_icmp .ge 127, 3) := by decide +kernel
theorem dL_isEngine_157 : decode cL_isEngine 157 = .ok (.aload 4, 2) := by decide +kernel
theorem dL_isEngine_159 : decode cL_isEngine 159 = .ok (.iload 14, 2) := by decide +kernel
theorem dL_isEngine_161 : decode cL_isEngine 161 = .ok (.iaload, 1) := by decide +kernel
theorem dL_isEngine_162 : decode cL_isEngine 162 = .ok (.iconst 3, 1) := by decide +kernel
theorem dL_isEngine_163 : decode cL_isEngine 163 = .ok (.if_icmp .eq 12, 3) := by decide +kernel
theorem dL_isEngine_166 : decode cL_isEngine 166 = .ok (.aload 4, 2) := by decide +kernel
theorem dL_isEngine_168 : decode cL_isEngine 168 = .ok (.iload 14, 2) := by decide +kernel
theorem dL_isEngine_170 : decode cL_isEngine 170 = .ok (.iaload, 1) := by decide +kernel
theorem dL_isEngine_171 : decode cL_isEngine 171 = .ok (.iconst 5, 1) := by decide +kernel
theorem dL_isEngine_172 : decode cL_isEngine 172 = .ok (.if_icmp .ne 7, 3) := by decide +kernel
theorem dL_isEngine_175 : decode cL_isEngine 175 = .ok (.iconst 0, 1) := by decide +kernel
theorem dL_isEngine_176 : decode cL_isEngine 176 = .ok (.goto 34, 3) := by decide +kernel
theorem dL_isEngine_179 : decode cL_isEngine 179 = .ok (.aload 4, 2) := by decide +kernel
theorem dL_isEngine_181 : decode cL_isEngine 181 = .ok (.iload 14, 2) := by decide +kernel
theorem dL_isEngine_183 : decode cL_isEngine 183 = .ok (.iaload, 1) := by decide +kernel
theorem dL_isEngine_184 : decode cL_isEngine 184 = .ok (.iconst 2, 1) := by decide +kernel
theorem dL_isEngine_185 : decode cL_isEngine 185 = .ok (.if_icmp .eq 20, 3) := by decide +kernel
theorem dL_isEngine_188 : decode cL_isEngine 188 = .ok (.aload 4, 2) := by decide +kernel
theorem dL_isEngine_190 : decode cL_isEngine 190 = .ok (.iload 14, 2) := by decide +kernel
theorem dL_isEngine_192 : decode cL_isEngine 192 = .ok (.iaload, 1) := by decide +kernel
theorem dL_isEngine_193 : decode cL_isEngine 193 = .ok (.iconst 4, 1) := by decide +kernel
theorem dL_isEngine_194 : decode cL_isEngine 194 = .ok (.if_icmp .ne 15, 3) := by decide +kernel
theorem dL_isEngine_197 : decode cL_isEngine 197 = .ok (.aload 6, 2) := by decide +kernel
theorem dL_isEngine_199 : decode cL_isEngine 199 = .ok (.iload 14, 2) := by decide +kernel
theorem dL_isEngine_201 : decode cL_isEngine 201 = .ok (.iaload, 1) := by decide +kernel
theorem dL_isEngine_202 : decode cL_isEngine 202 = .ok (.ifCond .le 7, 3) := by decide +kernel
theorem dL_isEngine_205 : decode cL_isEngine 205 = .ok (.iconst 1, 1) := by decide +kernel
theorem dL_isEngine_206 : decode cL_isEngine 206 = .ok (.goto 4, 3) := by decide +kernel
theorem dL_isEngine_209 : decode cL_isEngine 209 = .ok (.iconst 2, 1) := by decide +kernel
theorem dL_isEngine_210 : decode cL_isEngine 210 = .ok (.istore 15, 2) := by decide +kernel
theorem dL_isEngine_212 : decode cL_isEngine 212 = .ok (.aload_n 3, 1) := by decide +kernel
theorem dL_isEngine_213 : decode cL_isEngine 213 = .ok (.iload 14, 2) := by decide +kernel
theorem dL_isEngine_215 : decode cL_isEngine 215 = .ok (.iaload, 1) := by decide +kernel
theorem dL_isEngine_216 : decode cL_isEngine 216 = .ok (.iload 11, 2) := by decide +kernel
theorem dL_isEngine_218 : decode cL_isEngine 218 = .ok (.if_icmp .ne 15, 3) := by decide +kernel
theorem dL_isEngine_221 : decode cL_isEngine 221 = .ok (.iload 15, 2) := by decide +kernel
theorem dL_isEngine_223 : decode cL_isEngine 223 = .ok (.iload 12, 2) := by decide +kernel
theorem dL_isEngine_225 : decode cL_isEngine 225 = .ok (.if_icmp .ge 8, 3) := by decide +kernel
theorem dL_isEngine_228 : decode cL_isEngine 228 = .ok (.iload 15, 2) := by decide +kernel
theorem dL_isEngine_230 : decode cL_isEngine 230 = .ok (.goto 5, 3) := by decide +kernel
theorem dL_isEngine_233 : decode cL_isEngine 233 = .ok (.iload 12, 2) := by decide +kernel
theorem dL_isEngine_235 : decode cL_isEngine 235 = .ok (.istore 12, 2) := by decide +kernel
theorem dL_isEngine_237 : decode cL_isEngine 237 = .ok (.iload 13, 2) := by decide +kernel
theorem dL_isEngine_239 : decode cL_isEngine 239 = .ok (.aload_n 3, 1) := by decide +kernel
theorem dL_isEngine_240 : decode cL_isEngine 240 = .ok (.iload 14, 2) := by decide +kernel
theorem dL_isEngine_242 : decode cL_isEngine 242 = .ok (.iaload, 1) := by decide +kernel
theorem dL_isEngine_243 : decode cL_isEngine 243 = .ok (.iload 11, 2) := by decide +kernel
theorem dL_isEngine_245 : decode cL_isEngine 245 = .ok (.if_icmp .ne 26, 3) := by decide +kernel
theorem dL_isEngine_248 : decode cL_isEngine 248 = .ok (.aload 4, 2) := by decide +kernel
theorem dL_isEngine_250 : decode cL_isEngine 250 = .ok (.iload 14, 2) := by decide +kernel
theorem dL_isEngine_252 : decode cL_isEngine 252 = .ok (.iaload, 1) := by decide +kernel
theorem dL_isEngine_253 : decode cL_isEngine 253 = .ok (.iload 8, 2) := by decide +kernel
theorem dL_isEngine_255 : decode cL_isEngine 255 = .ok (.bipush 7, 2) := by decide +kernel
theorem dL_isEngine_257 : decode cL_isEngine 257 = .ok (.irem, 1) := by decide +kernel
theorem dL_isEngine_258 : decode cL_isEngine 258 = .ok (.if_icmp .ne 13, 3) := by decide +kernel
theorem dL_isEngine_261 : decode cL_isEngine 261 = .ok (.aload_n 3, 1) := by decide +kernel
theorem dL_isEngine_262 : decode cL_isEngine 262 = .ok (.bipush 24, 2) := by decide +kernel
theorem dL_isEngine_264 : decode cL_isEngine 264 = .ok (.iload 14, 2) := by decide +kernel
theorem dL_isEngine_266 : decode cL_isEngine 266 = .ok (.iadd, 1) := by decide +kernel
theorem dL_isEngine_267 : decode cL_isEngine 267 = .ok (.iaload, 1) := by decide +kernel
theorem dL_isEngine_268 : decode cL_isEngine 268 = .ok (.goto 4, 3) := by decide +kernel
theorem dL_isEngine_271 : decode cL_isEngine 271 = .ok (.iconst 0, 1) := by decide +kernel
theorem dL_isEngine_272 : decode cL_isEngine 272 = .ok (.iadd, 1) := by decide +kernel
theorem dL_isEngine_273 : decode cL_isEngine 273 = .ok (.istore 13, 2) := by decide +kernel
theorem dL_isEngine_275 : decode cL_isEngine 275 = .ok (.iinc 14 1, 3) := by decide +kernel
theorem dL_isEngine_278 : decode cL_isEngine 278 = .ok (.goto (-129), 3) := by decide +kernel
theorem dL_isEngine_281 : decode cL_isEngine 281 = .ok (.aload_n 0, 1) := by decide +kernel
theorem dL_isEngine_282 : decode cL_isEngine 282 = .ok (.iload 11, 2) := by decide +kernel
theorem dL_isEngine_284 : decode cL_isEngine 284 = .ok (.invokevirtual 69, 3) := by decide +kernel
theorem dL_isEngine_287 : decode cL_isEngine 287 = .ok (.iload 12, 2) := by decide +kernel
theorem dL_isEngine_289 : decode cL_isEngine 289 = .ok (.if_icmp .ne 23, 3) := by decide +kernel
theorem dL_isEngine_292 : decode cL_isEngine 292 = .ok (.aload_n 0, 1) := by decide +kernel
theorem dL_isEngine_293 : decode cL_isEngine 293 = .ok (.iload 11, 2) := by decide +kernel
theorem dL_isEngine_295 : decode cL_isEngine 295 = .ok (.iload 8, 2) := by decide +kernel
theorem dL_isEngine_297 : decode cL_isEngine 297 = .ok (.bipush 7, 2) := by decide +kernel
theorem dL_isEngine_299 : decode cL_isEngine 299 = .ok (.irem, 1) := by decide +kernel
theorem dL_isEngine_300 : decode cL_isEngine 300 = .ok (.invokevirtual 73, 3) := by decide +kernel
theorem dL_isEngine_303 : decode cL_isEngine 303 = .ok (.iload 13, 2) := by decide +kernel
theorem dL_isEngine_305 : decode cL_isEngine 305 = .ok (.if_icmp .ne 7, 3) := by decide +kernel
theorem dL_isEngine_308 : decode cL_isEngine 308 = .ok (.iconst 1, 1) := by decide +kernel
theorem dL_isEngine_309 : decode cL_isEngine 309 = .ok (.goto 4, 3) := by decide +kernel
theorem dL_isEngine_312 : decode cL_isEngine 312 = .ok (.iconst 0, 1) := by decide +kernel
theorem dL_isEngine_313 : decode cL_isEngine 313 = .ok (.istore 10, 2) := by decide +kernel
theorem dL_isEngine_315 : decode cL_isEngine 315 = .ok (.iinc 11 1, 3) := by decide +kernel
theorem dL_isEngine_318 : decode cL_isEngine 318 = .ok (.goto (-190), 3) := by decide +kernel
theorem dL_isEngine_321 : decode cL_isEngine 321 = .ok (.iconst 0, 1) := by decide +kernel
theorem dL_isEngine_322 : decode cL_isEngine 322 = .ok (.istore 11, 2) := by decide +kernel
theorem dL_isEngine_324 : decode cL_isEngine 324 = .ok (.iload 11, 2) := by decide +kernel
theorem dL_isEngine_326 : decode cL_isEngine 326 = .ok (.aload_n 1, 1) := by decide +kernel
theorem dL_isEngine_327 : decode cL_isEngine 327 = .ok (.iconst 2, 1) := by decide +kernel
theorem dL_isEngine_328 : decode cL_isEngine 328 = .ok (.iaload, 1) := by decide +kernel
theorem dL_isEngine_329 : decode cL_isEngine 329 = .ok (.if_icmp .ge 184, 3) := by decide +kernel
theorem dL_isEngine_332 : decode cL_isEngine 332 = .ok (.iload 10, 2) := by decide +kernel
theorem dL_isEngine_334 : decode cL_isEngine 334 = .ok (.ifCond .eq 179, 3) := by decide +kernel
theorem dL_isEngine_337 : decode cL_isEngine 337 = .ok (.iload 9, 2) := by decide +kernel
theorem dL_isEngine_339 : decode cL_isEngine 339 = .ok (.aload_n 3, 1) := by decide +kernel
theorem dL_isEngine_340 : decode cL_isEngine 340 = .ok (.bipush 12, 2) := by decide +kernel
theorem dL_isEngine_342 : decode cL_isEngine 342 = .ok (.iload 11, 2) := by decide +kernel
theorem dL_isEngine_344 : decode cL_isEngine 344 = .ok (.iadd, 1) := by decide +kernel
theorem dL_isEngine_345 : decode cL_isEngine 345 = .ok (.iaload, 1) := by decide +kernel
theorem dL_isEngine_346 : decode cL_isEngine 346 = .ok (.iadd, 1) := by decide +kernel
theorem dL_isEngine_347 : decode cL_isEngine 347 = .ok (.istore 9, 2) := by decide +kernel
theorem dL_isEngine_349 : decode cL_isEngine 349 = .ok (.aload_n 0, 1) := by decide +kernel
theorem dL_isEngine_350 : decode cL_isEngine 350 = .ok (.iload 11, 2) := by decide +kernel
theorem dL_isEngine_352 : decode cL_isEngine 352 = .ok (.invokevirtual 76, 3) := by decide +kernel
theorem dL_isEngine_355 : decode cL_isEngine 355 = .ok (.aload 4, 2) := by decide +kernel
theorem dL_isEngine_357 : decode cL_isEngine 357 = .ok (.iload 11, 2) := by decide +kernel
theorem dL_isEngine_359 : decode cL_isEngine 359 = .ok (.iaload, 1) := by decide +kernel
theorem dL_isEngine_360 : decode cL_isEngine 360 = .ok (.if_icmp .ne 96, 3) := by decide +kernel
theorem dL_isEngine_363 : decode cL_isEngine 363 = .ok (.aload_n 0, 1) := by decide +kernel
theorem dL_isEngine_364 : decode cL_isEngine 364 = .ok (.iload 11, 2) := by decide +kernel
theorem dL_isEngine_366 : decode cL_isEngine 366 = .ok (.invokevirtual 79, 3) := by decide +kernel
theorem dL_isEngine_369 : decode cL_isEngine 369 = .ok (.aload_n 3, 1) := by decide +kernel
theorem dL_isEngine_370 : decode cL_isEngine 370 = .ok (.bipush 24, 2) := by decide +kernel
theorem dL_isEngine_372 : decode cL_isEngine 372 = .ok (.iload 11, 2) := by decide +kernel
theorem dL_isEngine_374 : decode cL_isEngine 374 = .ok (.iadd, 1) := by decide +kernel
theorem dL_isEngine_375 : decode cL_isEngine 375 = .ok (.iaload, 1) := by decide +kernel
theorem dL_isEngine_376 : decode cL_isEngine 376 = .ok (.if_icmp .ne 80, 3) := by decide +kernel
theorem dL_isEngine_379 : decode cL_isEngine 379 = .ok (.aload_n 0, 1) := by decide +kernel
theorem dL_isEngine_380 : decode cL_isEngine 380 = .ok (.iload 11, 2) := by decide +kernel
theorem dL_isEngine_382 : decode cL_isEngine 382 = .ok (.invokevirtual 82, 3) := by decide +kernel
theorem dL_isEngine_385 : decode cL_isEngine 385 = .ok (.aload 4, 2) := by decide +kernel
theorem dL_isEngine_387 : decode cL_isEngine 387 = .ok (.bipush 24, 2) := by decide +kernel
theorem dL_isEngine_389 : decode cL_isEngine 389 = .ok (.iload 11, 2) := by decide +kernel
theorem dL_isEngine_391 : decode cL_isEngine 391 = .ok (.iadd, 1) := by decide +kernel
theorem dL_isEngine_392 : decode cL_isEngine 392 = .ok (.iaload, 1) := by decide +kernel
theorem dL_isEngine_393 : decode cL_isEngine 393 = .ok (.if_icmp .ne 63, 3) := by decide +kernel
theorem dL_isEngine_396 : decode cL_isEngine 396 = .ok (.aload_n 0, 1) := by decide +kernel
theorem dL_isEngine_397 : decode cL_isEngine 397 = .ok (.iload 11, 2) := by decide +kernel
theorem dL_isEngine_399 : decode cL_isEngine 399 = .ok (.invokevirtual 85, 3) := by decide +kernel
theorem dL_isEngine_402 : decode cL_isEngine 402 = .ok (.aload 6, 2) := by decide +kernel
theorem dL_isEngine_404 : decode cL_isEngine 404 = .ok (.bipush 24, 2) := by decide +kernel
theorem dL_isEngine_406 : decode cL_isEngine 406 = .ok (.iload 11, 2) := by decide +kernel
theorem dL_isEngine_408 : decode cL_isEngine 408 = .ok (.iadd, 1) := by decide +kernel
theorem dL_isEngine_409 : decode cL_isEngine 409 = .ok (.iaload, 1) := by decide +kernel
theorem dL_isEngine_410 : decode cL_isEngine 410 = .ok (.if_icmp .ne 46, 3) := by decide +kernel
theorem dL_isEngine_413 : decode cL_isEngine 413 = .ok (.aload_n 0, 1) := by decide +kernel
theorem dL_isEngine_414 : decode cL_isEngine 414 = .ok (.iload 11, 2) := by decide +kernel
theorem dL_isEngine_416 : decode cL_isEngine 416 = .ok (.invokevirtual 88, 3) := by decide +kernel
theorem dL_isEngine_419 : decode cL_isEngine 419 = .ok (.aload 4, 2) := by decide +kernel
theorem dL_isEngine_421 : decode cL_isEngine 421 = .ok (.iload 11, 2) := by decide +kernel
theorem dL_isEngine_423 : decode cL_isEngine 423 = .ok (.iaload, 1) := by decide +kernel
theorem dL_isEngine_424 : decode cL_isEngine 424 = .ok (.iconst 1, 1) := by decide +kernel
theorem dL_isEngine_425 : decode cL_isEngine 425 = .ok (.if_icmp .eq 12, 3) := by decide +kernel
theorem dL_isEngine_428 : decode cL_isEngine 428 = .ok (.aload 4, 2) := by decide +kernel
theorem dL_isEngine_430 : decode cL_isEngine 430 = .ok (.iload 11, 2) := by decide +kernel
theorem dL_isEngine_432 : decode cL_isEngine 432 = .ok (.iaload, 1) := by decide +kernel
theorem dL_isEngine_433 : decode cL_isEngine 433 = .ok (.iconst 4, 1) := by decide +kernel
theorem dL_isEngine_434 : decode cL_isEngine 434 = .ok (.if_icmp .le 7, 3) := by decide +kernel
theorem dL_isEngine_437 : decode cL_isEngine 437 = .ok (.iconst (-1), 1) := by decide +kernel
theorem dL_isEngine_438 : decode cL_isEngine 438 = .ok (.goto 11, 3) := by decide +kernel
theorem dL_isEngine_441 : decode cL_isEngine 441 = .ok (.aload 4, 2) := by decide +kernel
theorem dL_isEngine_443 : decode cL_isEngine 443 = .ok (.bipush 12, 2) := by decide +kernel
theorem dL_isEngine_445 : decode cL_isEngine 445 = .ok (.iload 11, 2) := by decide +kernel
theorem dL_isEngine_447 : decode cL_isEngine 447 = .ok (.iadd, 1) := by decide +kernel
theorem dL_isEngine_448 : decode cL_isEngine 448 = .ok (.iaload, 1) := by decide +kernel
theorem dL_isEngine_449 : decode cL_isEngine 449 = .ok (.if_icmp .ne 7, 3) := by decide +kernel
theorem dL_isEngine_452 : decode cL_isEngine 452 = .ok (.iconst 1, 1) := by decide +kernel
theorem dL_isEngine_453 : decode cL_isEngine 453 = .ok (.goto 4, 3) := by decide +kernel
theorem dL_isEngine_456 : decode cL_isEngine 456 = .ok (.iconst 0, 1) := by decide +kernel
theorem dL_isEngine_457 : decode cL_isEngine 457 = .ok (.istore 10, 2) := by decide +kernel
theorem dL_isEngine_459 : decode cL_isEngine 459 = .ok (.iconst 1, 1) := by decide +kernel
theorem dL_isEngine_460 : decode cL_isEngine 460 = .ok (.istore 12, 2) := by decide +kernel
theorem dL_isEngine_462 : decode cL_isEngine 462 = .ok (.iload 12, 2) := by decide +kernel
theorem dL_isEngine_464 : decode cL_isEngine 464 = .ok (.iconst 5, 1) := by decide +kernel
theorem dL_isEngine_465 : decode cL_isEngine 465 = .ok (.if_icmp .ge 42, 3) := by decide +kernel
theorem dL_isEngine_468 : decode cL_isEngine 468 = .ok (.iload 10, 2) := by decide +kernel
theorem dL_isEngine_470 : decode cL_isEngine 470 = .ok (.ifCond .eq 28, 3) := by decide +kernel
theorem dL_isEngine_473 : decode cL_isEngine 473 = .ok (.aload_n 0, 1) := by decide +kernel
theorem dL_isEngine_474 : decode cL_isEngine 474 = .ok (.iload 11, 2) := by decide +kernel
theorem dL_isEngine_476 : decode cL_isEngine 476 = .ok (.iload 12, 2) := by decide +kernel
theorem dL_isEngine_478 : decode cL_isEngine 478 = .ok (.invokevirtual 91, 3) := by decide +kernel
theorem dL_isEngine_481 : decode cL_isEngine 481 = .ok (.aload 5, 2) := by decide +kernel
theorem dL_isEngine_483 : decode cL_isEngine 483 = .ok (.iconst 5, 1) := by decide +kernel
theorem dL_isEngine_484 : decode cL_isEngine 484 = .ok (.iload 11, 2) := by decide +kernel
theorem dL_isEngine_486 : decode cL_isEngine 486 = .ok (.imul, 1) := by decide +kernel
theorem dL_isEngine_487 : decode cL_isEngine 487 = .ok (.iload 12, 2) := by decide +kernel
theorem dL_isEngine_489 : decode cL_isEngine 489 = .ok (.iadd, 1) := by decide +kernel
theorem dL_isEngine_490 : decode cL_isEngine 490 = .ok (.iaload, 1) := by decide +kernel
theorem dL_isEngine_491 : decode cL_isEngine 491 = .ok (.if_icmp .ne 7, 3) := by decide +kernel
theorem dL_isEngine_494 : decode cL_isEngine 494 = .ok (.iconst 1, 1) := by decide +kernel
theorem dL_isEngine_495 : decode cL_isEngine 495 = .ok (.goto 4, 3) := by decide +kernel
theorem dL_isEngine_498 : decode cL_isEngine 498 = .ok (.iconst 0, 1) := by decide +kernel
theorem dL_isEngine_499 : decode cL_isEngine 499 = .ok (.istore 10, 2) := by decide +kernel
theorem dL_isEngine_501 : decode cL_isEngine 501 = .ok (.iinc 12 1, 3) := by decide +kernel
theorem dL_isEngine_504 : decode cL_isEngine 504 = .ok (.goto (-42), 3) := by decide +kernel
theorem dL_isEngine_507 : decode cL_isEngine 507 = .ok (.iinc 11 1, 3) := by decide +kernel
theorem dL_isEngine_510 : decode cL_isEngine 510 = .ok (.goto (-186), 3) := by decide +kernel
theorem dL_isEngine_513 : decode cL_isEngine 513 = .ok (.aload_n 1, 1) := by decide +kernel
theorem dL_isEngine_514 : decode cL_isEngine 514 = .ok (.iconst 0, 1) := by decide +kernel
theorem dL_isEngine_515 : decode cL_isEngine 515 = .ok (.iaload, 1) := by decide +kernel
theorem dL_isEngine_516 : decode cL_isEngine 516 = .ok (.iload 8, 2) := by decide +kernel
theorem dL_isEngine_518 : decode cL_isEngine 518 = .ok (.bipush 9, 2) := by decide +kernel
theorem dL_isEngine_520 : decode cL_isEngine 520 = .ok (.irem, 1) := by decide +kernel
theorem dL_isEngine_521 : decode cL_isEngine 521 = .ok (.isub, 1) := by decide +kernel
theorem dL_isEngine_522 : decode cL_isEngine 522 = .ok (.ifCond .ge 7, 3) := by decide +kernel
theorem dL_isEngine_525 : decode cL_isEngine 525 = .ok (.iconst 0, 1) := by decide +kernel
theorem dL_isEngine_526 : decode cL_isEngine 526 = .ok (.goto 12, 3) := by decide +kernel
theorem dL_isEngine_529 : decode cL_isEngine 529 = .ok (.aload_n 1, 1) := by decide +kernel
theorem dL_isEngine_530 : decode cL_isEngine 530 = .ok (.iconst 0, 1) := by decide +kernel
theorem dL_isEngine_531 : decode cL_isEngine 531 = .ok (.iaload, 1) := by decide +kernel
theorem dL_isEngine_532 : decode cL_isEngine 532 = .ok (.iload 8, 2) := by decide +kernel
theorem dL_isEngine_534 : decode cL_isEngine 534 = .ok (.bipush 9, 2) := by decide +kernel
theorem dL_isEngine_536 : decode cL_isEngine 536 = .ok (.irem, 1) := by decide +kernel
theorem dL_isEngine_537 : decode cL_isEngine 537 = .ok (.isub, 1) := by decide +kernel
theorem dL_isEngine_538 : decode cL_isEngine 538 = .ok (.istore 11, 2) := by decide +kernel
theorem dL_isEngine_540 : decode cL_isEngine 540 = .ok (.iconst 0, 1) := by decide +kernel
theorem dL_isEngine_541 : decode cL_isEngine 541 = .ok (.istore 12, 2) := by decide +kernel
theorem dL_isEngine_543 : decode cL_isEngine 543 = .ok (.iload 12, 2) := by decide +kernel
theorem dL_isEngine_545 : decode cL_isEngine 545 = .ok (.bipush 60, 2) := by decide +kernel
theorem dL_isEngine_547 : decode cL_isEngine 547 = .ok (.if_icmp .ge 58, 3) := by decide +kernel
theorem dL_isEngine_550 : decode cL_isEngine 550 = .ok (.iload 12, 2) := by decide +kernel
theorem dL_isEngine_552 : decode cL_isEngine 552 = .ok (.aload_n 1, 1) := by decide +kernel
theorem dL_isEngine_553 : decode cL_isEngine 553 = .ok (.bipush 8, 2) := by decide +kernel
theorem dL_isEngine_555 : decode cL_isEngine 555 = .ok (.iaload, 1) := by decide +kernel
theorem dL_isEngine_556 : decode cL_isEngine 556 = .ok (.if_icmp .ge 49, 3) := by decide +kernel
theorem dL_isEngine_559 : decode cL_isEngine 559 = .ok (.iload 10, 2) := by decide +kernel
theorem dL_isEngine_561 : decode cL_isEngine 561 = .ok (.ifCond .eq 44, 3) := by decide +kernel
theorem dL_isEngine_564 : decode cL_isEngine 564 = .ok (.aload 7, 2) := by decide +kernel
theorem dL_isEngine_566 : decode cL_isEngine 566 = .ok (.aload_n 1, 1) := by decide +kernel
theorem dL_isEngine_567 : decode cL_isEngine 567 = .ok (.bipush 8, 2) := by decide +kernel
theorem dL_isEngine_569 : decode cL_isEngine 569 = .ok (.iaload, 1) := by decide +kernel
theorem dL_isEngine_570 : decode cL_isEngine 570 = .ok (.iconst 1, 1) := by decide +kernel
theorem dL_isEngine_571 : decode cL_isEngine 571 = .ok (.isub, 1) := by decide +kernel
theorem dL_isEngine_572 : decode cL_isEngine 572 = .ok (.iload 12, 2) := by decide +kernel
theorem dL_isEngine_574 : decode cL_isEngine 574 = .ok (.isub, 1) := by decide +kernel
theorem dL_isEngine_575 : decode cL_isEngine 575 = .ok (.bipush 60, 2) := by decide +kernel
theorem dL_isEngine_577 : decode cL_isEngine 577 = .ok (.irem, 1) := by decide +kernel
theorem dL_isEngine_578 : decode cL_isEngine 578 = .ok (.iaload, 1) := by decide +kernel
theorem dL_isEngine_579 : decode cL_isEngine 579 = .ok (.istore 13, 2) := by decide +kernel
theorem dL_isEngine_581 : decode cL_isEngine 581 = .ok (.aload_n 0, 1) := by decide +kernel
theorem dL_isEngine_582 : decode cL_isEngine 582 = .ok (.iload 12, 2) := by decide +kernel
theorem dL_isEngine_584 : decode cL_isEngine 584 = .ok (.invokevirtual 94, 3) := by decide +kernel
theorem dL_isEngine_587 : decode cL_isEngine 587 = .ok (.iload 13, 2) := by decide +kernel
theorem dL_isEngine_589 : decode cL_isEngine 589 = .ok (.if_icmp .ne 7, 3) := by decide +kernel
theorem dL_isEngine_592 : decode cL_isEngine 592 = .ok (.iconst 1, 1) := by decide +kernel
theorem dL_isEngine_593 : decode cL_isEngine 593 = .ok (.goto 4, 3) := by decide +kernel
theorem dL_isEngine_596 : decode cL_isEngine 596 = .ok (.iconst 0, 1) := by decide +kernel
theorem dL_isEngine_597 : decode cL_isEngine 597 = .ok (.istore 10, 2) := by decide +kernel
theorem dL_isEngine_599 : decode cL_isEngine 599 = .ok (.iinc 12 1, 3) := by decide +kernel
theorem dL_isEngine_602 : decode cL_isEngine 602 = .ok (.goto (-59), 3) := by decide +kernel
theorem dL_isEngine_605 : decode cL_isEngine 605 = .ok (.iconst 0, 1) := by decide +kernel
theorem dL_isEngine_606 : decode cL_isEngine 606 = .ok (.istore 12, 2) := by decide +kernel
theorem dL_isEngine_608 : decode cL_isEngine 608 = .ok (.iload 12, 2) := by decide +kernel
theorem dL_isEngine_610 : decode cL_isEngine 610 = .ok (.aload_n 1, 1) := by decide +kernel
theorem dL_isEngine_611 : decode cL_isEngine 611 = .ok (.iconst 2, 1) := by decide +kernel
theorem dL_isEngine_612 : decode cL_isEngine 612 = .ok (.iaload, 1) := by decide +kernel
theorem dL_isEngine_613 : decode cL_isEngine 613 = .ok (.if_icmp .ge 155, 3) := by decide +kernel
theorem dL_isEngine_616 : decode cL_isEngine 616 = .ok (.iload 10, 2) := by decide +kernel
theorem dL_isEngine_618 : decode cL_isEngine 618 = .ok (.ifCond .eq 150, 3) := by decide +kernel
theorem dL_isEngine_621 : decode cL_isEngine 621 = .ok (.bipush (-2), 2) := by decide +kernel
theorem dL_isEngine_623 : decode cL_isEngine 623 = .ok (.istore 13, 2) := by decide +kernel
theorem dL_isEngine_625 : decode cL_isEngine 625 = .ok (.iconst 0, 1) := by decide +kernel
theorem dL_isEngine_626 : decode cL_isEngine 626 = .ok (.istore 14, 2) := by decide +kernel
theorem dL_isEngine_628 : decode cL_isEngine 628 = .ok (.iload 14, 2) := by decide +kernel
theorem dL_isEngine_630 : decode cL_isEngine 630 = .ok (.bipush 60, 2) := by decide +kernel
theorem dL_isEngine_632 : decode cL_isEngine 632 = .ok (.if_icmp .ge 76, 3) := by decide +kernel
theorem dL_isEngine_635 : decode cL_isEngine 635 = .ok (.iload 14, 2) := by decide +kernel
theorem dL_isEngine_637 : decode cL_isEngine 637 = .ok (.aload_n 1, 1) := by decide +kernel
theorem dL_isEngine_638 : decode cL_isEngine 638 = .ok (.bipush 8, 2) := by decide +kernel
theorem dL_isEngine_640 : decode cL_isEngine 640 = .ok (.iaload, 1) := by decide +kernel
theorem dL_isEngine_641 : decode cL_isEngine 641 = .ok (.if_icmp .ge 67, 3) := by decide +kernel
theorem dL_isEngine_644 : decode cL_isEngine 644 = .ok (.iload 13, 2) := by decide +kernel
theorem dL_isEngine_646 : decode cL_isEngine 646 = .ok (.ifCond .ge 62, 3) := by decide +kernel
theorem dL_isEngine_649 : decode cL_isEngine 649 = .ok (.aload 7, 2) := by decide +kernel
theorem dL_isEngine_651 : decode cL_isEngine 651 = .ok (.aload_n 1, 1) := by decide +kernel
theorem dL_isEngine_652 : decode cL_isEngine 652 = .ok (.bipush 8, 2) := by decide +kernel
theorem dL_isEngine_654 : decode cL_isEngine 654 = .ok (.iaload, 1) := by decide +kernel
theorem dL_isEngine_655 : decode cL_isEngine 655 = .ok (.iconst 1, 1) := by decide +kernel
theorem dL_isEngine_656 : decode cL_isEngine 656 = .ok (.isub, 1) := by decide +kernel
theorem dL_isEngine_657 : decode cL_isEngine 657 = .ok (.iload 14, 2) := by decide +kernel
theorem dL_isEngine_659 : decode cL_isEngine 659 = .ok (.isub, 1) := by decide +kernel
theorem dL_isEngine_660 : decode cL_isEngine 660 = .ok (.bipush 60, 2) := by decide +kernel
theorem dL_isEngine_662 : decode cL_isEngine 662 = .ok (.irem, 1) := by decide +kernel
theorem dL_isEngine_663 : decode cL_isEngine 663 = .ok (.iaload, 1) := by decide +kernel
theorem dL_isEngine_664 : decode cL_isEngine 664 = .ok (.istore 15, 2) := by decide +kernel
theorem dL_isEngine_666 : decode cL_isEngine 666 = .ok (.iload 15, 2) := by decide +kernel
theorem dL_isEngine_668 : decode cL_isEngine 668 = .ok (.sipush 1000, 3) := by decide +kernel
theorem dL_isEngine_671 : decode cL_isEngine 671 = .ok (.idiv, 1) := by decide +kernel
theorem dL_isEngine_672 : decode cL_isEngine 672 = .ok (.iload 11, 2) := by decide +kernel
theorem dL_isEngine_674 : decode cL_isEngine 674 = .ok (.if_icmp .gt 24, 3) := by decide +kernel
theorem dL_isEngine_677 : decode cL_isEngine 677 = .ok (.iload 15, 2) := by decide +kernel
theorem dL_isEngine_679 : decode cL_isEngine 679 = .ok (.bipush 10, 2) := by decide +kernel
theorem dL_isEngine_681 : decode cL_isEngine 681 = .ok (.idiv, 1) := by decide +kernel
theorem dL_isEngine_682 : decode cL_isEngine 682 = .ok (.bipush 100, 2) := by decide +kernel
theorem dL_isEngine_684 : decode cL_isEngine 684 = .ok (.irem, 1) := by decide +kernel
theorem dL_isEngine_685 : decode cL_isEngine 685 = .ok (.iload 12, 2) := by decide +kernel
theorem dL_isEngine_687 : decode cL_isEngine 687 = .ok (.if_icmp .ne 11, 3) := by decide +kernel
theorem dL_isEngine_690 : decode cL_isEngine 690 = .ok (.iload 15, 2) := by decide +kernel
theorem dL_isEngine_692 : decode cL_isEngine 692 = .ok (.bipush 10, 2) := by decide +kernel
theorem dL_isEngine_694 : decode cL_isEngine 694 = .ok (.irem, 1) := by decide +kernel
theorem dL_isEngine_695 : decode cL_isEngine 695 = .ok (.goto 5, 3) := by decide +kernel
theorem dL_isEngine_698 : decode cL_isEngine 698 = .ok (.iload 13, 2) := by decide +kernel
theorem dL_isEngine_700 : decode cL_isEngine 700 = .ok (.istore 13, 2) := by decide +kernel
theorem dL_isEngine_702 : decode cL_isEngine 702 = .ok (.iinc 14 1, 3) := by decide +kernel
theorem dL_isEngine_705 : decode cL_isEngine 705 = .ok (.goto (-77), 3) := by decide +kernel
theorem dL_isEngine_708 : decode cL_isEngine 708 = .ok (.iload 13, 2) := by decide +kernel
theorem dL_isEngine_710 : decode cL_isEngine 710 = .ok (.ifCond .ge 32, 3) := by decide +kernel
theorem dL_isEngine_713 : decode cL_isEngine 713 = .ok (.aload_n 1, 1) := by decide +kernel
theorem dL_isEngine_714 : decode cL_isEngine 714 = .ok (.bipush 8, 2) := by decide +kernel
theorem dL_isEngine_716 : decode cL_isEngine 716 = .ok (.iaload, 1) := by decide +kernel
theorem dL_isEngine_717 : decode cL_isEngine 717 = .ok (.bipush 60, 2) := by decide +kernel
theorem dL_isEngine_719 : decode cL_isEngine 719 = .ok (.if_icmp .gt 15, 3) := by decide +kernel
theorem dL_isEngine_722 : decode cL_isEngine 722 = .ok (.aload_n 0, 1) := by decide +kernel
theorem dL_isEngine_723 : decode cL_isEngine 723 = .ok (.iload 12, 2) := by decide +kernel
theorem dL_isEngine_725 : decode cL_isEngine 725 = .ok (.iload 11, 2) := by decide +kernel
theorem dL_isEngine_727 : decode cL_isEngine 727 = .ok (.invokevirtual 97, 3) := by decide +kernel
theorem dL_isEngine_730 : decode cL_isEngine 730 = .ok (.iconst (-1), 1) := by decide +kernel
theorem dL_isEngine_731 : decode cL_isEngine 731 = .ok (.if_icmp .ne 7, 3) := by decide +kernel
theorem dL_isEngine_734 : decode cL_isEngine 734 = .ok (.iconst 1, 1) := by decide +kernel
theorem dL_isEngine_735 : decode cL_isEngine 735 = .ok (.goto 25, 3) := by decide +kernel
theorem dL_isEngine_738 : decode cL_isEngine 738 = .ok (.iconst 0, 1) := by decide +kernel
theorem dL_isEngine_739 : decode cL_isEngine 739 = .ok (.goto 21, 3) := by decide +kernel
theorem dL_isEngine_742 : decode cL_isEngine 742 = .ok (.aload_n 0, 1) := by decide +kernel
theorem dL_isEngine_743 : decode cL_isEngine 743 = .ok (.iload 12, 2) := by decide +kernel
theorem dL_isEngine_745 : decode cL_isEngine 745 = .ok (.iload 11, 2) := by decide +kernel
theorem dL_isEngine_747 : decode cL_isEngine 747 = .ok (.invokevirtual 97, 3) := by decide +kernel
theorem dL_isEngine_750 : decode cL_isEngine 750 = .ok (.iload 13, 2) := by decide +kernel
theorem dL_isEngine_752 : decode cL_isEngine 752 = .ok (.if_icmp .ne 7, 3) := by decide +kernel
theorem dL_isEngine_755 : decode cL_isEngine 755 = .ok (.iconst 1, 1) := by decide +kernel
theorem dL_isEngine_756 : decode cL_isEngine 756 = .ok (.goto 4, 3) := by decide +kernel
theorem dL_isEngine_759 : decode cL_isEngine 759 = .ok (.iconst 0, 1) := by decide +kernel
theorem dL_isEngine_760 : decode cL_isEngine 760 = .ok (.istore 10, 2) := by decide +kernel
theorem dL_isEngine_762 : decode cL_isEngine 762 = .ok (.iinc 12 1, 3) := by decide +kernel
theorem dL_isEngine_765 : decode cL_isEngine 765 = .ok (.goto (-157), 3) := by decide +kernel
theorem dL_isEngine_768 : decode cL_isEngine 768 = .ok (.iload 10, 2) := by decide +kernel
theorem dL_isEngine_770 : decode cL_isEngine 770 = .ok (.ifCond .eq 16, 3) := by decide +kernel
theorem dL_isEngine_773 : decode cL_isEngine 773 = .ok (.aload_n 0, 1) := by decide +kernel
theorem dL_isEngine_774 : decode cL_isEngine 774 = .ok (.invokevirtual 100, 3) := by decide +kernel
theorem dL_isEngine_777 : decode cL_isEngine 777 = .ok (.iload 9, 2) := by decide +kernel
theorem dL_isEngine_779 : decode cL_isEngine 779 = .ok (.if_icmp .ne 7, 3) := by decide +kernel
theorem dL_isEngine_782 : decode cL_isEngine 782 = .ok (.iconst 1, 1) := by decide +kernel
theorem dL_isEngine_783 : decode cL_isEngine 783 = .ok (.goto 4, 3) := by decide +kernel
theorem dL_isEngine_786 : decode cL_isEngine 786 = .ok (.iconst 0, 1) := by decide +kernel
theorem dL_isEngine_787 : decode cL_isEngine 787 = .ok (.ireturn, 1) := by decide +kernel
theorem dL_law_0 : decode cL_law 0 = .ok (.new 26, 3) := by decide +kernel
theorem dL_law_3 : decode cL_law 3 = .ok (.dup, 1) := by decide +kernel
theorem dL_law_4 : decode cL_law 4 = .ok (.invokespecial 103, 3) := by decide +kernel
theorem dL_law_7 : decode cL_law 7 = .ok (.astore_n 1, 1) := by decide +kernel
theorem dL_law_8 : decode cL_law 8 = .ok (.bipush 9, 2) := by decide +kernel
theorem dL_law_10 : decode cL_law 10 = .ok (.newarray .int, 2) := by decide +kernel
theorem dL_law_12 : decode cL_law 12 = .ok (.astore_n 2, 1) := by decide +kernel
theorem dL_law_13 : decode cL_law 13 = .ok (.bipush 64, 2) := by decide +kernel
theorem dL_law_15 : decode cL_law 15 = .ok (.newarray .int, 2) := by decide +kernel
theorem dL_law_17 : decode cL_law 17 = .ok (.astore_n 3, 1) := by decide +kernel
theorem dL_law_18 : decode cL_law 18 = .ok (.bipush 30, 2) := by decide +kernel
theorem dL_law_20 : decode cL_law 20 = .ok (.newarray .int, 2) := by decide +kernel
theorem dL_law_22 : decode cL_law 22 = .ok (.astore 4, 2) := by decide +kernel
theorem dL_law_24 : decode cL_law 24 = .ok (.iconst 5, 1) := by decide +kernel
theorem dL_law_25 : decode cL_law 25 = .ok (.newarray .int, 2) := by decide +kernel
theorem dL_law_27 : decode cL_law 27 = .ok (.astore 5, 2) := by decide +kernel
theorem dL_law_29 : decode cL_law 29 = .ok (.bipush 36, 2) := by decide +kernel
theorem dL_law_31 : decode cL_law 31 = .ok (.newarray .int, 2) := by decide +kernel
theorem dL_law_33 : decode cL_law 33 = .ok (.astore 6, 2) := by decide +kernel
theorem dL_law_35 : decode cL_law 35 = .ok (.bipush 48, 2) := by decide +kernel
theorem dL_law_37 : decode cL_law 37 = .ok (.newarray .int, 2) := by decide +kernel
theorem dL_law_39 : decode cL_law 39 = .ok (.astore 7, 2) := by decide +kernel
theorem dL_law_41 : decode cL_law 41 = .ok (.bipush 60, 2) := by decide +kernel
theorem dL_law_43 : decode cL_law 43 = .ok (.newarray .int, 2) := by decide +kernel
theorem dL_law_45 : decode cL_law 45 = .ok (.astore 8, 2) := by decide +kernel
theorem dL_law_47 : decode cL_law 47 = .ok (.bipush 36, 2) := by decide +kernel
theorem dL_law_49 : decode cL_law 49 = .ok (.newarray .int, 2) := by decide +kernel
theorem dL_law_51 : decode cL_law 51 = .ok (.astore 9, 2) := by decide +kernel
theorem dL_law_53 : decode cL_law 53 = .ok (.bipush 60, 2) := by decide +kernel
theorem dL_law_55 : decode cL_law 55 = .ok (.newarray .int, 2) := by decide +kernel
theorem dL_law_57 : decode cL_law 57 = .ok (.astore 10, 2) := by decide +kernel
theorem dL_law_59 : decode cL_law 59 = .ok (.aload_n 2, 1) := by decide +kernel
theorem dL_law_60 : decode cL_law 60 = .ok (.iconst 1, 1) := by decide +kernel
theorem dL_law_61 : decode cL_law 61 = .ok (.bipush 31, 2) := by decide +kernel
theorem dL_law_63 : decode cL_law 63 = .ok (.iastore, 1) := by decide +kernel
theorem dL_law_64 : decode cL_law 64 = .ok (.aload_n 2, 1) := by decide +kernel
theorem dL_law_65 : decode cL_law 65 = .ok (.iconst 3, 1) := by decide +kernel
theorem dL_law_66 : decode cL_law 66 = .ok (.bipush 10, 2) := by decide +kernel
theorem dL_law_68 : decode cL_law 68 = .ok (.iastore, 1) := by decide +kernel
theorem dL_law_69 : decode cL_law 69 = .ok (.aload_n 2, 1) := by decide +kernel
theorem dL_law_70 : decode cL_law 70 = .ok (.iconst 4, 1) := by decide +kernel
theorem dL_law_71 : decode cL_law 71 = .ok (.bipush 30, 2) := by decide +kernel
theorem dL_law_73 : decode cL_law 73 = .ok (.iastore, 1) := by decide +kernel
theorem dL_law_74 : decode cL_law 74 = .ok (.iconst 0, 1) := by decide +kernel
theorem dL_law_75 : decode cL_law 75 = .ok (.istore 11, 2) := by decide +kernel
theorem dL_law_77 : decode cL_law 77 = .ok (.iload 11, 2) := by decide +kernel
theorem dL_law_79 : decode cL_law 79 = .ok (.iconst 4, 1) := by decide +kernel
theorem dL_law_80 : decode cL_law 80 = .ok (.if_icmp .ge 42, 3) := by decide +kernel
theorem dL_law_83 : decode cL_law 83 = .ok (.aload 4, 2) := by decide +kernel
theorem dL_law_85 : decode cL_law 85 = .ok (.bipush 6, 2) := by decide +kernel
theorem dL_law_87 : decode cL_law 87 = .ok (.iload 11, 2) := by decide +kernel
theorem dL_law_89 : decode cL_law 89 = .ok (.iadd, 1) := by decide +kernel
theorem dL_law_90 : decode cL_law 90 = .ok (.iconst 3, 1) := by decide +kernel
theorem dL_law_91 : decode cL_law 91 = .ok (.iconst 2, 1) := by decide +kernel
theorem dL_law_92 : decode cL_law 92 = .ok (.iload 11, 2) := by decide +kernel
theorem dL_law_94 : decode cL_law 94 = .ok (.imul, 1) := by decide +kernel
theorem dL_law_95 : decode cL_law 95 = .ok (.iadd, 1) := by decide +kernel
theorem dL_law_96 : decode cL_law 96 = .ok (.iastore, 1) := by decide +kernel
theorem dL_law_97 : decode cL_law 97 = .ok (.aload 4, 2) := by decide +kernel
theorem dL_law_99 : decode cL_law 99 = .ok (.bipush 12, 2) := by decide +kernel
theorem dL_law_101 : decode cL_law 101 = .ok (.iload 11, 2) := by decide +kernel
theorem dL_law_103 : decode cL_law 103 = .ok (.iadd, 1) := by decide +kernel
theorem dL_law_104 : decode cL_law 104 = .ok (.bipush 7, 2) := by decide +kernel
theorem dL_law_106 : decode cL_law 106 = .ok (.iastore, 1) := by decide +kernel
theorem dL_law_107 : decode cL_law 107 = .ok (.aload 4, 2) := by decide +kernel
theorem dL_law_109 : decode cL_law 109 = .ok (.bipush 24, 2) := by decide +kernel
theorem dL_law_111 : decode cL_law 111 = .ok (.iload 11, 2) := by decide +kernel
theorem dL_law_113 : decode cL_law 113 = .ok (.iadd, 1) := by decide +kernel
theorem dL_law_114 : decode cL_law 114 = .ok (.iconst 1, 1) := by decide +kernel
theorem dL_law_115 : decode cL_law 115 = .ok (.iastore, 1) := by decide +kernel
theorem dL_law_116 : decode cL_law 116 = .ok (.iinc 11 1, 3) := by decide +kernel
theorem dL_law_119 : decode cL_law 119 = .ok (.goto (-42), 3) := by decide +kernel
theorem dL_law_122 : decode cL_law 122 = .ok (.aload 5, 2) := by decide +kernel
theorem dL_law_124 : decode cL_law 124 = .ok (.iconst 1, 1) := by decide +kernel
theorem dL_law_125 : decode cL_law 125 = .ok (.iconst 3, 1) := by decide +kernel
theorem dL_law_126 : decode cL_law 126 = .ok (.iastore, 1) := by decide +kernel
theorem dL_law_127 : decode cL_law 127 = .ok (.aload 5, 2) := by decide +kernel
theorem dL_law_129 : decode cL_law 129 = .ok (.iconst 2, 1) := by decide +kernel
theorem dL_law_130 : decode cL_law 130 = .ok (.iconst 2, 1) := by decide +kernel
theorem dL_law_131 : decode cL_law 131 = .ok (.iastore, 1) := by decide +kernel
theorem dL_law_132 : decode cL_law 132 = .ok (.aload 5, 2) := by decide +kernel
theorem dL_law_134 : decode cL_law 134 = .ok (.iconst 4, 1) := by decide +kernel
theorem dL_law_135 : decode cL_law 135 = .ok (.iconst 4, 1) := by decide +kernel
theorem dL_law_136 : decode cL_law 136 = .ok (.iastore, 1) := by decide +kernel
theorem dL_law_137 : decode cL_law 137 = .ok (.aload_n 1, 1) := by decide +kernel
theorem dL_law_138 : decode cL_law 138 = .ok (.aload_n 2, 1) := by decide +kernel
theorem dL_law_139 : decode cL_law 139 = .ok (.aload_n 3, 1) := by decide +kernel
theorem dL_law_140 : decode cL_law 140 = .ok (.aload 6, 2) := by decide +kernel
theorem dL_law_142 : decode cL_law 142 = .ok (.aload 7, 2) := by decide +kernel
theorem dL_law_144 : decode cL_law 144 = .ok (.aload 8, 2) := by decide +kernel
theorem dL_law_146 : decode cL_law 146 = .ok (.aload 9, 2) := by decide +kernel
theorem dL_law_148 : decode cL_law 148 = .ok (.aload 10, 2) := by decide +kernel
theorem dL_law_150 : decode cL_law 150 = .ok (.iconst 0, 1) := by decide +kernel
theorem dL_law_151 : decode cL_law 151 = .ok (.invokestatic 104, 3) := by decide +kernel
theorem dL_law_154 : decode cL_law 154 = .ok (.istore 11, 2) := by decide +kernel
theorem dL_law_156 : decode cL_law 156 = .ok (.iconst 0, 1) := by decide +kernel
theorem dL_law_157 : decode cL_law 157 = .ok (.istore 12, 2) := by decide +kernel
theorem dL_law_159 : decode cL_law 159 = .ok (.iload 12, 2) := by decide +kernel
theorem dL_law_161 : decode cL_law 161 = .ok (.bipush 110, 2) := by decide +kernel
theorem dL_law_163 : decode cL_law 163 = .ok (.if_icmp .ge 1301, 3) := by decide +kernel
theorem dL_law_166 : decode cL_law 166 = .ok (.iload 11, 2) := by decide +kernel
theorem dL_law_168 : decode cL_law 168 = .ok (.ifCond .eq 1296, 3) := by decide +kernel
theorem dL_law_171 : decode cL_law 171 = .ok (.iload 12, 2) := by decide +kernel
theorem dL_law_173 : decode cL_law 173 = .ok (.aload_n 0, 1) := by decide +kernel
theorem dL_law_174 : decode cL_law 174 = .ok (.arraylength, 1) := by decide +kernel
theorem dL_law_175 : decode cL_law 175 = .ok (.if_icmp .ge 13, 3) := by decide +kernel
theorem dL_law_178 : decode cL_law 178 = .ok (.aload_n 0, 1) := by decide +kernel
theorem dL_law_179 : decode cL_law 179 = .ok (.iload 12, 2) := by decide +kernel
theorem dL_law_181 : decode cL_law 181 = .ok (.iaload, 1) := by decide +kernel
theorem dL_law_182 : decode cL_law 182 = .ok (.ldc 108, 2) := by decide +kernel
theorem dL_law_184 : decode cL_law 184 = .ok (.iand, 1) := by decide +kernel
theorem dL_law_185 : decode cL_law 185 = .ok (.goto 25, 3) := by decide +kernel
theorem dL_law_188 : decode cL_law 188 = .ok (.sipush 31013, 3) := by decide +kernel
theorem dL_law_191 : decode cL_law 191 = .ok (.iload 12, 2) := by decide +kernel
theorem dL_law_193 : decode cL_law 193 = .ok (.imul, 1) := by decide +kernel
theorem dL_law_194 : decode cL_law 194 = .ok (.iload 12, 2) := by decide +kernel
theorem dL_law_196 : decode cL_law 196 = .ok (.imul, 1) := by decide +kernel
theorem dL_law_197 : decode cL_law 197 = .ok (.sipush 7013, 3) := by decide +kernel
theorem dL_law_200 : decode cL_law 200 = .ok (.iload 12, 2) := by decide +kernel
theorem dL_law_202 : decode cL_law 202 = .ok (.imul, 1) := by decide +kernel
theorem dL_law_203 : decode cL_law 203 = .ok (.iadd, 1) := by decide +kernel
theorem dL_law_204 : decode cL_law 204 = .ok (.bipush 37, 2) := by decide +kernel
theorem dL_law_206 : decode cL_law 206 = .ok (.iadd, 1) := by decide +kernel
theorem dL_law_207 : decode cL_law 207 = .ok (.ldc 108, 2) := by decide +kernel
theorem dL_law_209 : decode cL_law 209 = .ok (.iand, 1) := by decide +kernel
theorem dL_law_210 : decode cL_law 210 = .ok (.istore 13, 2) := by decide +kernel
theorem dL_law_212 : decode cL_law 212 = .ok (.iload 12, 2) := by decide +kernel
theorem dL_law_214 : decode cL_law 214 = .ok (.iconst 2, 1) := by decide +kernel
theorem dL_law_215 : decode cL_law 215 = .ok (.if_icmp .ge 7, 3) := by decide +kernel
theorem dL_law_218 : decode cL_law 218 = .ok (.iconst 0, 1) := by decide +kernel
theorem dL_law_219 : decode cL_law 219 = .ok (.goto 8, 3) := by decide +kernel
theorem dL_law_222 : decode cL_law 222 = .ok (.iload 13, 2) := by decide +kernel
theorem dL_law_224 : decode cL_law 224 = .ok (.bipush 17, 2) := by decide +kernel
theorem dL_law_226 : decode cL_law 226 = .ok (.irem, 1) := by decide +kernel
theorem dL_law_227 : decode cL_law 227 = .ok (.istore 14, 2) := by decide +kernel
theorem dL_law_229 : decode cL_law 229 = .ok (.iload 13, 2) := by decide +kernel
theorem dL_law_231 : decode cL_law 231 = .ok (.bipush 17, 2) := by decide +kernel
theorem dL_law_233 : decode cL_law 233 = .ok (.idiv, 1) := by decide +kernel
theorem dL_law_234 : decode cL_law 234 = .ok (.istore 15, 2) := by decide +kernel
theorem dL_law_236 : decode cL_law 236 = .ok (.aload_n 2, 1) := by decide +kernel
theorem dL_law_237 : decode cL_law 237 = .ok (.iconst 2, 1) := by decide +kernel
theorem dL_law_238 : decode cL_law 238 = .ok (.iaload, 1) := by decide +kernel
theorem dL_law_239 : decode cL_law 239 = .ok (.ifCond .ne 7, 3) := by decide +kernel
theorem dL_law_242 : decode cL_law 242 = .ok (.iconst 0, 1) := by decide +kernel
theorem dL_law_243 : decode cL_law 243 = .ok (.goto 9, 3) := by decide +kernel
theorem dL_law_246 : decode cL_law 246 = .ok (.iload 15, 2) := by decide +kernel
theorem dL_law_248 : decode cL_law 248 = .ok (.aload_n 2, 1) := by decide +kernel
theorem dL_law_249 : decode cL_law 249 = .ok (.iconst 2, 1) := by decide +kernel
theorem dL_law_250 : decode cL_law 250 = .ok (.iaload, 1) := by decide +kernel
theorem dL_law_251 : decode cL_law 251 = .ok (.irem, 1) := by decide +kernel
theorem dL_law_252 : decode cL_law 252 = .ok (.istore 16, 2) := by decide +kernel
theorem dL_law_254 : decode cL_law 254 = .ok (.iload 14, 2) := by decide +kernel
theorem dL_law_256 : decode cL_law 256 = .ok (.iconst 2, 1) := by decide +kernel
theorem dL_law_257 : decode cL_law 257 = .ok (.if_icmp .ge 132, 3) := by decide +kernel
theorem dL_law_260 : decode cL_law 260 = .ok (.aload_n 2, 1) := by decide +kernel
theorem dL_law_261 : decode cL_law 261 = .ok (.iconst 2, 1) := by decide +kernel
theorem dL_law_262 : decode cL_law 262 = .ok (.iaload, 1) := by decide +kernel
theorem dL_law_263 : decode cL_law 263 = .ok (.bipush 12, 2) := by decide +kernel
theorem dL_law_265 : decode cL_law 265 = .ok (.if_icmp .ge 124, 3) := by decide +kernel
theorem dL_law_268 : decode cL_law 268 = .ok (.aload_n 2, 1) := by decide +kernel
theorem dL_law_269 : decode cL_law 269 = .ok (.iconst 2, 1) := by decide +kernel
theorem dL_law_270 : decode cL_law 270 = .ok (.iaload, 1) := by decide +kernel
theorem dL_law_271 : decode cL_law 271 = .ok (.istore 17, 2) := by decide +kernel
theorem dL_law_273 : decode cL_law 273 = .ok (.aload 6, 2) := by decide +kernel
theorem dL_law_275 : decode cL_law 275 = .ok (.iload 17, 2) := by decide +kernel
theorem dL_law_277 : decode cL_law 277 = .ok (.iload 15, 2) := by decide +kernel
theorem dL_law_279 : decode cL_law 279 = .ok (.bipush 8, 2) := by decide +kernel
theorem dL_law_281 : decode cL_law 281 = .ok (.irem, 1) := by decide +kernel
theorem dL_law_282 : decode cL_law 282 = .ok (.iastore, 1) := by decide +kernel
theorem dL_law_283 : decode cL_law 283 = .ok (.aload 6, 2) := by decide +kernel
theorem dL_law_285 : decode cL_law 285 = .ok (.bipush 12, 2) := by decide +kernel
theorem dL_law_287 : decode cL_law 287 = .ok (.iload 17, 2) := by decide +kernel
theorem dL_law_289 : decode cL_law 289 = .ok (.iadd, 1) := by decide +kernel
theorem dL_law_290 : decode cL_law 290 = .ok (.iconst 1, 1) := by decide +kernel
theorem dL_law_291 : decode cL_law 291 = .ok (.iload 15, 2) := by decide +kernel
theorem dL_law_293 : decode cL_law 293 = .ok (.bipush 8, 2) := by decide +kernel
theorem dL_law_295 : decode cL_law 295 = .ok (.idiv, 1) := by decide +kernel
theorem dL_law_296 : decode cL_law 296 = .ok (.sipush 9999, 3) := by decide +kernel
theorem dL_law_299 : decode cL_law 299 = .ok (.irem, 1) := by decide +kernel
theorem dL_law_300 : decode cL_law 300 = .ok (.iadd, 1) := by decide +kernel
theorem dL_law_301 : decode cL_law 301 = .ok (.iastore, 1) := by decide +kernel
theorem dL_law_302 : decode cL_law 302 = .ok (.aload 6, 2) := by decide +kernel
theorem dL_law_304 : decode cL_law 304 = .ok (.bipush 24, 2) := by decide +kernel
theorem dL_law_306 : decode cL_law 306 = .ok (.iload 17, 2) := by decide +kernel
theorem dL_law_308 : decode cL_law 308 = .ok (.iadd, 1) := by decide +kernel
theorem dL_law_309 : decode cL_law 309 = .ok (.aload 6, 2) := by decide +kernel
theorem dL_law_311 : decode cL_law 311 = .ok (.bipush 12, 2) := by decide +kernel
theorem dL_law_313 : decode cL_law 313 = .ok (.iload 17, 2) := by decide +kernel
theorem dL_law_315 : decode cL_law 315 = .ok (.iadd, 1) := by decide +kernel
theorem dL_law_316 : decode cL_law 316 = .ok (.iaload, 1) := by decide +kernel
theorem dL_law_317 : decode cL_law 317 = .ok (.iastore, 1) := by decide +kernel
theorem dL_law_318 : decode cL_law 318 = .ok (.aload 7, 2) := by decide +kernel
theorem dL_law_320 : decode cL_law 320 = .ok (.bipush 12, 2) := by decide +kernel
theorem dL_law_322 : decode cL_law 322 = .ok (.iload 17, 2) := by decide +kernel
theorem dL_law_324 : decode cL_law 324 = .ok (.iadd, 1) := by decide +kernel
theorem dL_law_325 : decode cL_law 325 = .ok (.aload_n 2, 1) := by decide +kernel
theorem dL_law_326 : decode cL_law 326 = .ok (.aload_n 3, 1) := by decide +kernel
theorem dL_law_327 : decode cL_law 327 = .ok (.aload_n 2, 1) := by decide +kernel
theorem dL_law_328 : decode cL_law 328 = .ok (.iconst 0, 1) := by decide +kernel
theorem dL_law_329 : decode cL_law 329 = .ok (.iaload, 1) := by decide +kernel
theorem dL_law_330 : decode cL_law 330 = .ok (.iconst 1, 1) := by decide +kernel
theorem dL_law_331 : decode cL_law 331 = .ok (.iadd, 1) := by decide +kernel
theorem dL_law_332 : decode cL_law 332 = .ok (.invokestatic 13, 3) := by decide +kernel
theorem dL_law_335 : decode cL_law 335 = .ok (.iastore, 1) := by decide +kernel
theorem dL_law_336 : decode cL_law 336 = .ok (.aload_n 2, 1) := by decide +kernel
theorem dL_law_337 : decode cL_law 337 = .ok (.iconst 2, 1) := by decide +kernel
theorem dL_law_338 : decode cL_law 338 = .ok (.dup2, 1) := by decide +kernel
theorem dL_law_339 : decode cL_law 339 = .ok (.iaload, 1) := by decide +kernel
theorem dL_law_340 : decode cL_law 340 = .ok (.iconst 1, 1) := by decide +kernel
theorem dL_law_341 : decode cL_law 341 = .ok (.iadd, 1) := by decide +kernel
theorem dL_law_342 : decode cL_law 342 = .ok (.iastore, 1) := by decide +kernel
theorem dL_law_343 : decode cL_law 343 = .ok (.aload_n 2, 1) := by decide +kernel
theorem dL_law_344 : decode cL_law 344 = .ok (.aload 7, 2) := by decide +kernel
theorem dL_law_346 : decode cL_law 346 = .ok (.aload 10, 2) := by decide +kernel
theorem dL_law_348 : decode cL_law 348 = .ok (.iload 17, 2) := by decide +kernel
theorem dL_law_350 : decode cL_law 350 = .ok (.iconst 0, 1) := by decide +kernel
theorem dL_law_351 : decode cL_law 351 = .ok (.invokestatic 17, 3) := by decide +kernel
theorem dL_law_354 : decode cL_law 354 = .ok (.aload_n 1, 1) := by decide +kernel
theorem dL_law_355 : decode cL_law 355 = .ok (.iload 15, 2) := by decide +kernel
theorem dL_law_357 : decode cL_law 357 = .ok (.bipush 8, 2) := by decide +kernel
theorem dL_law_359 : decode cL_law 359 = .ok (.irem, 1) := by decide +kernel
theorem dL_law_360 : decode cL_law 360 = .ok (.iconst 1, 1) := by decide +kernel
theorem dL_law_361 : decode cL_law 361 = .ok (.iload 15, 2) := by decide +kernel
theorem dL_law_363 : decode cL_law 363 = .ok (.bipush 8, 2) := by decide +kernel
theorem dL_law_365 : decode cL_law 365 = .ok (.idiv, 1) := by decide +kernel
theorem dL_law_366 : decode cL_law 366 = .ok (.sipush 9999, 3) := by decide +kernel
theorem dL_law_369 : decode cL_law 369 = .ok (.irem, 1) := by decide +kernel
theorem dL_law_370 : decode cL_law 370 = .ok (.iadd, 1) := by decide +kernel
theorem dL_law_371 : decode cL_law 371 = .ok (.invokevirtual 109, 3) := by decide +kernel
theorem dL_law_374 : decode cL_law 374 = .ok (.iload 17, 2) := by decide +kernel
theorem dL_law_376 : decode cL_law 376 = .ok (.if_icmp .ne 7, 3) := by decide +kernel
theorem dL_law_379 : decode cL_law 379 = .ok (.iconst 1, 1) := by decide +kernel
theorem dL_law_380 : decode cL_law 380 = .ok (.goto 4, 3) := by decide +kernel
theorem dL_law_383 : decode cL_law 383 = .ok (.iconst 0, 1) := by decide +kernel
theorem dL_law_384 : decode cL_law 384 = .ok (.istore 11, 2) := by decide +kernel
theorem dL_law_386 : decode cL_law 386 = .ok (.goto 1039, 3) := by decide +kernel
theorem dL_law_389 : decode cL_law 389 = .ok (.iload 14, 2) := by decide +kernel
theorem dL_law_391 : decode cL_law 391 = .ok (.bipush 6, 2) := by decide +kernel
theorem dL_law_393 : decode cL_law 393 = .ok (.if_icmp .ge 180, 3) := by decide +kernel
theorem dL_law_396 : decode cL_law 396 = .ok (.aload_n 2, 1) := by decide +kernel
theorem dL_law_397 : decode cL_law 397 = .ok (.iconst 2, 1) := by decide +kernel
theorem dL_law_398 : decode cL_law 398 = .ok (.iaload, 1) := by decide +kernel
theorem dL_law_399 : decode cL_law 399 = .ok (.ifCond .le 174, 3) := by decide +kernel
theorem dL_law_402 : decode cL_law 402 = .ok (.iconst 0, 1) := by decide +kernel
theorem dL_law_403 : decode cL_law 403 = .ok (.istore 17, 2) := by decide +kernel
theorem dL_law_405 : decode cL_law 405 = .ok (.iload 17, 2) := by decide +kernel
theorem dL_law_407 : decode cL_law 407 = .ok (.aload_n 2, 1) := by decide +kernel
theorem dL_law_408 : decode cL_law 408 = .ok (.iconst 2, 1) := by decide +kernel
theorem dL_law_409 : decode cL_law 409 = .ok (.iaload, 1) := by decide +kernel
theorem dL_law_410 : decode cL_law 410 = .ok (.if_icmp .ge 35, 3) := by decide +kernel
theorem dL_law_413 : decode cL_law 413 = .ok (.iload 15, 2) := by decide +kernel
theorem dL_law_415 : decode cL_law 415 = .ok (.iconst 5, 1) := by decide +kernel
theorem dL_law_416 : decode cL_law 416 = .ok (.irem, 1) := by decide +kernel
theorem dL_law_417 : decode cL_law 417 = .ok (.ifCond .le 28, 3) := by decide +kernel
theorem dL_law_420 : decode cL_law 420 = .ok (.aload 7, 2) := by decide +kernel
theorem dL_law_422 : decode cL_law 422 = .ok (.iload 16, 2) := by decide +kernel
theorem dL_law_424 : decode cL_law 424 = .ok (.iaload, 1) := by decide +kernel
theorem dL_law_425 : decode cL_law 425 = .ok (.iconst 1, 1) := by decide +kernel
theorem dL_law_426 : decode cL_law 426 = .ok (.if_icmp .eq 19, 3) := by decide +kernel
theorem dL_law_429 : decode cL_law 429 = .ok (.iload 16, 2) := by decide +kernel
theorem dL_law_431 : decode cL_law 431 = .ok (.iconst 1, 1) := by decide +kernel
theorem dL_law_432 : decode cL_law 432 = .ok (.iadd, 1) := by decide +kernel
theorem dL_law_433 : decode cL_law 433 = .ok (.aload_n 2, 1) := by decide +kernel
theorem dL_law_434 : decode cL_law 434 = .ok (.iconst 2, 1) := by decide +kernel
theorem dL_law_435 : decode cL_law 435 = .ok (.iaload, 1) := by decide +kernel
theorem dL_law_436 : decode cL_law 436 = .ok (.irem, 1) := by decide +kernel
theorem dL_law_437 : decode cL_law 437 = .ok (.istore 16, 2) := by decide +kernel
theorem dL_law_439 : decode cL_law 439 = .ok (.iinc 17 1, 3) := by decide +kernel
theorem dL_law_442 : decode cL_law 442 = .ok (.goto (-37), 3) := by decide +kernel
theorem dL_law_445 : decode cL_law 445 = .ok (.iload 15, 2) := by decide +kernel
theorem dL_law_447 : decode cL_law 447 = .ok (.bipush 60, 2) := by decide +kernel
theorem dL_law_449 : decode cL_law 449 = .ok (.idiv, 1) := by decide +kernel
theorem dL_law_450 : decode cL_law 450 = .ok (.iconst 5, 1) := by decide +kernel
theorem dL_law_451 : decode cL_law 451 = .ok (.irem, 1) := by decide +kernel
theorem dL_law_452 : decode cL_law 452 = .ok (.istore 17, 2) := by decide +kernel
theorem dL_law_454 : decode cL_law 454 = .ok (.bipush (-13), 2) := by decide +kernel
theorem dL_law_456 : decode cL_law 456 = .ok (.istore 18, 2) := by decide +kernel
theorem dL_law_458 : decode cL_law 458 = .ok (.aload 7, 2) := by decide +kernel
theorem dL_law_460 : decode cL_law 460 = .ok (.iload 16, 2) := by decide +kernel
theorem dL_law_462 : decode cL_law 462 = .ok (.iaload, 1) := by decide +kernel
theorem dL_law_463 : decode cL_law 463 = .ok (.iconst 1, 1) := by decide +kernel
theorem dL_law_464 : decode cL_law 464 = .ok (.if_icmp .ne 50, 3) := by decide +kernel
theorem dL_law_467 : decode cL_law 467 = .ok (.iload 17, 2) := by decide +kernel
theorem dL_law_469 : decode cL_law 469 = .ok (.ifCond .ne 45, 3) := by decide +kernel
theorem dL_law_472 : decode cL_law 472 = .ok (.aload_n 2, 1) := by decide +kernel
theorem dL_law_473 : decode cL_law 473 = .ok (.iconst 5, 1) := by decide +kernel
theorem dL_law_474 : decode cL_law 474 = .ok (.dup2, 1) := by decide +kernel
theorem dL_law_475 : decode cL_law 475 = .ok (.iaload, 1) := by decide +kernel
theorem dL_law_476 : decode cL_law 476 = .ok (.aload 6, 2) := by decide +kernel
theorem dL_law_478 : decode cL_law 478 = .ok (.bipush 24, 2) := by decide +kernel
theorem dL_law_480 : decode cL_law 480 = .ok (.iload 16, 2) := by decide +kernel
theorem dL_law_482 : decode cL_law 482 = .ok (.iadd, 1) := by decide +kernel
theorem dL_law_483 : decode cL_law 483 = .ok (.iaload, 1) := by decide +kernel
theorem dL_law_484 : decode cL_law 484 = .ok (.iadd, 1) := by decide +kernel
theorem dL_law_485 : decode cL_law 485 = .ok (.iastore, 1) := by decide +kernel
theorem dL_law_486 : decode cL_law 486 = .ok (.aload 6, 2) := by decide +kernel
theorem dL_law_488 : decode cL_law 488 = .ok (.bipush 24, 2) := by decide +kernel
theorem dL_law_490 : decode cL_law 490 = .ok (.iload 16, 2) := by decide +kernel
theorem dL_law_492 : decode cL_law 492 = .ok (.iadd, 1) := by decide +kernel
theorem dL_law_493 : decode cL_law 493 = .ok (.iconst 0, 1) := by decide +kernel
theorem dL_law_494 : decode cL_law 494 = .ok (.iastore, 1) := by decide +kernel
theorem dL_law_495 : decode cL_law 495 = .ok (.aload_n 2, 1) := by decide +kernel
theorem dL_law_496 : decode cL_law 496 = .ok (.aload 7, 2) := by decide +kernel
theorem dL_law_498 : decode cL_law 498 = .ok (.aload 10, 2) := by decide +kernel
theorem dL_law_500 : decode cL_law 500 = .ok (.iload 16, 2) := by decide +kernel
theorem dL_law_502 : decode cL_law 502 = .ok (.bipush 6, 2) := by decide +kernel
theorem dL_law_504 : decode cL_law 504 = .ok (.invokestatic 17, 3) := by decide +kernel
theorem dL_law_507 : decode cL_law 507 = .ok (.bipush 6, 2) := by decide +kernel
theorem dL_law_509 : decode cL_law 509 = .ok (.istore 18, 2) := by decide +kernel
theorem dL_law_511 : decode cL_law 511 = .ok (.goto 38, 3) := by decide +kernel
theorem dL_law_514 : decode cL_law 514 = .ok (.aload 7, 2) := by decide +kernel
theorem dL_law_516 : decode cL_law 516 = .ok (.iload 16, 2) := by decide +kernel
theorem dL_law_518 : decode cL_law 518 = .ok (.iaload, 1) := by decide +kernel
theorem dL_law_519 : decode cL_law 519 = .ok (.iconst 1, 1) := by decide +kernel
theorem dL_law_520 : decode cL_law 520 = .ok (.if_icmp .ne 29, 3) := by decide +kernel
theorem dL_law_523 : decode cL_law 523 = .ok (.aload_n 2, 1) := by decide +kernel
theorem dL_law_524 : decode cL_law 524 = .ok (.aload_n 3, 1) := by decide +kernel
theorem dL_law_525 : decode cL_law 525 = .ok (.aload 4, 2) := by decide +kernel
theorem dL_law_527 : decode cL_law 527 = .ok (.aload 5, 2) := by decide +kernel
theorem dL_law_529 : decode cL_law 529 = .ok (.aload 7, 2) := by decide +kernel
theorem dL_law_531 : decode cL_law 531 = .ok (.aload 8, 2) := by decide +kernel
theorem dL_law_533 : decode cL_law 533 = .ok (.aload 10, 2) := by decide +kernel
theorem dL_law_535 : decode cL_law 535 = .ok (.iload 16, 2) := by decide +kernel
theorem dL_law_537 : decode cL_law 537 = .ok (.iload 17, 2) := by decide +kernel
theorem dL_law_539 : decode cL_law 539 = .ok (.invokestatic 21, 3) := by decide +kernel
theorem dL_law_542 : decode cL_law 542 = .ok (.aload 7, 2) := by decide +kernel
theorem dL_law_544 : decode cL_law 544 = .ok (.iload 16, 2) := by decide +kernel
theorem dL_law_546 : decode cL_law 546 = .ok (.iaload, 1) := by decide +kernel
theorem dL_law_547 : decode cL_law 547 = .ok (.istore 18, 2) := by decide +kernel
theorem dL_law_549 : decode cL_law 549 = .ok (.aload_n 1, 1) := by decide +kernel
theorem dL_law_550 : decode cL_law 550 = .ok (.iconst 0, 1) := by decide +kernel
theorem dL_law_551 : decode cL_law 551 = .ok (.iload 16, 2) := by decide +kernel
theorem dL_law_553 : decode cL_law 553 = .ok (.iload 17, 2) := by decide +kernel
theorem dL_law_555 : decode cL_law 555 = .ok (.invokestatic 112, 3) := by decide +kernel
theorem dL_law_558 : decode cL_law 558 = .ok (.iload 18, 2) := by decide +kernel
theorem dL_law_560 : decode cL_law 560 = .ok (.if_icmp .ne 7, 3) := by decide +kernel
theorem dL_law_563 : decode cL_law 563 = .ok (.iconst 1, 1) := by decide +kernel
theorem dL_law_564 : decode cL_law 564 = .ok (.goto 4, 3) := by decide +kernel
theorem dL_law_567 : decode cL_law 567 = .ok (.iconst 0, 1) := by decide +kernel
theorem dL_law_568 : decode cL_law 568 = .ok (.istore 11, 2) := by decide +kernel
theorem dL_law_570 : decode cL_law 570 = .ok (.goto 855, 3) := by decide +kernel
theorem dL_law_573 : decode cL_law 573 = .ok (.iload 14, 2) := by decide +kernel
theorem dL_law_575 : decode cL_law 575 = .ok (.bipush 6, 2) := by decide +kernel
theorem dL_law_577 : decode cL_law 577 = .ok (.if_icmp .ne 106, 3) := by decide +kernel
theorem dL_law_580 : decode cL_law 580 = .ok (.aload_n 2, 1) := by decide +kernel
theorem dL_law_581 : decode cL_law 581 = .ok (.iconst 2, 1) := by decide +kernel
theorem dL_law_582 : decode cL_law 582 = .ok (.iaload, 1) := by decide +kernel
theorem dL_law_583 : decode cL_law 583 = .ok (.ifCond .le 100, 3) := by decide +kernel
theorem dL_law_586 : decode cL_law 586 = .ok (.iload 15, 2) := by decide +kernel
theorem dL_law_588 : decode cL_law 588 = .ok (.bipush 12, 2) := by decide +kernel
theorem dL_law_590 : decode cL_law 590 = .ok (.idiv, 1) := by decide +kernel
theorem dL_law_591 : decode cL_law 591 = .ok (.iconst 4, 1) := by decide +kernel
theorem dL_law_592 : decode cL_law 592 = .ok (.irem, 1) := by decide +kernel
theorem dL_law_593 : decode cL_law 593 = .ok (.ifCond .ne 25, 3) := by decide +kernel
theorem dL_law_596 : decode cL_law 596 = .ok (.aload 6, 2) := by decide +kernel
theorem dL_law_598 : decode cL_law 598 = .ok (.bipush 24, 2) := by decide +kernel
theorem dL_law_600 : decode cL_law 600 = .ok (.iload 16, 2) := by decide +kernel
theorem dL_law_602 : decode cL_law 602 = .ok (.iadd, 1) := by decide +kernel
theorem dL_law_603 : decode cL_law 603 = .ok (.iaload, 1) := by decide +kernel
theorem dL_law_604 : decode cL_law 604 = .ok (.ifCond .le 14, 3) := by decide +kernel
theorem dL_law_607 : decode cL_law 607 = .ok (.aload 6, 2) := by decide +kernel
theorem dL_law_609 : decode cL_law 609 = .ok (.bipush 24, 2) := by decide +kernel
theorem dL_law_611 : decode cL_law 611 = .ok (.iload 16, 2) := by decide +kernel
theorem dL_law_613 : decode cL_law 613 = .ok (.iadd, 1) := by decide +kernel
theorem dL_law_614 : decode cL_law 614 = .ok (.iaload, 1) := by decide +kernel
theorem dL_law_615 : decode cL_law 615 = .ok (.goto 30, 3) := by decide +kernel
theorem dL_law_618 : decode cL_law 618 = .ok (.iconst 1, 1) := by decide +kernel
theorem dL_law_619 : decode cL_law 619 = .ok (.iload 15, 2) := by decide +kernel
theorem dL_law_621 : decode cL_law 621 = .ok (.bipush 48, 2) := by decide +kernel
theorem dL_law_623 : decode cL_law 623 = .ok (.idiv, 1) := by decide +kernel
theorem dL_law_624 : decode cL_law 624 = .ok (.sipush 9999, 3) := by decide +kernel
theorem dL_law_627 : decode cL_law 627 = .ok (.irem, 1) := by decide +kernel
theorem dL_law_628 : decode cL_law 628 = .ok (.iload 15, 2) := by decide +kernel
theorem dL_law_630 : decode cL_law 630 = .ok (.iconst 3, 1) := by decide +kernel
theorem dL_law_631 : decode cL_law 631 = .ok (.irem, 1) := by decide +kernel
theorem dL_law_632 : decode cL_law 632 = .ok (.ifCond .ne 9, 3) := by decide +kernel
theorem dL_law_635 : decode cL_law 635 = .ok (.sipush 9999, 3) := by decide +kernel
theorem dL_law_638 : decode cL_law 638 = .ok (.goto 5, 3) := by decide +kernel
theorem dL_law_641 : decode cL_law 641 = .ok (.bipush 60, 2) := by decide +kernel
theorem dL_law_643 : decode cL_law 643 = .ok (.irem, 1) := by decide +kernel
theorem dL_law_644 : decode cL_law 644 = .ok (.iadd, 1) := by decide +kernel
theorem dL_law_645 : decode cL_law 645 = .ok (.istore 17, 2) := by decide +kernel
theorem dL_law_647 : decode cL_law 647 = .ok (.aload_n 1, 1) := by decide +kernel
theorem dL_law_648 : decode cL_law 648 = .ok (.iconst 1, 1) := by decide +kernel
theorem dL_law_649 : decode cL_law 649 = .ok (.iload 16, 2) := by decide +kernel
theorem dL_law_651 : decode cL_law 651 = .ok (.iload 17, 2) := by decide +kernel
theorem dL_law_653 : decode cL_law 653 = .ok (.invokestatic 112, 3) := by decide +kernel
theorem dL_law_656 : decode cL_law 656 = .ok (.aload_n 2, 1) := by decide +kernel
theorem dL_law_657 : decode cL_law 657 = .ok (.aload 6, 2) := by decide +kernel
theorem dL_law_659 : decode cL_law 659 = .ok (.aload 7, 2) := by decide +kernel
theorem dL_law_661 : decode cL_law 661 = .ok (.aload 10, 2) := by decide +kernel
theorem dL_law_663 : decode cL_law 663 = .ok (.iload 16, 2) := by decide +kernel
theorem dL_law_665 : decode cL_law 665 = .ok (.iload 17, 2) := by decide +kernel
theorem dL_law_667 : decode cL_law 667 = .ok (.invokestatic 116, 3) := by decide +kernel
theorem dL_law_670 : decode cL_law 670 = .ok (.if_icmp .ne 7, 3) := by decide +kernel
theorem dL_law_673 : decode cL_law 673 = .ok (.iconst 1, 1) := by decide +kernel
theorem dL_law_674 : decode cL_law 674 = .ok (.goto 4, 3) := by decide +kernel
theorem dL_law_677 : decode cL_law 677 = .ok (.iconst 0, 1) := by decide +kernel
theorem dL_law_678 : decode cL_law 678 = .ok (.istore 11, 2) := by decide +kernel
theorem dL_law_680 : decode cL_law 680 = .ok (.goto 745, 3) := by decide +kernel
theorem dL_law_683 : decode cL_law 683 = .ok (.iload 14, 2) := by decide +kernel
theorem dL_law_685 : decode cL_law 685 = .ok (.bipush 9, 2) := by decide +kernel
theorem dL_law_687 : decode cL_law 687 = .ok (.if_icmp .ge 170, 3) := by decide +kernel
theorem dL_law_690 : decode cL_law 690 = .ok (.aload_n 2, 1) := by decide +kernel
theorem dL_law_691 : decode cL_law 691 = .ok (.iconst 2, 1) := by decide +kernel
theorem dL_law_692 : decode cL_law 692 = .ok (.iaload, 1) := by decide +kernel
theorem dL_law_693 : decode cL_law 693 = .ok (.ifCond .le 164, 3) := by decide +kernel
theorem dL_law_696 : decode cL_law 696 = .ok (.iconst 1, 1) := by decide +kernel
theorem dL_law_697 : decode cL_law 697 = .ok (.iload 15, 2) := by decide +kernel
theorem dL_law_699 : decode cL_law 699 = .ok (.bipush 12, 2) := by decide +kernel
theorem dL_law_701 : decode cL_law 701 = .ok (.idiv, 1) := by decide +kernel
theorem dL_law_702 : decode cL_law 702 = .ok (.iload 15, 2) := by decide +kernel
theorem dL_law_704 : decode cL_law 704 = .ok (.iconst 3, 1) := by decide +kernel
theorem dL_law_705 : decode cL_law 705 = .ok (.irem, 1) := by decide +kernel
theorem dL_law_706 : decode cL_law 706 = .ok (.ifCond .ne 8, 3) := by decide +kernel
theorem dL_law_709 : decode cL_law 709 = .ok (.bipush 30, 2) := by decide +kernel
theorem dL_law_711 : decode cL_law 711 = .ok (.goto 5, 3) := by decide +kernel
theorem dL_law_714 : decode cL_law 714 = .ok (.bipush 8, 2) := by decide +kernel
theorem dL_law_716 : decode cL_law 716 = .ok (.irem, 1) := by decide +kernel
theorem dL_law_717 : decode cL_law 717 = .ok (.iadd, 1) := by decide +kernel
theorem dL_law_718 : decode cL_law 718 = .ok (.istore 17, 2) := by decide +kernel
theorem dL_law_720 : decode cL_law 720 = .ok (.bipush (-13), 2) := by decide +kernel
theorem dL_law_722 : decode cL_law 722 = .ok (.istore 18, 2) := by decide +kernel
theorem dL_law_724 : decode cL_law 724 = .ok (.aload 7, 2) := by decide +kernel
theorem dL_law_726 : decode cL_law 726 = .ok (.iload 16, 2) := by decide +kernel
theorem dL_law_728 : decode cL_law 728 = .ok (.iaload, 1) := by decide +kernel
theorem dL_law_729 : decode cL_law 729 = .ok (.ifCond .eq 21, 3) := by decide +kernel
theorem dL_law_732 : decode cL_law 732 = .ok (.aload 7, 2) := by decide +kernel
theorem dL_law_734 : decode cL_law 734 = .ok (.iload 16, 2) := by decide +kernel
theorem dL_law_736 : decode cL_law 736 = .ok (.iaload, 1) := by decide +kernel
theorem dL_law_737 : decode cL_law 737 = .ok (.iconst 2, 1) := by decide +kernel
theorem dL_law_738 : decode cL_law 738 = .ok (.if_icmp .eq 12, 3) := by decide +kernel
theorem dL_law_741 : decode cL_law 741 = .ok (.aload 7, 2) := by decide +kernel
theorem dL_law_743 : decode cL_law 743 = .ok (.iload 16, 2) := by decide +kernel
theorem dL_law_745 : decode cL_law 745 = .ok (.iaload, 1) := by decide +kernel
theorem dL_law_746 : decode cL_law 746 = .ok (.iconst 3, 1) := by decide +kernel
theorem dL_law_747 : decode cL_law 747 = .ok (.if_icmp .ne 86, 3) := by decide +kernel
theorem dL_law_750 : decode cL_law 750 = .ok (.aload 7, 2) := by decide +kernel
theorem dL_law_752 : decode cL_law 752 = .ok (.bipush 36, 2) := by decide +kernel
theorem dL_law_754 : decode cL_law 754 = .ok (.iload 16, 2) := by decide +kernel
theorem dL_law_756 : decode cL_law 756 = .ok (.iadd, 1) := by decide +kernel
theorem dL_law_757 : decode cL_law 757 = .ok (.iaload, 1) := by decide +kernel
theorem dL_law_758 : decode cL_law 758 = .ok (.iconst 2, 1) := by decide +kernel
theorem dL_law_759 : decode cL_law 759 = .ok (.if_icmp .ge 74, 3) := by decide +kernel
theorem dL_law_762 : decode cL_law 762 = .ok (.aload 7, 2) := by decide +kernel
theorem dL_law_764 : decode cL_law 764 = .ok (.bipush 36, 2) := by decide +kernel
theorem dL_law_766 : decode cL_law 766 = .ok (.iload 16, 2) := by decide +kernel
theorem dL_law_768 : decode cL_law 768 = .ok (.iadd, 1) := by decide +kernel
theorem dL_law_769 : decode cL_law 769 = .ok (.dup2, 1) := by decide +kernel
theorem dL_law_770 : decode cL_law 770 = .ok (.iaload, 1) := by decide +kernel
theorem dL_law_771 : decode cL_law 771 = .ok (.iconst 1, 1) := by decide +kernel
theorem dL_law_772 : decode cL_law 772 = .ok (.iadd, 1) := by decide +kernel
theorem dL_law_773 : decode cL_law 773 = .ok (.iastore, 1) := by decide +kernel
theorem dL_law_774 : decode cL_law 774 = .ok (.aload 9, 2) := by decide +kernel
theorem dL_law_776 : decode cL_law 776 = .ok (.iload 16, 2) := by decide +kernel
theorem dL_law_778 : decode cL_law 778 = .ok (.aload 7, 2) := by decide +kernel
theorem dL_law_780 : decode cL_law 780 = .ok (.iload 16, 2) := by decide +kernel
theorem dL_law_782 : decode cL_law 782 = .ok (.iaload, 1) := by decide +kernel
theorem dL_law_783 : decode cL_law 783 = .ok (.iastore, 1) := by decide +kernel
theorem dL_law_784 : decode cL_law 784 = .ok (.aload 9, 2) := by decide +kernel
theorem dL_law_786 : decode cL_law 786 = .ok (.bipush 12, 2) := by decide +kernel
theorem dL_law_788 : decode cL_law 788 = .ok (.iload 16, 2) := by decide +kernel
theorem dL_law_790 : decode cL_law 790 = .ok (.iadd, 1) := by decide +kernel
theorem dL_law_791 : decode cL_law 791 = .ok (.aload 7, 2) := by decide +kernel
theorem dL_law_793 : decode cL_law 793 = .ok (.bipush 12, 2) := by decide +kernel
theorem dL_law_795 : decode cL_law 795 = .ok (.iload 16, 2) := by decide +kernel
theorem dL_law_797 : decode cL_law 797 = .ok (.iadd, 1) := by decide +kernel
theorem dL_law_798 : decode cL_law 798 = .ok (.iaload, 1) := by decide +kernel
theorem dL_law_799 : decode cL_law 799 = .ok (.aload_n 2, 1) := by decide +kernel
theorem dL_law_800 : decode cL_law 800 = .ok (.iconst 0, 1) := by decide +kernel
theorem dL_law_801 : decode cL_law 801 = .ok (.iaload, 1) := by decide +kernel
theorem dL_law_802 : decode cL_law 802 = .ok (.isub, 1) := by decide +kernel
theorem dL_law_803 : decode cL_law 803 = .ok (.iastore, 1) := by decide +kernel
theorem dL_law_804 : decode cL_law 804 = .ok (.aload_n 2, 1) := by decide +kernel
theorem dL_law_805 : decode cL_law 805 = .ok (.iconst 0, 1) := by decide +kernel
theorem dL_law_806 : decode cL_law 806 = .ok (.iaload, 1) := by decide +kernel
theorem dL_law_807 : decode cL_law 807 = .ok (.iload 17, 2) := by decide +kernel
theorem dL_law_809 : decode cL_law 809 = .ok (.iadd, 1) := by decide +kernel
theorem dL_law_810 : decode cL_law 810 = .ok (.istore 18, 2) := by decide +kernel
theorem dL_law_812 : decode cL_law 812 = .ok (.aload 7, 2) := by decide +kernel
theorem dL_law_814 : decode cL_law 814 = .ok (.bipush 12, 2) := by decide +kernel
theorem dL_law_816 : decode cL_law 816 = .ok (.iload 16, 2) := by decide +kernel
theorem dL_law_818 : decode cL_law 818 = .ok (.iadd, 1) := by decide +kernel
theorem dL_law_819 : decode cL_law 819 = .ok (.iload 18, 2) := by decide +kernel
theorem dL_law_821 : decode cL_law 821 = .ok (.iastore, 1) := by decide +kernel
theorem dL_law_822 : decode cL_law 822 = .ok (.aload_n 2, 1) := by decide +kernel
theorem dL_law_823 : decode cL_law 823 = .ok (.aload 7, 2) := by decide +kernel
theorem dL_law_825 : decode cL_law 825 = .ok (.aload 10, 2) := by decide +kernel
theorem dL_law_827 : decode cL_law 827 = .ok (.iload 16, 2) := by decide +kernel
theorem dL_law_829 : decode cL_law 829 = .ok (.iconst 4, 1) := by decide +kernel
theorem dL_law_830 : decode cL_law 830 = .ok (.invokestatic 17, 3) := by decide +kernel
theorem dL_law_833 : decode cL_law 833 = .ok (.aload_n 1, 1) := by decide +kernel
theorem dL_law_834 : decode cL_law 834 = .ok (.iconst 2, 1) := by decide +kernel
theorem dL_law_835 : decode cL_law 835 = .ok (.iload 16, 2) := by decide +kernel
theorem dL_law_837 : decode cL_law 837 = .ok (.iload 17, 2) := by decide +kernel
theorem dL_law_839 : decode cL_law 839 = .ok (.invokestatic 112, 3) := by decide +kernel
theorem dL_law_842 : decode cL_law 842 = .ok (.iload 18, 2) := by decide +kernel
theorem dL_law_844 : decode cL_law 844 = .ok (.if_icmp .ne 7, 3) := by decide +kernel
theorem dL_law_847 : decode cL_law 847 = .ok (.iconst 1, 1) := by decide +kernel
theorem dL_law_848 : decode cL_law 848 = .ok (.goto 4, 3) := by decide +kernel
theorem dL_law_851 : decode cL_law 851 = .ok (.iconst 0, 1) := by decide +kernel
theorem dL_law_852 : decode cL_law 852 = .ok (.istore 11, 2) := by decide +kernel
theorem dL_law_854 : decode cL_law 854 = .ok (.goto 571, 3) := by decide +kernel
theorem dL_law_857 : decode cL_law 857 = .ok (.iload 14, 2) := by decide +kernel
theorem dL_law_859 : decode cL_law 859 = .ok (.bipush 9, 2) := by decide +kernel
theorem dL_law_861 : decode cL_law 861 = .ok (.if_icmp .ne 124, 3) := by decide +kernel
theorem dL_law_864 : decode cL_law 864 = .ok (.aload_n 3, 1) := by decide +kernel
theorem dL_law_865 : decode cL_law 865 = .ok (.bipush 63, 2) := by decide +kernel
theorem dL_law_867 : decode cL_law 867 = .ok (.iaload, 1) := by decide +kernel
theorem dL_law_868 : decode cL_law 868 = .ok (.bipush 60, 2) := by decide +kernel
theorem dL_law_870 : decode cL_law 870 = .ok (.if_icmp .ge 115, 3) := by decide +kernel
theorem dL_law_873 : decode cL_law 873 = .ok (.aload_n 2, 1) := by decide +kernel
theorem dL_law_874 : decode cL_law 874 = .ok (.iconst 0, 1) := by decide +kernel
theorem dL_law_875 : decode cL_law 875 = .ok (.iaload, 1) := by decide +kernel
theorem dL_law_876 : decode cL_law 876 = .ok (.iconst 1, 1) := by decide +kernel
theorem dL_law_877 : decode cL_law 877 = .ok (.iadd, 1) := by decide +kernel
theorem dL_law_878 : decode cL_law 878 = .ok (.iload 15, 2) := by decide +kernel
theorem dL_law_880 : decode cL_law 880 = .ok (.bipush 60, 2) := by decide +kernel
theorem dL_law_882 : decode cL_law 882 = .ok (.irem, 1) := by decide +kernel
theorem dL_law_883 : decode cL_law 883 = .ok (.iload 15, 2) := by decide +kernel
theorem dL_law_885 : decode cL_law 885 = .ok (.iconst 2, 1) := by decide +kernel
theorem dL_law_886 : decode cL_law 886 = .ok (.irem, 1) := by decide +kernel
theorem dL_law_887 : decode cL_law 887 = .ok (.ifCond .ne 8, 3) := by decide +kernel
theorem dL_law_890 : decode cL_law 890 = .ok (.bipush 60, 2) := by decide +kernel
theorem dL_law_892 : decode cL_law 892 = .ok (.goto 5, 3) := by decide +kernel
theorem dL_law_895 : decode cL_law 895 = .ok (.bipush 6, 2) := by decide +kernel
theorem dL_law_897 : decode cL_law 897 = .ok (.irem, 1) := by decide +kernel
theorem dL_law_898 : decode cL_law 898 = .ok (.iadd, 1) := by decide +kernel
theorem dL_law_899 : decode cL_law 899 = .ok (.istore 17, 2) := by decide +kernel
theorem dL_law_901 : decode cL_law 901 = .ok (.iconst 1, 1) := by decide +kernel
theorem dL_law_902 : decode cL_law 902 = .ok (.istore 18, 2) := by decide +kernel
theorem dL_law_904 : decode cL_law 904 = .ok (.iconst 0, 1) := by decide +kernel
theorem dL_law_905 : decode cL_law 905 = .ok (.istore 19, 2) := by decide +kernel
theorem dL_law_907 : decode cL_law 907 = .ok (.iload 19, 2) := by decide +kernel
theorem dL_law_909 : decode cL_law 909 = .ok (.aload_n 3, 1) := by decide +kernel
theorem dL_law_910 : decode cL_law 910 = .ok (.bipush 63, 2) := by decide +kernel
theorem dL_law_912 : decode cL_law 912 = .ok (.iaload, 1) := by decide +kernel
theorem dL_law_913 : decode cL_law 913 = .ok (.if_icmp .ge 30, 3) := by decide +kernel
theorem dL_law_916 : decode cL_law 916 = .ok (.iload 18, 2) := by decide +kernel
theorem dL_law_918 : decode cL_law 918 = .ok (.ifCond .eq 16, 3) := by decide +kernel
theorem dL_law_921 : decode cL_law 921 = .ok (.aload_n 3, 1) := by decide +kernel
theorem dL_law_922 : decode cL_law 922 = .ok (.iload 19, 2) := by decide +kernel
theorem dL_law_924 : decode cL_law 924 = .ok (.iaload, 1) := by decide +kernel
theorem dL_law_925 : decode cL_law 925 = .ok (.iload 17, 2) := by decide +kernel
theorem dL_law_927 : decode cL_law 927 = .ok (.if_icmp .eq 7, 3) := by decide +kernel
theorem dL_law_930 : decode cL_law 930 = .ok (.iconst 1, 1) := by decide +kernel
theorem dL_law_931 : decode cL_law 931 = .ok (.goto 4, 3) := by decide +kernel
theorem dL_law_934 : decode cL_law 934 = .ok (.iconst 0, 1) := by decide +kernel
theorem dL_law_935 : decode cL_law 935 = .ok (.istore 18, 2) := by decide +kernel
theorem dL_law_937 : decode cL_law 937 = .ok (.iinc 19 1, 3) := by decide +kernel
theorem dL_law_940 : decode cL_law 940 = .ok (.goto (-33), 3) := by decide +kernel
theorem dL_law_943 : decode cL_law 943 = .ok (.aload_n 1, 1) := by decide +kernel
theorem dL_law_944 : decode cL_law 944 = .ok (.iload 17, 2) := by decide +kernel
theorem dL_law_946 : decode cL_law 946 = .ok (.invokevirtual 120, 3) := by decide +kernel
theorem dL_law_949 : decode cL_law 949 = .ok (.iload 18, 2) := by decide +kernel
theorem dL_law_951 : decode cL_law 951 = .ok (.if_icmp .ne 7, 3) := by decide +kernel
theorem dL_law_954 : decode cL_law 954 = .ok (.iconst 1, 1) := by decide +kernel
theorem dL_law_955 : decode cL_law 955 = .ok (.goto 4, 3) := by decide +kernel
theorem dL_law_958 : decode cL_law 958 = .ok (.iconst 0, 1) := by decide +kernel
theorem dL_law_959 : decode cL_law 959 = .ok (.istore 11, 2) := by decide +kernel
theorem dL_law_961 : decode cL_law 961 = .ok (.iload 18, 2) := by decide +kernel
theorem dL_law_963 : decode cL_law 963 = .ok (.ifCond .eq 19, 3) := by decide +kernel
theorem dL_law_966 : decode cL_law 966 = .ok (.aload_n 3, 1) := by decide +kernel
theorem dL_law_967 : decode cL_law 967 = .ok (.aload_n 3, 1) := by decide +kernel
theorem dL_law_968 : decode cL_law 968 = .ok (.bipush 63, 2) := by decide +kernel
theorem dL_law_970 : decode cL_law 970 = .ok (.iaload, 1) := by decide +kernel
theorem dL_law_971 : decode cL_law 971 = .ok (.iload 17, 2) := by decide +kernel
theorem dL_law_973 : decode cL_law 973 = .ok (.iastore, 1) := by decide +kernel
theorem dL_law_974 : decode cL_law 974 = .ok (.aload_n 3, 1) := by decide +kernel
theorem dL_law_975 : decode cL_law 975 = .ok (.bipush 63, 2) := by decide +kernel
theorem dL_law_977 : decode cL_law 977 = .ok (.dup2, 1) := by decide +kernel
theorem dL_law_978 : decode cL_law 978 = .ok (.iaload, 1) := by decide +kernel
theorem dL_law_979 : decode cL_law 979 = .ok (.iconst 1, 1) := by decide +kernel
theorem dL_law_980 : decode cL_law 980 = .ok (.iadd, 1) := by decide +kernel
theorem dL_law_981 : decode cL_law 981 = .ok (.iastore, 1) := by decide +kernel
theorem dL_law_982 : decode cL_law 982 = .ok (.goto 443, 3) := by decide +kernel
theorem dL_law_985 : decode cL_law 985 = .ok (.iload 14, 2) := by decide +kernel
theorem dL_law_987 : decode cL_law 987 = .ok (.bipush 10, 2) := by decide +kernel
theorem dL_law_989 : decode cL_law 989 = .ok (.if_icmp .ne 136, 3) := by decide +kernel
theorem dL_law_992 : decode cL_law 992 = .ok (.iload 15, 2) := by decide +kernel
theorem dL_law_994 : decode cL_law 994 = .ok (.bipush 7, 2) := by decide +kernel
theorem dL_law_996 : decode cL_law 996 = .ok (.irem, 1) := by decide +kernel
theorem dL_law_997 : decode cL_law 997 = .ok (.istore 17, 2) := by decide +kernel
theorem dL_law_999 : decode cL_law 999 = .ok (.iload 15, 2) := by decide +kernel
theorem dL_law_1001 : decode cL_law 1001 = .ok (.bipush 7, 2) := by decide +kernel
theorem dL_law_1003 : decode cL_law 1003 = .ok (.idiv, 1) := by decide +kernel
theorem dL_law_1004 : decode cL_law 1004 = .ok (.iconst 3, 1) := by decide +kernel
theorem dL_law_1005 : decode cL_law 1005 = .ok (.irem, 1) := by decide +kernel
theorem dL_law_1006 : decode cL_law 1006 = .ok (.ifCond .ne 16, 3) := by decide +kernel
theorem dL_law_1009 : decode cL_law 1009 = .ok (.aload_n 2, 1) := by decide +kernel
theorem dL_law_1010 : decode cL_law 1010 = .ok (.iconst 1, 1) := by decide +kernel
theorem dL_law_1011 : decode cL_law 1011 = .ok (.iaload, 1) := by decide +kernel
theorem dL_law_1012 : decode cL_law 1012 = .ok (.iconst 1, 1) := by decide +kernel
theorem dL_law_1013 : decode cL_law 1013 = .ok (.iload 17, 2) := by decide +kernel
theorem dL_law_1015 : decode cL_law 1015 = .ok (.ishl, 1) := by decide +kernel
theorem dL_law_1016 : decode cL_law 1016 = .ok (.iconst (-1), 1) := by decide +kernel
theorem dL_law_1017 : decode cL_law 1017 = .ok (.ixor, 1) := by decide +kernel
theorem dL_law_1018 : decode cL_law 1018 = .ok (.iand, 1) := by decide +kernel
theorem dL_law_1019 : decode cL_law 1019 = .ok (.goto 11, 3) := by decide +kernel
theorem dL_law_1022 : decode cL_law 1022 = .ok (.aload_n 2, 1) := by decide +kernel
theorem dL_law_1023 : decode cL_law 1023 = .ok (.iconst 1, 1) := by decide +kernel
theorem dL_law_1024 : decode cL_law 1024 = .ok (.iaload, 1) := by decide +kernel
theorem dL_law_1025 : decode cL_law 1025 = .ok (.iconst 1, 1) := by decide +kernel
theorem dL_law_1026 : decode cL_law 1026 = .ok (.iload 17, 2) := by decide +kernel
theorem dL_law_1028 : decode cL_law 1028 = .ok (.ishl, 1) := by decide +kernel
theorem dL_law_1029 : decode cL_law 1029 = .ok (.ior, 1) := by decide +kernel
theorem dL_law_1030 : decode cL_law 1030 = .ok (.istore 18, 2) := by decide +kernel
theorem dL_law_1032 : decode cL_law 1032 = .ok (.iconst 0, 1) := by decide +kernel
theorem dL_law_1033 : decode cL_law 1033 = .ok (.istore 19, 2) := by decide +kernel
theorem dL_law_1035 : decode cL_law 1035 = .ok (.iload 18, 2) := by decide +kernel
theorem dL_law_1037 : decode cL_law 1037 = .ok (.istore 20, 2) := by decide +kernel
theorem dL_law_1039 : decode cL_law 1039 = .ok (.iload 20, 2) := by decide +kernel
theorem dL_law_1041 : decode cL_law 1041 = .ok (.ifCond .le 21, 3) := by decide +kernel
theorem dL_law_1044 : decode cL_law 1044 = .ok (.iload 19, 2) := by decide +kernel
theorem dL_law_1046 : decode cL_law 1046 = .ok (.iload 20, 2) := by decide +kernel
theorem dL_law_1048 : decode cL_law 1048 = .ok (.iconst 1, 1) := by decide +kernel
theorem dL_law_1049 : decode cL_law 1049 = .ok (.iand, 1) := by decide +kernel
theorem dL_law_1050 : decode cL_law 1050 = .ok (.iadd, 1) := by decide +kernel
theorem dL_law_1051 : decode cL_law 1051 = .ok (.istore 19, 2) := by decide +kernel
theorem dL_law_1053 : decode cL_law 1053 = .ok (.iload 20, 2) := by decide +kernel
theorem dL_law_1055 : decode cL_law 1055 = .ok (.iconst 1, 1) := by decide +kernel
theorem dL_law_1056 : decode cL_law 1056 = .ok (.ishr, 1) := by decide +kernel
theorem dL_law_1057 : decode cL_law 1057 = .ok (.istore 20, 2) := by decide +kernel
theorem dL_law_1059 : decode cL_law 1059 = .ok (.goto (-20), 3) := by decide +kernel
theorem dL_law_1062 : decode cL_law 1062 = .ok (.aload_n 2, 1) := by decide +kernel
theorem dL_law_1063 : decode cL_law 1063 = .ok (.iconst 1, 1) := by decide +kernel
theorem dL_law_1064 : decode cL_law 1064 = .ok (.iload 18, 2) := by decide +kernel
theorem dL_law_1066 : decode cL_law 1066 = .ok (.ifCond .ne 9, 3) := by decide +kernel
theorem dL_law_1069 : decode cL_law 1069 = .ok (.aload_n 2, 1) := by decide +kernel
theorem dL_law_1070 : decode cL_law 1070 = .ok (.iconst 1, 1) := by decide +kernel
theorem dL_law_1071 : decode cL_law 1071 = .ok (.iaload, 1) := by decide +kernel
theorem dL_law_1072 : decode cL_law 1072 = .ok (.goto 5, 3) := by decide +kernel
theorem dL_law_1075 : decode cL_law 1075 = .ok (.iload 18, 2) := by decide +kernel
theorem dL_law_1077 : decode cL_law 1077 = .ok (.iastore, 1) := by decide +kernel
theorem dL_law_1078 : decode cL_law 1078 = .ok (.aload_n 1, 1) := by decide +kernel
theorem dL_law_1079 : decode cL_law 1079 = .ok (.iconst 4, 1) := by decide +kernel
theorem dL_law_1080 : decode cL_law 1080 = .ok (.iload 17, 2) := by decide +kernel
theorem dL_law_1082 : decode cL_law 1082 = .ok (.iload 15, 2) := by decide +kernel
theorem dL_law_1084 : decode cL_law 1084 = .ok (.bipush 7, 2) := by decide +kernel
theorem dL_law_1086 : decode cL_law 1086 = .ok (.idiv, 1) := by decide +kernel
theorem dL_law_1087 : decode cL_law 1087 = .ok (.iconst 3, 1) := by decide +kernel
theorem dL_law_1088 : decode cL_law 1088 = .ok (.irem, 1) := by decide +kernel
theorem dL_law_1089 : decode cL_law 1089 = .ok (.ifCond .ne 7, 3) := by decide +kernel
theorem dL_law_1092 : decode cL_law 1092 = .ok (.iconst 0, 1) := by decide +kernel
theorem dL_law_1093 : decode cL_law 1093 = .ok (.goto 4, 3) := by decide +kernel
theorem dL_law_1096 : decode cL_law 1096 = .ok (.iconst 1, 1) := by decide +kernel
theorem dL_law_1097 : decode cL_law 1097 = .ok (.invokestatic 112, 3) := by decide +kernel
theorem dL_law_1100 : decode cL_law 1100 = .ok (.iload 18, 2) := by decide +kernel
theorem dL_law_1102 : decode cL_law 1102 = .ok (.ifCond .ne 8, 3) := by decide +kernel
theorem dL_law_1105 : decode cL_law 1105 = .ok (.bipush (-13), 2) := by decide +kernel
theorem dL_law_1107 : decode cL_law 1107 = .ok (.goto 5, 3) := by decide +kernel
theorem dL_law_1110 : decode cL_law 1110 = .ok (.iload 19, 2) := by decide +kernel
theorem dL_law_1112 : decode cL_law 1112 = .ok (.if_icmp .ne 7, 3) := by decide +kernel
theorem dL_law_1115 : decode cL_law 1115 = .ok (.iconst 1, 1) := by decide +kernel
theorem dL_law_1116 : decode cL_law 1116 = .ok (.goto 4, 3) := by decide +kernel
theorem dL_law_1119 : decode cL_law 1119 = .ok (.iconst 0, 1) := by decide +kernel
theorem dL_law_1120 : decode cL_law 1120 = .ok (.istore 11, 2) := by decide +kernel
theorem dL_law_1122 : decode cL_law 1122 = .ok (.goto 303, 3) := by decide +kernel
theorem dL_law_1125 : decode cL_law 1125 = .ok (.iload 14, 2) := by decide +kernel
theorem dL_law_1127 : decode cL_law 1127 = .ok (.bipush 11, 2) := by decide +kernel
theorem dL_law_1129 : decode cL_law 1129 = .ok (.if_icmp .ne 144, 3) := by decide +kernel
theorem dL_law_1132 : decode cL_law 1132 = .ok (.iconst 1, 1) := by decide +kernel
theorem dL_law_1133 : decode cL_law 1133 = .ok (.iload 15, 2) := by decide +kernel
theorem dL_law_1135 : decode cL_law 1135 = .ok (.iconst 4, 1) := by decide +kernel
theorem dL_law_1136 : decode cL_law 1136 = .ok (.irem, 1) := by decide +kernel
theorem dL_law_1137 : decode cL_law 1137 = .ok (.iadd, 1) := by decide +kernel
theorem dL_law_1138 : decode cL_law 1138 = .ok (.istore 17, 2) := by decide +kernel
theorem dL_law_1140 : decode cL_law 1140 = .ok (.iload 15, 2) := by decide +kernel
theorem dL_law_1142 : decode cL_law 1142 = .ok (.iconst 4, 1) := by decide +kernel
theorem dL_law_1143 : decode cL_law 1143 = .ok (.idiv, 1) := by decide +kernel
theorem dL_law_1144 : decode cL_law 1144 = .ok (.iconst 4, 1) := by decide +kernel
theorem dL_law_1145 : decode cL_law 1145 = .ok (.irem, 1) := by decide +kernel
theorem dL_law_1146 : decode cL_law 1146 = .ok (.ifCond .ne 33, 3) := by decide +kernel
theorem dL_law_1149 : decode cL_law 1149 = .ok (.aload_n 1, 1) := by decide +kernel
theorem dL_law_1150 : decode cL_law 1150 = .ok (.iload 17, 2) := by decide +kernel
theorem dL_law_1152 : decode cL_law 1152 = .ok (.invokevirtual 123, 3) := by decide +kernel
theorem dL_law_1155 : decode cL_law 1155 = .ok (.aload 5, 2) := by decide +kernel
theorem dL_law_1157 : decode cL_law 1157 = .ok (.iload 17, 2) := by decide +kernel
theorem dL_law_1159 : decode cL_law 1159 = .ok (.iaload, 1) := by decide +kernel
theorem dL_law_1160 : decode cL_law 1160 = .ok (.if_icmp .ne 7, 3) := by decide +kernel
theorem dL_law_1163 : decode cL_law 1163 = .ok (.iconst 1, 1) := by decide +kernel
theorem dL_law_1164 : decode cL_law 1164 = .ok (.goto 4, 3) := by decide +kernel
theorem dL_law_1167 : decode cL_law 1167 = .ok (.iconst 0, 1) := by decide +kernel
theorem dL_law_1168 : decode cL_law 1168 = .ok (.istore 11, 2) := by decide +kernel
theorem dL_law_1170 : decode cL_law 1170 = .ok (.aload 5, 2) := by decide +kernel
theorem dL_law_1172 : decode cL_law 1172 = .ok (.iload 17, 2) := by decide +kernel
theorem dL_law_1174 : decode cL_law 1174 = .ok (.iconst 0, 1) := by decide +kernel
theorem dL_law_1175 : decode cL_law 1175 = .ok (.iastore, 1) := by decide +kernel
theorem dL_law_1176 : decode cL_law 1176 = .ok (.goto 94, 3) := by decide +kernel
theorem dL_law_1179 : decode cL_law 1179 = .ok (.aload 5, 2) := by decide +kernel
theorem dL_law_1181 : decode cL_law 1181 = .ok (.iload 17, 2) := by decide +kernel
theorem dL_law_1183 : decode cL_law 1183 = .ok (.iaload, 1) := by decide +kernel
theorem dL_law_1184 : decode cL_law 1184 = .ok (.bipush 6, 2) := by decide +kernel
theorem dL_law_1186 : decode cL_law 1186 = .ok (.if_icmp .ne 8, 3) := by decide +kernel
theorem dL_law_1189 : decode cL_law 1189 = .ok (.bipush (-13), 2) := by decide +kernel
theorem dL_law_1191 : decode cL_law 1191 = .ok (.goto 10, 3) := by decide +kernel
theorem dL_law_1194 : decode cL_law 1194 = .ok (.aload 5, 2) := by decide +kernel
theorem dL_law_1196 : decode cL_law 1196 = .ok (.iload 17, 2) := by decide +kernel
theorem dL_law_1198 : decode cL_law 1198 = .ok (.iaload, 1) := by decide +kernel
theorem dL_law_1199 : decode cL_law 1199 = .ok (.iconst 1, 1) := by decide +kernel
theorem dL_law_1200 : decode cL_law 1200 = .ok (.iadd, 1) := by decide +kernel
theorem dL_law_1201 : decode cL_law 1201 = .ok (.istore 18, 2) := by decide +kernel
theorem dL_law_1203 : decode cL_law 1203 = .ok (.iload 18, 2) := by decide +kernel
theorem dL_law_1205 : decode cL_law 1205 = .ok (.ifCond .le 36, 3) := by decide +kernel
theorem dL_law_1208 : decode cL_law 1208 = .ok (.aload 4, 2) := by decide +kernel
theorem dL_law_1210 : decode cL_law 1210 = .ok (.bipush 6, 2) := by decide +kernel
theorem dL_law_1212 : decode cL_law 1212 = .ok (.iload 17, 2) := by decide +kernel
theorem dL_law_1214 : decode cL_law 1214 = .ok (.imul, 1) := by decide +kernel
theorem dL_law_1215 : decode cL_law 1215 = .ok (.aload 5, 2) := by decide +kernel
theorem dL_law_1217 : decode cL_law 1217 = .ok (.iload 17, 2) := by decide +kernel
theorem dL_law_1219 : decode cL_law 1219 = .ok (.iaload, 1) := by decide +kernel
theorem dL_law_1220 : decode cL_law 1220 = .ok (.iadd, 1) := by decide +kernel
theorem dL_law_1221 : decode cL_law 1221 = .ok (.iconst 1, 1) := by decide +kernel
theorem dL_law_1222 : decode cL_law 1222 = .ok (.iload 15, 2) := by decide +kernel
theorem dL_law_1224 : decode cL_law 1224 = .ok (.bipush 16, 2) := by decide +kernel
theorem dL_law_1226 : decode cL_law 1226 = .ok (.idiv, 1) := by decide +kernel
theorem dL_law_1227 : decode cL_law 1227 = .ok (.bipush 30, 2) := by decide +kernel
theorem dL_law_1229 : decode cL_law 1229 = .ok (.irem, 1) := by decide +kernel
theorem dL_law_1230 : decode cL_law 1230 = .ok (.iadd, 1) := by decide +kernel
theorem dL_law_1231 : decode cL_law 1231 = .ok (.iastore, 1) := by decide +kernel
theorem dL_law_1232 : decode cL_law 1232 = .ok (.aload 5, 2) := by decide +kernel
theorem dL_law_1234 : decode cL_law 1234 = .ok (.iload 17, 2) := by decide +kernel
theorem dL_law_1236 : decode cL_law 1236 = .ok (.dup2, 1) := by decide +kernel
theorem dL_law_1237 : decode cL_law 1237 = .ok (.iaload, 1) := by decide +kernel
theorem dL_law_1238 : decode cL_law 1238 = .ok (.iconst 1, 1) := by decide +kernel
theorem dL_law_1239 : decode cL_law 1239 = .ok (.iadd, 1) := by decide +kernel
theorem dL_law_1240 : decode cL_law 1240 = .ok (.iastore, 1) := by decide +kernel
theorem dL_law_1241 : decode cL_law 1241 = .ok (.aload_n 1, 1) := by decide +kernel
theorem dL_law_1242 : decode cL_law 1242 = .ok (.iconst 3, 1) := by decide +kernel
theorem dL_law_1243 : decode cL_law 1243 = .ok (.iload 17, 2) := by decide +kernel
theorem dL_law_1245 : decode cL_law 1245 = .ok (.iconst 1, 1) := by decide +kernel
theorem dL_law_1246 : decode cL_law 1246 = .ok (.iload 15, 2) := by decide +kernel
theorem dL_law_1248 : decode cL_law 1248 = .ok (.bipush 16, 2) := by decide +kernel
theorem dL_law_1250 : decode cL_law 1250 = .ok (.idiv, 1) := by decide +kernel
theorem dL_law_1251 : decode cL_law 1251 = .ok (.bipush 30, 2) := by decide +kernel
theorem dL_law_1253 : decode cL_law 1253 = .ok (.irem, 1) := by decide +kernel
theorem dL_law_1254 : decode cL_law 1254 = .ok (.iadd, 1) := by decide +kernel
theorem dL_law_1255 : decode cL_law 1255 = .ok (.invokestatic 112, 3) := by decide +kernel
theorem dL_law_1258 : decode cL_law 1258 = .ok (.iload 18, 2) := by decide +kernel
theorem dL_law_1260 : decode cL_law 1260 = .ok (.if_icmp .ne 7, 3) := by decide +kernel
theorem dL_law_1263 : decode cL_law 1263 = .ok (.iconst 1, 1) := by decide +kernel
theorem dL_law_1264 : decode cL_law 1264 = .ok (.goto 4, 3) := by decide +kernel
theorem dL_law_1267 : decode cL_law 1267 = .ok (.iconst 0, 1) := by decide +kernel
theorem dL_law_1268 : decode cL_law 1268 = .ok (.istore 11, 2) := by decide +kernel
theorem dL_law_1270 : decode cL_law 1270 = .ok (.goto 155, 3) := by decide +kernel
theorem dL_law_1273 : decode cL_law 1273 = .ok (.iload 14, 2) := by decide +kernel
theorem dL_law_1275 : decode cL_law 1275 = .ok (.bipush 12, 2) := by decide +kernel
theorem dL_law_1277 : decode cL_law 1277 = .ok (.if_icmp .ne 66, 3) := by decide +kernel
theorem dL_law_1280 : decode cL_law 1280 = .ok (.iload 15, 2) := by decide +kernel
theorem dL_law_1282 : decode cL_law 1282 = .ok (.iconst 3, 1) := by decide +kernel
theorem dL_law_1283 : decode cL_law 1283 = .ok (.irem, 1) := by decide +kernel
theorem dL_law_1284 : decode cL_law 1284 = .ok (.ifCond .ne 59, 3) := by decide +kernel
theorem dL_law_1287 : decode cL_law 1287 = .ok (.aload_n 2, 1) := by decide +kernel
theorem dL_law_1288 : decode cL_law 1288 = .ok (.iconst 3, 1) := by decide +kernel
theorem dL_law_1289 : decode cL_law 1289 = .ok (.iaload, 1) := by decide +kernel
theorem dL_law_1290 : decode cL_law 1290 = .ok (.istore 17, 2) := by decide +kernel
theorem dL_law_1292 : decode cL_law 1292 = .ok (.aload_n 2, 1) := by decide +kernel
theorem dL_law_1293 : decode cL_law 1293 = .ok (.iconst 3, 1) := by decide +kernel
theorem dL_law_1294 : decode cL_law 1294 = .ok (.iconst 1, 1) := by decide +kernel
theorem dL_law_1295 : decode cL_law 1295 = .ok (.iload 15, 2) := by decide +kernel
theorem dL_law_1297 : decode cL_law 1297 = .ok (.iconst 3, 1) := by decide +kernel
theorem dL_law_1298 : decode cL_law 1298 = .ok (.idiv, 1) := by decide +kernel
theorem dL_law_1299 : decode cL_law 1299 = .ok (.bipush 60, 2) := by decide +kernel
theorem dL_law_1301 : decode cL_law 1301 = .ok (.irem, 1) := by decide +kernel
theorem dL_law_1302 : decode cL_law 1302 = .ok (.iadd, 1) := by decide +kernel
theorem dL_law_1303 : decode cL_law 1303 = .ok (.iastore, 1) := by decide +kernel
theorem dL_law_1304 : decode cL_law 1304 = .ok (.aload_n 2, 1) := by decide +kernel
theorem dL_law_1305 : decode cL_law 1305 = .ok (.iconst 4, 1) := by decide +kernel
theorem dL_law_1306 : decode cL_law 1306 = .ok (.iconst 1, 1) := by decide +kernel
theorem dL_law_1307 : decode cL_law 1307 = .ok (.iload 15, 2) := by decide +kernel
theorem dL_law_1309 : decode cL_law 1309 = .ok (.sipush 180, 3) := by decide +kernel
theorem dL_law_1312 : decode cL_law 1312 = .ok (.idiv, 1) := by decide +kernel
theorem dL_law_1313 : decode cL_law 1313 = .ok (.bipush 90, 2) := by decide +kernel
theorem dL_law_1315 : decode cL_law 1315 = .ok (.irem, 1) := by decide +kernel
theorem dL_law_1316 : decode cL_law 1316 = .ok (.iadd, 1) := by decide +kernel
theorem dL_law_1317 : decode cL_law 1317 = .ok (.iastore, 1) := by decide +kernel
theorem dL_law_1318 : decode cL_law 1318 = .ok (.aload_n 1, 1) := by decide +kernel
theorem dL_law_1319 : decode cL_law 1319 = .ok (.aload_n 2, 1) := by decide +kernel
theorem dL_law_1320 : decode cL_law 1320 = .ok (.iconst 3, 1) := by decide +kernel
theorem dL_law_1321 : decode cL_law 1321 = .ok (.iaload, 1) := by decide +kernel
theorem dL_law_1322 : decode cL_law 1322 = .ok (.aload_n 2, 1) := by decide +kernel
theorem dL_law_1323 : decode cL_law 1323 = .ok (.iconst 4, 1) := by decide +kernel
theorem dL_law_1324 : decode cL_law 1324 = .ok (.iaload, 1) := by decide +kernel
theorem dL_law_1325 : decode cL_law 1325 = .ok (.invokevirtual 126, 3) := by decide +kernel
theorem dL_law_1328 : decode cL_law 1328 = .ok (.iload 17, 2) := by decide +kernel
theorem dL_law_1330 : decode cL_law 1330 = .ok (.if_icmp .ne 7, 3) := by decide +kernel
theorem dL_law_1333 : decode cL_law 1333 = .ok (.iconst 1, 1) := by decide +kernel
theorem dL_law_1334 : decode cL_law 1334 = .ok (.goto 4, 3) := by decide +kernel
theorem dL_law_1337 : decode cL_law 1337 = .ok (.iconst 0, 1) := by decide +kernel
theorem dL_law_1338 : decode cL_law 1338 = .ok (.istore 11, 2) := by decide +kernel
theorem dL_law_1340 : decode cL_law 1340 = .ok (.goto 85, 3) := by decide +kernel
theorem dL_law_1343 : decode cL_law 1343 = .ok (.iconst 1, 1) := by decide +kernel
theorem dL_law_1344 : decode cL_law 1344 = .ok (.iload 15, 2) := by decide +kernel
theorem dL_law_1346 : decode cL_law 1346 = .ok (.iload 15, 2) := by decide +kernel
theorem dL_law_1348 : decode cL_law 1348 = .ok (.bipush 6, 2) := by decide +kernel
theorem dL_law_1350 : decode cL_law 1350 = .ok (.irem, 1) := by decide +kernel
theorem dL_law_1351 : decode cL_law 1351 = .ok (.ifCond .ne 8, 3) := by decide +kernel
theorem dL_law_1354 : decode cL_law 1354 = .ok (.bipush 60, 2) := by decide +kernel
theorem dL_law_1356 : decode cL_law 1356 = .ok (.goto 4, 3) := by decide +kernel
theorem dL_law_1359 : decode cL_law 1359 = .ok (.iconst 5, 1) := by decide +kernel
theorem dL_law_1360 : decode cL_law 1360 = .ok (.irem, 1) := by decide +kernel
theorem dL_law_1361 : decode cL_law 1361 = .ok (.iadd, 1) := by decide +kernel
theorem dL_law_1362 : decode cL_law 1362 = .ok (.istore 17, 2) := by decide +kernel
theorem dL_law_1364 : decode cL_law 1364 = .ok (.iconst 0, 1) := by decide +kernel
theorem dL_law_1365 : decode cL_law 1365 = .ok (.istore 18, 2) := by decide +kernel
theorem dL_law_1367 : decode cL_law 1367 = .ok (.iconst 0, 1) := by decide +kernel
theorem dL_law_1368 : decode cL_law 1368 = .ok (.istore 19, 2) := by decide +kernel
theorem dL_law_1370 : decode cL_law 1370 = .ok (.iload 19, 2) := by decide +kernel
theorem dL_law_1372 : decode cL_law 1372 = .ok (.iload 17, 2) := by decide +kernel
theorem dL_law_1374 : decode cL_law 1374 = .ok (.if_icmp .ge 33, 3) := by decide +kernel
theorem dL_law_1377 : decode cL_law 1377 = .ok (.iload 18, 2) := by decide +kernel
theorem dL_law_1379 : decode cL_law 1379 = .ok (.aload_n 2, 1) := by decide +kernel
theorem dL_law_1380 : decode cL_law 1380 = .ok (.aload_n 3, 1) := by decide +kernel
theorem dL_law_1381 : decode cL_law 1381 = .ok (.aload 4, 2) := by decide +kernel
theorem dL_law_1383 : decode cL_law 1383 = .ok (.aload 5, 2) := by decide +kernel
theorem dL_law_1385 : decode cL_law 1385 = .ok (.aload 6, 2) := by decide +kernel
theorem dL_law_1387 : decode cL_law 1387 = .ok (.aload 7, 2) := by decide +kernel
theorem dL_law_1389 : decode cL_law 1389 = .ok (.aload 8, 2) := by decide +kernel
theorem dL_law_1391 : decode cL_law 1391 = .ok (.aload 9, 2) := by decide +kernel
theorem dL_law_1393 : decode cL_law 1393 = .ok (.aload 10, 2) := by decide +kernel
theorem dL_law_1395 : decode cL_law 1395 = .ok (.invokestatic 129, 3) := by decide +kernel
theorem dL_law_1398 : decode cL_law 1398 = .ok (.iadd, 1) := by decide +kernel
theorem dL_law_1399 : decode cL_law 1399 = .ok (.istore 18, 2) := by decide +kernel
theorem dL_law_1401 : decode cL_law 1401 = .ok (.iinc 19 1, 3) := by decide +kernel
theorem dL_law_1404 : decode cL_law 1404 = .ok (.goto (-34), 3) := by decide +kernel
theorem dL_law_1407 : decode cL_law 1407 = .ok (.aload_n 1, 1) := by decide +kernel
theorem dL_law_1408 : decode cL_law 1408 = .ok (.iload 17, 2) := by decide +kernel
theorem dL_law_1410 : decode cL_law 1410 = .ok (.invokevirtual 133, 3) := by decide +kernel
theorem dL_law_1413 : decode cL_law 1413 = .ok (.iload 18, 2) := by decide +kernel
theorem dL_law_1415 : decode cL_law 1415 = .ok (.if_icmp .ne 7, 3) := by decide +kernel
theorem dL_law_1418 : decode cL_law 1418 = .ok (.iconst 1, 1) := by decide +kernel
theorem dL_law_1419 : decode cL_law 1419 = .ok (.goto 4, 3) := by decide +kernel
theorem dL_law_1422 : decode cL_law 1422 = .ok (.iconst 0, 1) := by decide +kernel
theorem dL_law_1423 : decode cL_law 1423 = .ok (.istore 11, 2) := by decide +kernel
theorem dL_law_1425 : decode cL_law 1425 = .ok (.iload 11, 2) := by decide +kernel
theorem dL_law_1427 : decode cL_law 1427 = .ok (.ifCond .eq 28, 3) := by decide +kernel
theorem dL_law_1430 : decode cL_law 1430 = .ok (.aload_n 1, 1) := by decide +kernel
theorem dL_law_1431 : decode cL_law 1431 = .ok (.aload_n 2, 1) := by decide +kernel
theorem dL_law_1432 : decode cL_law 1432 = .ok (.aload_n 3, 1) := by decide +kernel
theorem dL_law_1433 : decode cL_law 1433 = .ok (.aload 6, 2) := by decide +kernel
theorem dL_law_1435 : decode cL_law 1435 = .ok (.aload 7, 2) := by decide +kernel
theorem dL_law_1437 : decode cL_law 1437 = .ok (.aload 8, 2) := by decide +kernel
theorem dL_law_1439 : decode cL_law 1439 = .ok (.aload 9, 2) := by decide +kernel
theorem dL_law_1441 : decode cL_law 1441 = .ok (.aload 10, 2) := by decide +kernel
theorem dL_law_1443 : decode cL_law 1443 = .ok (.iload 15, 2) := by decide +kernel
theorem dL_law_1445 : decode cL_law 1445 = .ok (.invokestatic 104, 3) := by decide +kernel
theorem dL_law_1448 : decode cL_law 1448 = .ok (.ifCond .eq 7, 3) := by decide +kernel
theorem dL_law_1451 : decode cL_law 1451 = .ok (.iconst 1, 1) := by decide +kernel
theorem dL_law_1452 : decode cL_law 1452 = .ok (.goto 4, 3) := by decide +kernel
theorem dL_law_1455 : decode cL_law 1455 = .ok (.iconst 0, 1) := by decide +kernel
theorem dL_law_1456 : decode cL_law 1456 = .ok (.istore 11, 2) := by decide +kernel
theorem dL_law_1458 : decode cL_law 1458 = .ok (.iinc 12 1, 3) := by decide +kernel
theorem dL_law_1461 : decode cL_law 1461 = .ok (.goto (-1302), 3) := by decide +kernel
theorem dL_law_1464 : decode cL_law 1464 = .ok (.iload 11, 2) := by decide +kernel
theorem dL_law_1466 : decode cL_law 1466 = .ok (.ireturn, 1) := by decide +kernel
abbrev vwCl : List vw_C := [(RX0, TX0, 11), (RX1, TX1, 2), (RX2, TX2, 2), (RX3, TX3, 2), (RX4, TX4, 12)]
