abbrev P2T : Type := (Nat → Prop) → State → Heap → Prop
/-- a further premise that calls keep -/
def P2ok (P2 : P2T) : Prop := (∀ (A : Nat → Prop) (U : State) (g : JFrame) (mk : MethodId) (a : Array Value), P2 A U U.heap → P2 A (U.calling g mk a) (U.calling g mk a).heap) ∧ ∀ (A B : Nat → Prop) (s U : State) (H : Heap) (locs : List Loc), P2 A s s.heap → va_S A s.heap H locs → (∀ q, B q → A q) → U.heap = H → s.WarmedH U.vm → P2 B U U.heap
def P2n : P2T := fun _ _ _ => True
theorem P2n_ok : P2ok P2n := ⟨fun _ _ _ _ _ _ => trivial, fun _ _ _ _ _ _ _ _ _ _ _ => trivial⟩
def QI (D : va_G) {X : Type} (r : X → va_W) (A : Nat → Prop) : Array Value → State → Outcome → State → Prop := fun _ st oc t => (∃ x, oc = .returned none ∧ PO D (r x) A t) ∧ va_F A st t
/-- a constructor's contract -/
def EI (l : Launch) (D : va_G) (cs : Nat → ClassId) (sa : Nat → Nat) (P2 : P2T) (y : MethodName) (cc : ByteArray) (maxL : Nat) (rm : Room) (mc ms : Nat) (av : List Value) (w : va_W) {X : Type} (r : X → va_W) : Prop :=
  ∀ sz : Nat, Met l y (.code y cc maxL none :: WT) rm (va_Pc av (fun U => PR D cs sa w sz U ∧ P2 (va_A w sz) U U.heap)) (QI D r (va_A w sz)) mc ms (va_A w sz)
theorem EI.of {l : Launch} {D : va_G} {cs : Nat → ClassId} {sa : Nat → Nat} {P2 : P2T} {y : MethodName} {cc : ByteArray} {maxL : Nat} {rm : Room} {mc ms : Nat} {av : List Value} {w : va_W} {X : Type} {r : X → va_W} (own : String) (hl : l.stackTraces = false) (hy : plainName y.cls = true) (ho : y.cls = own) (hn : (lg_sl av).length ≤ maxL)
    (body : ∀ (p : Program) (e : Env) (s : State) (m : MethodId) (args : Array Value) (below : List Frame) (meth : Method) (c : Code) (A : Nat → Prop), CX p l e rm s m args below meth c D cs sa A cc maxL own none → meth.name = y.name → P2 A s s.heap → J p l e rm s m args below meth c D A maxL 0 0 (MQ below (QI D r A) args s mc ms A) w 0 (lv_args 0 av) []) : EI l D cs sa P2 y cc maxL rm mc ms av w r := by
  intro sz
  refine Met.ofW hy rfl ?_
  intro p e s m args below meth c s₁ B hml hv
  obtain ⟨rfl, ⟨hsz, hP, hK, hD, hST⟩, h2⟩ := hv
  subst hsz
  rw [lg_entry_eq]
  have hts := atoms_spec (ws := .code y cc maxL none :: WT) B.pre
  exact body p e s m _ below meth c _ ⟨⟨B.exec, B.bytes, hml, by rw [← ho]; exact findClass_of_methodNamed B.named, fun w hw => hts w (List.mem_cons_of_mem _ hw)⟩, B.returns, B.notSynchronized, hK, fun q h => Or.inr h, hST, hl⟩ (name_of_methodNamed B.named B.method).1 h2 s.heap [] _ hP hD.self va_S.rf (lv_entry av hn)
def QX (D : va_G) {X : Type} (t0 : Option String) (r : X → Option Value × va_W) (A : Nat → Prop) : Array Value → State → Outcome → State → Prop := fun _ st oc t => (t0 = none ∧ ∃ x, oc = .returned (r x).1 ∧ PO D (r x).2 A t) ∧ va_F A st t
/-- a contract whose answer names new cells -/
def EX (l : Launch) (D : va_G) (cs : Nat → ClassId) (sa : Nat → Nat) (y : MethodName) (cc : ByteArray) (maxL : Nat) (ret : Option FieldType) (rm : Room) (mc ms : Nat) (av : List Value) (w : va_W) {X : Type} (t0 : Option String) (r : X → Option Value × va_W) : Prop :=
  ∀ sz : Nat, vx_Met l y (.code y cc maxL ret :: WT) rm (va_Pc av (PR D cs sa w sz)) (QX D t0 r (va_A w sz)) (XQ D w (t0, none, w) (va_A w sz)) mc ms (va_A w sz)
def EH (l : Launch) (D : va_G) (cs : Nat → ClassId) (sa : Nat → Nat) (y : MethodName) (cc : ByteArray) (maxL : Nat) (ret : Option FieldType) (hh : List (Nat × Nat × Nat × Nat)) (rm : Room) (mc ms : Nat) (av : List Value) (w : va_W) {X : Type} (r : X → Option Value × va_W) : Prop :=
  ∀ sz : Nat, vx_Met l y (.codeWith y cc maxL ret hh :: WT) rm (va_Pc av (PR D cs sa w sz)) (QX D none r (va_A w sz)) (XQ D w (none, none, w) (va_A w sz)) mc ms (va_A w sz)
abbrev QY (below : List Frame) (args : Array Value) (s : State) (D : va_G) (A : Nat → Prop) (mc ms : Nat) (w : va_W) {X : Type} (t0 : Option String) (r : X → Option Value × va_W) : State → Prop := vx_MQ below (QX D t0 r A) (XQ D w (t0, none, w) A) args s mc ms A
theorem EX.of {l : Launch} {D : va_G} {cs : Nat → ClassId} {sa : Nat → Nat} {y : MethodName} {cc : ByteArray} {maxL : Nat} {ret : Option FieldType} {rm : Room} {mc ms : Nat} {av : List Value} {w : va_W} {X : Type} {t0 : Option String} {r : X → Option Value × va_W} (own : String) (hl : l.stackTraces = false) (hy : plainName y.cls = true) (ho : y.cls = own) (hn : (lg_sl av).length ≤ maxL)
    (body : ∀ (p : Program) (e : Env) (s : State) (m : MethodId) (args : Array Value) (below : List Frame) (meth : Method) (c : Code) (A : Nat → Prop), CX p l e rm s m args below meth c D cs sa A cc maxL own ret → (∀ x ∈ c.exceptionTable.toList, False) → J p l e rm s m args below meth c D A maxL 0 0 (QY below args s D A mc ms w t0 r) w 0 (lv_args 0 av) []) : EX l D cs sa y cc maxL ret rm mc ms av w t0 r := by
  intro sz
  refine vx_ofW hy rfl ?_
  intro p e s m args below meth c s₁ B hml hx hv
  obtain ⟨rfl, hsz, hP, hK, hD, hST⟩ := hv
  subst hsz
  rw [lg_entry_eq]
  have hts := atoms_spec (ws := .code y cc maxL ret :: WT) B.pre
  exact body p e s m _ below meth c _ ⟨⟨B.exec, B.bytes, hml, by rw [← ho]; exact findClass_of_methodNamed B.named, fun w hw => hts w (List.mem_cons_of_mem _ hw)⟩, B.returns, B.notSynchronized, hK, fun q h => Or.inr h, hST, hl⟩ hx s.heap [] _ hP hD.self va_S.rf (lv_entry av hn)
theorem EH.of {l : Launch} {D : va_G} {cs : Nat → ClassId} {sa : Nat → Nat} {y : MethodName} {cc : ByteArray} {maxL : Nat} {ret : Option FieldType} {hh : List (Nat × Nat × Nat × Nat)} {rm : Room} {mc ms : Nat} {av : List Value} {w : va_W} {X : Type} {r : X → Option Value × va_W} (own : String) (hl : l.stackTraces = false) (hy : plainName y.cls = true) (ho : y.cls = own) (hn : (lg_sl av).length ≤ maxL)
    (body : ∀ (p : Program) (e : Env) (s : State) (m : MethodId) (args : Array Value) (below : List Frame) (meth : Method) (c : Code) (A : Nat → Prop), CX p l e rm s m args below meth c D cs sa A cc maxL own ret → c.exceptionTable.toList = tableOf hh → J p l e rm s m args below meth c D A maxL 0 0 (QY below args s D A mc ms w none r) w 0 (lv_args 0 av) []) : EH l D cs sa y cc maxL ret hh rm mc ms av w r := by
  intro sz
  refine vx_ofWH hy rfl ?_
  intro p e s m args below meth c s₁ B hml hv
  obtain ⟨rfl, hsz, hP, hK, hD, hST⟩ := hv
  subst hsz
  rw [lg_entry_eq]
  have hts := atoms_spec (ws := .codeWith y cc maxL ret hh :: WT) B.pre
  exact body p e s m _ below meth c _ ⟨⟨B.exec, B.bytes, hml, by rw [← ho]; exact findClass_of_methodNamed B.named, fun w hw => hts w (List.mem_cons_of_mem _ hw)⟩, B.returns, B.notSynchronized, hK, fun q h => Or.inr h, hST, hl⟩ (vx_table (x := y) B (hts _ List.mem_cons_self)) s.heap [] _ hP hD.self va_S.rf (lv_entry av hn)
theorem app_r {α : Type} (a b : List α) (k : Nat) (x : α) (h : b[k]? = some x) : (a ++ b)[a.length + k]? = some x := by
  rw [List.getElem?_append_right (by omega), show a.length + k - a.length = k by omega]; exact h
theorem app_l {α : Type} (a b : List α) (k : Nat) (x : α) (h : a[k]? = some x) : (a ++ b)[k]? = some x := by
  rw [List.getElem?_append_left (List.getElem?_eq_some_iff.mp h).1]; exact h
theorem fr_off {A0 : Nat → Prop} {D : va_G} {wr wc : va_W} {H : Heap} (hP : va_P D vwCl (wr ++ wc) H) (hD : va_D A0 (wr ++ wc)) {k : Nat} {q : Nat × va_E} (hq : wr[k]? = some q) : q.1 < H.size ∧ ¬ va_A wc H.size q.1 := by
  have h1 := vx_lt hP (app_l wr wc k q hq)
  refine ⟨h1, fun h => ?_⟩
  rcases h with ⟨j, e9, hj⟩ | h
  · have := hD.1 k (wr.length + j) q _ (app_l wr wc k q hq) (app_r wr wc j _ hj) rfl
    have := (List.getElem?_eq_some_iff.mp hq).1
    omega
  · omega
theorem fr_P {A0 : Nat → Prop} {D : va_G} {wr wc w1 : va_W} {H H1 : Heap} (hP : va_P D vwCl (wr ++ wc) H) (hD : va_D A0 (wr ++ wc)) (hk : ∀ q : Nat, q < H.size → ¬ va_A wc H.size q → H1[q]? = H[q]?) (hF : ∀ q, va_A wc H.size q → A0 q) (hP1 : va_P D vwCl w1 H1) (hD1 : va_D (va_A wc H.size) w1) : va_P D vwCl (wr ++ w1) H1 ∧ va_D A0 (wr ++ w1) := by
  have hPr : va_P D vwCl wr H := fun k q hq => hP k q (app_l wr wc k q hq)
  have hDr : va_D A0 wr := ⟨fun i j p q h1 h2 h => hD.1 i j p q (app_l wr wc i p h1) (app_l wr wc j q h2) h, fun k q h => hD.2 k q (app_l wr wc k q h)⟩
  refine ⟨(hPr.kept fun k q hq => ?_).app hP1, hDr.app (hD1.weaken fun _ q _ h => hF _ h) fun i j p q h1 h2 e => ?_⟩
  · obtain ⟨a1, a2⟩ := fr_off hP hD hq
    exact hk _ a1 a2
  · exact (fr_off hP hD h1).2 (by rw [e]; exact hD1.2 j q h2)
section R11
variable {p : Program} {l : Launch} {e : Env} {R : Room} {s : State} {m : MethodId} {args : Array Value} {below : List Frame} {meth : Method} {c : Code} {D : va_G} {cs : Nat → ClassId} {sa : Nat → Nat} {A : Nat → Prop} {cc : ByteArray} {nL : Nat} {own : String} {ret : Option FieldType} {cells slots : Nat} {Q : State → Prop} {w : va_W} {pc : Nat} {lv : List (Nat × Value)} {st : List Value}
theorem j_objInit (hc : CX p l e R s m args below meth c D cs sa A cc nL own ret) {idx : Nat} {x : Nat} (hl : Cond.methodLink own idx objectInit ∈ WT) (hi : Cond.instanceMethod objectInit ∈ WT) (hco : Cond.code objectInit ⟨#[0xb1]⟩ 1 none ∈ WT) (hdg : decode cc pc = .ok (.invokespecial idx, 3)) (hfr : 1 ≤ R.frames) (hlo : (st.map fun v => v.category).sum + 12 ≤ R.locals) (k : J p l e R s m args below meth c D A nL cells slots Q w (pc + 3) lv st) : J p l e R s m args below meth c D A nL cells slots Q w pc lv (.ref x :: st) := fun H locs ls hP hD hS hlv =>
  W.objInit hc.1.1 hc.1.2.1 hc.1.2.2.2.1 (hc.1.2.2.2.2 _ hl) (hc.1.2.2.2.2 _ hi) (hc.1.2.2.2.2 _ hco) rfl (hlv.1.trans hc.1.2.2.1.symm) rfl hdg hfr (by show 2 * 0 + _ + 12 ≤ _; omega) (k H locs ls hP hD hS hlv)
theorem j_new (hc : CX p l e R s m args below meth c D cs sa A cc nL own ret) {K : String} {T : u_T} {N ci index : Nat} (hin : ∀ w ∈ u_ws K T N, w ∈ WT) (ty : Nat → FieldType) (hty : ∀ k, k < N → parseFieldDescriptor (T k).2.2.1 = some (ty k)) (h1 : Cond.classLink own index K ∈ WT) (h2 : Cond.instantiable K N ∈ WT) (h3 : Cond.initialized K ∈ WT) (hcl : vwCl[ci]? = some (K, T, N)) {fs : List Value} (hfs : ∀ j, j < N → defaultValue (ty j) = vp_V fs j) (hce : cells + 1 ≤ R.cells) (hsl : slots + N ≤ R.slots) (hdg : decode cc pc = .ok (.new index, 3)) (kk : ∀ q : Nat, J p l e R s m args below meth c D A nL (cells + 1) (slots + N) Q (w ++ [(q, .inr (ci, fs))]) (pc + 3) lv (.ref q :: st)) : J p l e R s m args below meth c D A nL cells slots Q w pc lv st := fun H locs ls hP hD hS hlv =>
  va_new (D := D) (cl := vwCl) hc.1.1 hc.1.2.1 hc.1.2.2.2.2 hin ty hty hc.1.2.2.2.1 (hc.1.2.2.2.2 _ h1) (hc.1.2.2.2.2 _ h2) (hc.1.2.2.2.2 _ h3) hc.2.2.2.1 hP hD hS hc.2.2.2.2.1 hcl hfs hce hsl hdg (fun q H1 hP hD hS => kk q H1 locs ls hP hD hS hlv)
theorem j_newaI (hc : CX p l e R s m args below meth c D cs sa A cc nL own ret) {k : Int32} {N : Nat} (hn : ¬ k < 0) (hN : k.toNatClampNeg = N) (hby : N * componentBytes .int ≤ 536870912) (hce : cells + 1 ≤ R.cells) (hsl : slots + N ≤ R.slots) (hdg : decode cc pc = .ok (.newarray .int, 2)) (kk : ∀ q : Nat, J p l e R s m args below meth c D A nL (cells + 1) (slots + N) Q (w ++ [(q, .inl (cs 0, N, .inl (fun _ => 0)))]) (pc + 2) lv (.ref q :: st)) : J p l e R s m args below meth c D A nL cells slots Q w pc lv (.int k :: st) := fun H locs ls hP hD hS hlv =>
  va_newa (atype := .int) (a0 := (N, .inl (fun _ => 0))) (D := D) (cl := vwCl) hc.1.1 hc.1.2.1 (hc.1.2.2.2.2 _ (by exact wt_54)) rfl hc.2.2.2.1 hP hD hS hc.2.2.2.2.1 (fun cA => rfl) hn hN hby hce hsl hdg (fun q cA H1 hK hP hD hS => by
    have e1 : va_RA s cA .int := (hK.2 5 (cA, .int) rfl).2
    have e2 : va_RA s (cs 0) .int := (hc.2.2.2.1.2 0 (cs 0, .int) rfl).2
    have e3 : cA = cs 0 := Option.some.inj ((show s.vm.findClass _ = some cA from e1).symm.trans (show s.vm.findClass _ = some (cs 0) from e2))
    subst e3
    exact kk q H1 locs ls hP hD hS hlv)
theorem j_newaJ (hc : CX p l e R s m args below meth c D cs sa A cc nL own ret) {k : Int32} {N : Nat} (hn : ¬ k < 0) (hN : k.toNatClampNeg = N) (hby : N * componentBytes .long ≤ 536870912) (hce : cells + 1 ≤ R.cells) (hsl : slots + N ≤ R.slots) (hdg : decode cc pc = .ok (.newarray .long, 2)) (kk : ∀ q : Nat, J p l e R s m args below meth c D A nL (cells + 1) (slots + N) Q (w ++ [(q, .inl (cs 1, N, .inr (.inl (fun _ => 0))))]) (pc + 2) lv (.ref q :: st)) : J p l e R s m args below meth c D A nL cells slots Q w pc lv (.int k :: st) := fun H locs ls hP hD hS hlv =>
  va_newa (atype := .long) (a0 := (N, .inr (.inl (fun _ => 0)))) (D := D) (cl := vwCl) hc.1.1 hc.1.2.1 (hc.1.2.2.2.2 _ (by exact wt_36)) rfl hc.2.2.2.1 hP hD hS hc.2.2.2.2.1 (fun cA => rfl) hn hN hby hce hsl hdg (fun q cA H1 hK hP hD hS => by
    have e1 : va_RA s cA .long := (hK.2 5 (cA, .long) rfl).2
    have e2 : va_RA s (cs 1) .long := (hc.2.2.2.1.2 1 (cs 1, .long) rfl).2
    have e3 : cA = cs 1 := Option.some.inj ((show s.vm.findClass _ = some cA from e1).symm.trans (show s.vm.findClass _ = some (cs 1) from e2))
    subst e3
    exact kk q H1 locs ls hP hD hS hlv)
theorem j_newqGaps (hc : CX p l e R s m args below meth c D cs sa A cc nL own ret) {index : Nat} (hcl : Cond.classLink own index RX3 ∈ WT) (hov : va_AO RX3 s) {k : Int32} {N : Nat} (hn : ¬ k < 0) (hN : k.toNatClampNeg = N) (hby : N * 4 ≤ 536870912) (hce : cells + 1 ≤ R.cells) (hsl : slots + N ≤ R.slots) (hdg : decode cc pc = .ok (.anewarray index, 3)) (kk : ∀ q : Nat, J p l e R s m args below meth c D A nL (cells + 1) (slots + N) Q (w ++ [(q, .inl (cs 4, N, .inr (.inr (.inr (.inr (fun _ => none))))))]) (pc + 3) lv (.ref q :: st)) : J p l e R s m args below meth c D A nL cells slots Q w pc lv (.int k :: st) := fun H locs ls hP hD hS hlv =>
  va_newq (D := D) (cl := vwCl) hc.1.1 hc.1.2.1 hc.1.2.2.2.1 (hc.1.2.2.2.2 _ hcl) hov hc.2.2.2.1 hP hD hS hc.2.2.2.2.1 hn hN hby hce hsl hdg (fun q cA H1 hK hP hD hS => by
    have e1 : va_RA s cA (.object RX3) := (hK.2 5 (cA, .object RX3) rfl).2
    have e2 : va_RA s (cs 4) (.object RX3) := (hc.2.2.2.1.2 4 (cs 4, .object RX3) rfl).2
    obtain ⟨_, _, _, _, _, f1⟩ := e1
    obtain ⟨_, _, _, _, _, f2⟩ := e2
    have e3 : cA = cs 4 := Option.some.inj (f1.symm.trans f2)
    subst e3
    exact kk q H1 locs ls hP hD hS hlv)
theorem j_newqBill (hc : CX p l e R s m args below meth c D cs sa A cc nL own ret) {index : Nat} (hcl : Cond.classLink own index RX0 ∈ WT) (hov : va_AO RX0 s) {k : Int32} {N : Nat} (hn : ¬ k < 0) (hN : k.toNatClampNeg = N) (hby : N * 4 ≤ 536870912) (hce : cells + 1 ≤ R.cells) (hsl : slots + N ≤ R.slots) (hdg : decode cc pc = .ok (.anewarray index, 3)) (kk : ∀ q : Nat, J p l e R s m args below meth c D A nL (cells + 1) (slots + N) Q (w ++ [(q, .inl (cs 3, N, .inr (.inr (.inr (.inr (fun _ => none))))))]) (pc + 3) lv (.ref q :: st)) : J p l e R s m args below meth c D A nL cells slots Q w pc lv (.int k :: st) := fun H locs ls hP hD hS hlv =>
  va_newq (D := D) (cl := vwCl) hc.1.1 hc.1.2.1 hc.1.2.2.2.1 (hc.1.2.2.2.2 _ hcl) hov hc.2.2.2.1 hP hD hS hc.2.2.2.2.1 hn hN hby hce hsl hdg (fun q cA H1 hK hP hD hS => by
    have e1 : va_RA s cA (.object RX0) := (hK.2 5 (cA, .object RX0) rfl).2
    have e2 : va_RA s (cs 3) (.object RX0) := (hc.2.2.2.1.2 3 (cs 3, .object RX0) rfl).2
    obtain ⟨_, _, _, _, _, f1⟩ := e1
    obtain ⟨_, _, _, _, _, f2⟩ := e2
    have e3 : cA = cs 3 := Option.some.inj (f1.symm.trans f2)
    subst e3
    exact kk q H1 locs ls hP hD hS hlv)
theorem j_ivret (hc : CX p l e R s m args below meth c D cs sa A cc nL own ret) {mc ms : Nat} {X : Type} {r : X → va_W} (x : X) (hret : ret = none) (h1 : cells ≤ mc) (h2 : slots ≤ ms) (hr : r x = w) (hdg : decode cc pc = .ok (.return_, 1)) : J p l e R s m args below meth c D A nL cells slots (MQ below (QI D r A) args s mc ms A) w pc lv [] := fun H locs ls hP hD hS hlv =>
  W.widen h1 h2 (W.vret hc.1.1 hc.1.2.1 (hc.2.1.trans hret) (fun t ht _ => ⟨⟨x, rfl, by rw [PO, ht, hr]; exact ⟨hP, hD⟩⟩, hS.F ht⟩) hS.2.2 hdg hc.2.2.1)
theorem j_xiret (hc : CX p l e R s m args below meth c D cs sa A cc nL own ret) {mc ms : Nat} {w0 : va_W} {X : Type} {t0 : Option String} {r : X → Option Value × va_W} {v : Int32} (x : X) (hret : ret = some .int) (h1 : cells ≤ mc) (h2 : slots ≤ ms) (ht0 : t0 = none) (hr : r x = (some (.int v), w)) (hdg : decode cc pc = .ok (.ireturn, 1)) : J p l e R s m args below meth c D A nL cells slots (QY below args s D A mc ms w0 t0 r) w pc lv [.int v] := fun H locs ls hP hD hS hlv =>
  vx_ret (W.widen h1 h2 (W.iret hc.1.1 hc.1.2.1 (hc.2.1.trans hret) (fun t ht _ => ⟨⟨ht0, x, by rw [hr], by rw [PO, ht, hr]; exact ⟨hP, hD⟩⟩, hS.F ht⟩) hS.2.2 hdg hc.2.2.1))
theorem jx_outY (ho : ∀ x ∈ c.exceptionTable.toList, False) (hlk : meth.locks = false) {mc ms : Nat} {w0 : va_W} {X : Type} {t0 : Option String} {r : X → Option Value × va_W} {E : String} (h1 : cells ≤ mc) (h2 : slots ≤ ms) (hr : t0 = some E ∧ w = w0) : JX p l e R s m args below meth c D A nL cells slots (QY below args s D A mc ms w0 t0 r) w pc lv st E := fun H locs ls ce q hP hD hS hl hq hv hcl => by
  obtain ⟨hr, rfl⟩ := hr
  exact vx_out (fun x hx => (ho x hx).elim) hlk hq hv hcl (fun t ht _ => ⟨⟨hr, by rw [PO, ht]; exact ⟨hP, hD⟩⟩, hS.F ht⟩) hS.2.2 h1 h2
theorem j_callI (hc : CX p l e R s m args below meth c D cs sa A cc nL own ret) {y : MethodName} {cc2 : ByteArray} {maxL : Nat} {rm : Room} {mc ms n index : Nat} {As : List Value} {b : Nat} {P2 : P2T} {X : Type} {r : X → va_W} {wc : va_W} (wr : va_W) (hM : EI l D cs sa P2 y cc2 maxL rm mc ms (.ref b :: As) wc r) (hv : IC own index y cc2 maxL n) (hok : P2ok P2) (hp2 : P2 A s s.heap) (hn : As.length = n) (hrm : rm.cells = mc ∧ rm.slots = ms ∧ rm.frames + 1 ≤ R.frames ∧ 8 + (maxL + 11) + rm.locals ≤ R.locals) (hw : w = wr ++ wc) {st0 : List Value} (hst : st0 = As.reverse ++ .ref b :: st) (hroom : (st.map fun v => v.category).sum ≤ 8) (hf : cells + mc ≤ R.cells ∧ slots + ms ≤ R.slots) (hdg : decode cc pc = .ok (.invokespecial index, 3)) (kk : ∀ x, J p l e R s m args below meth c D A nL (cells + mc) (slots + ms) Q (wr ++ r x) (pc + 3) lv st) : J p l e R s m args below meth c D A nL cells slots Q w pc lv st0 := fun H locs ls hP hD hS hlv => by
  subst hw
  obtain ⟨v1, v2, v4, v5, v6, v7, v8, v9⟩ := hv
  have hF : ∀ q, va_A wc H.size q → A q := fun q h => h.elim (fun ⟨k, e, h⟩ => hD.2 _ _ (app_r wr wc k _ h)) (fun h => hc.2.2.2.2.1 q (Nat.le_trans hS.1 h))
  have hPc : va_P D vwCl wc H := fun k q hq => hP _ q (app_r wr wc k q hq)
  have hDc : va_D A wc := ⟨fun i j p q h1 h2 h => by have := hD.1 _ _ p q (app_r wr wc i p h1) (app_r wr wc j q h2) h; omega, fun k q h => hD.2 _ q (app_r wr wc k q h)⟩
  have hpre : PreS s H (va_Pc (.ref b :: As) (fun U => PR D cs sa wc H.size U ∧ P2 (va_A wc H.size) U U.heap)) (.ref b :: As) :=
    ⟨fun a U g mk h => ⟨h.1, (PR.blind (av := .ref b :: As) a U g mk ⟨h.1, h.2.1⟩).2, hok.1 _ U g mk a h.2.2⟩, fun U hU hW => ⟨rfl, ⟨by rw [hU], by rw [hU]; exact hPc, va_K.moved hW.alike hc.2.2.2.1, hDc.weaken (fun _ _ _ _ => trivial), ST.call hc.2.2.2.2.2.1 hS hF hU hW⟩, hok.2 _ _ s U H locs hp2 hS hF hU hW⟩⟩
  have hr := va_runI (As := As) (rest := st) (H := H) (locs := locs) (cells := cells) (slots := slots) (g := F0 m pc ls st0) (Ts := WT) (p := p) (e := e) (below := below) (meth := meth) (args := args) (R := R) hc.1 (hM H.size) ⟨callB_of n hc.1.2.2.2.2 (wt_gi (ws := .code y cc2 maxL none :: WT) (fun w h => (List.mem_cons.mp h).elim (fun h => h ▸ v5) id)) rfl hrm.1 hrm.2.1 (hc.1.2.2.2.2 _ v4) (hc.1.2.2.2.2 _ v1) ⟨v7, v8, v9⟩ hrm.2.2, v6, hc.1.2.2.2.2 _ v2⟩ hpre rfl hn hlv.1 hst (lv_room hroom) hdg hf
  intro T hT X9
  obtain ⟨v, st₀, t, T', L, h0, X', hL, e1, e2, ⟨⟨x, hv, hP1, hD1⟩, hF1⟩, st9⟩ := hr T hT X9
  cases hv
  obtain ⟨k1, k2, k3⟩ := vx_keep h0 e1 hS (fun q _ h => hF q h) hF hL hF1
  rw [← e1] at hP1
  obtain ⟨z1, z2⟩ := fr_P hP hD k2 hF hP1 hD1
  obtain ⟨t2, a1, b1⟩ := kk x T'.heap (locs ++ L) ls z1 z2 k3 hlv T' rfl X'
  exact ⟨t2, st9 t2 a1, b1⟩
theorem j_callX' (hc : CX p l e R s m args below meth c D cs sa A cc nL own ret) {y : MethodName} {cc2 : ByteArray} {maxL : Nat} {ret2 : Option FieldType} {rm : Room} {mc ms n index : Nat} {As : List Value} {X : Type} {t1 : Option String} {r : X → Option Value × va_W} {K : String} {b : Nat} (hM : EX l D cs sa y cc2 maxL ret2 rm mc ms (.ref b :: As) w t1 r) (hv : VC own index K y cc2 maxL ret2 n) (hn : As.length = n) (hrm : rm.cells = mc ∧ rm.slots = ms ∧ rm.frames + 1 ≤ R.frames ∧ 8 + (maxL + 11) + rm.locals ≤ R.locals) (q0 : Nat) {ci : Nat} {fs : List Value} {T : u_T} {N : Nat} (he : w[q0]? = some (b, .inr (ci, fs))) (hcl : vwCl[ci]? = some (K, T, N)) {st0 : List Value} (hst : st0 = As.reverse ++ .ref b :: st) (hroom : (st.map fun v => v.category).sum ≤ 8) (hf : cells + mc ≤ R.cells ∧ slots + ms ≤ R.slots) (hdg : decode cc pc = .ok (.invokevirtual index, 3))
    (kx : ∀ E, t1 = some E → JX p l e R s m args below meth c D A nL (cells + mc) (slots + ms) Q w pc lv st E) (kk : t1 = none → ∀ x, J p l e R s m args below meth c D A nL (cells + mc) (slots + ms) Q (r x).2 (pc + 3) lv ((r x).1.toList ++ st)) : J p l e R s m args below meth c D A nL cells slots Q w pc lv st0 := fun H locs ls hP hD hS hl => by
  obtain ⟨v1, v2, v3, v4, v5, v6, v7, v8, v9⟩ := hv
  have hF : ∀ q, va_A w H.size q → A q := fun q h => h.elim (fun ⟨k, e, h⟩ => hD.2 k _ h) (fun h => hc.2.2.2.2.1 q (Nat.le_trans hS.1 h))
  obtain ⟨p1, p2⟩ := j_pre hc (av := .ref b :: As) hP hD hS
  have hr := vx_runV (As := As) (rest := st) (C := K) (Ts := WT) (locs := locs) (cells := cells) (slots := slots) (g := F0 m pc ls st0) (p := p) (e := e) (below := below) (meth := meth) (args := args) (R := R) hc.1 (hM H.size) ⟨callB_of n hc.1.2.2.2.2 (wt_gi (ws := .code y cc2 maxL ret2 :: WT) (fun w h => (List.mem_cons.mp h).elim (fun h => h ▸ v5) id)) rfl hrm.1 hrm.2.1 (hc.1.2.2.2.2 _ v4) (hc.1.2.2.2.2 _ v1) ⟨v7, v8, v9⟩ hrm.2.2, hc.1.2.2.2.2 _ v2, hc.1.2.2.2.2 _ v3⟩ ⟨p1, va_recv hc.2.2.2.1 hP hcl he, p2⟩ rfl hn hl.1 hst (lv_room hroom) hdg hf
  intro T hT X9
  rcases hr T hT X9 with ⟨v, st₀, t, T', L, h0, X', hL, e1, e2, ⟨⟨hn, x, hv, hP1, hD1⟩, hF1⟩, st9⟩ | ⟨q, st₀, t, T', L, E, ce, h0, X', hL, e1, e2, ⟨⟨hE, hP1, hD1⟩, hF1⟩, hce, hcv, hcl, st9⟩
  · cases hv
    obtain ⟨k1, k2, k3⟩ := vx_keep h0 e1 hS (fun q _ h => hF q h) hF hL hF1
    rw [← e1] at hP1
    obtain ⟨t2, a1, b1⟩ := kk hn x T'.heap (locs ++ L) ls hP1 (hD1.weaken fun _ q _ h => hF _ h) k3 hl T' rfl X'
    exact ⟨t2, st9 t2 a1, b1⟩
  · obtain ⟨k1, k2, k3⟩ := vx_keep h0 e1 hS (fun q _ h => hF q h) hF hL hF1
    rw [← e1] at hP1 hce
    obtain ⟨t2, a1, b1⟩ := kx E hE T'.heap (locs ++ L) ls ce q hP1 (hD1.weaken fun _ q _ h => hF _ h) k3 hl hce hcv hcl T' rfl X'
    exact ⟨t2, st9.trans a1, b1⟩
end R11
