section R15
variable {p : Program} {l : Launch} {e : Env} {R : Room} {s : State} {m : MethodId} {args : Array Value} {below : List Frame} {meth : Method} {c : Code} {D : va_G} {cs : Nat → ClassId} {sa : Nat → Nat} {A : Nat → Prop} {cc : ByteArray} {nL : Nat} {own : String} {ret : Option FieldType} {cells slots : Nat} {Q : State → Prop} {w : va_W} {pc : Nat} {lv : List (Nat × Value)} {st : List Value}
theorem j_catch (hc : CX p l e R s m args below meth c D cs sa A cc nL own ret) {E : String} (pre : List ExceptionTableEntry) (x : ExceptionTableEntry) (suf : List ExceptionTableEntry) (hsplit : c.exceptionTable.toList = pre ++ x :: suf) (hpass : ∀ z ∈ pre, z.catchType ≠ 0 ∧ ∃ nm : String, Cond.classLink own z.catchType nm ∈ WT ∧ (E, nm) ∈ ncs) (hx : covers x pc = true) (h0 : x.catchType ≠ 0) (hlink : Cond.classLink own x.catchType E ∈ WT) (hC : E ∈ nwC) {rest : List Value} {h : Nat} (hh : x.handlerPc = h) (kk : ∀ q : Nat, J p l e R s m args below meth c D A nL cells slots Q w h lv [.ref q]) : JX p l e R s m args below meth c D A nL cells slots Q w pc lv rest E := fun H locs ls ce q hP hD hS hl hq hv hcl => by
  subst hh
  obtain ⟨z1, z2, z3, z4, z5, z6⟩ := hc.2.2.2.2.2.1
  exact vx_catch hc.1.2.2.2.1 pre x suf hsplit (fun z hz => Or.inr ⟨(hpass z hz).1, (hpass z hz).2.elim fun nm h => ⟨nm, hc.1.2.2.2.2 _ h.1, z6 _ h.2⟩⟩) hx h0 (hc.1.2.2.2.2 _ hlink) (va_Nw.use rfl (z4 _ hC)) hq hv hcl (kk q H locs ls hP hD hS hl)
def SH (own : String) (index : Nat) (y : MethodName) (cc : ByteArray) (maxL : Nat) (ret : Option FieldType) (hh : List (Nat × Nat × Nat × Nat)) (n : Nat) : Prop := Cond.methodLink own index y ∈ WT ∧ Cond.static y ∈ WT ∧ Cond.initialized y.cls ∈ WT ∧ Cond.codeWith y cc maxL ret hh ∈ WT ∧ y.cls ≠ "java/lang/invoke/MethodHandle" ∧ y.cls ≠ "java/lang/invoke/VarHandle" ∧ (parseMethodDescriptor y.desc).map (fun d => d.parameters.length) = some n
theorem j_callSH (hc : CX p l e R s m args below meth c D cs sa A cc nL own ret) {y : MethodName} {cc2 : ByteArray} {maxL : Nat} {ret2 : Option FieldType} {hh : List (Nat × Nat × Nat × Nat)} {rm : Room} {mc ms n index : Nat} {As : List Value} {r : Option Value × va_W} (hM : CH l D cs sa y cc2 maxL ret2 hh rm mc ms As w (none, r.1, r.2)) (hv : SH own index y cc2 maxL ret2 hh n) (hn : As.length = n) (hrm : rm.cells = mc ∧ rm.slots = ms ∧ rm.frames + 1 ≤ R.frames ∧ 8 + (maxL + 11) + rm.locals ≤ R.locals) {st0 : List Value} (hst : st0 = As.reverse ++ st) (hroom : (st.map fun v => v.category).sum ≤ 8) (hf : cells + mc ≤ R.cells ∧ slots + ms ≤ R.slots) (hdg : decode cc pc = .ok (.invokestatic index, 3)) (kk : J p l e R s m args below meth c D A nL (cells + mc) (slots + ms) Q r.2 (pc + 3) lv (r.1.toList ++ st)) : J p l e R s m args below meth c D A nL cells slots Q w pc lv st0 := fun H locs ls hP hD hS hl => by
  obtain ⟨v1, v2, v4, v5, v7, v8, v9⟩ := hv
  have hF : ∀ q, va_A w H.size q → A q := fun q h => h.elim (fun ⟨k, e, h⟩ => hD.2 k _ h) (fun h => hc.2.2.2.2.1 q (Nat.le_trans hS.1 h))
  have hr := vx_runSX (As := As) (rest := st) (Ts := WT) (locs := locs) (cells := cells) (slots := slots) (g := F0 m pc ls st0) (p := p) (e := e) (below := below) (meth := meth) (args := args) (R := R) hc.1 (hM H.size) (hh := hh) (bytes := cc2) (maxL := maxL) (ret := ret2) (own := own) (index := index) ⟨⟨hrm.1, hrm.2.1, hrm.2.2.1, hrm.2.2.2, pay_in hc.1.2.2.2.2 (wt_gi (ws := .codeWith y cc2 maxL ret2 hh :: WT) (fun w h => (List.mem_cons.mp h).elim (fun h => h ▸ v5) id)), List.mem_cons_self⟩, hc.1.2.2.2.2 _ v5, hc.1.2.2.2.2 _ v4, ⟨v7, v8⟩, fun sig h => by rw [h] at v9; exact (Option.some.inj v9).symm, hc.1.2.2.2.2 _ v1, hc.1.2.2.2.2 _ v2⟩ (j_pre hc (av := As) hP hD hS) rfl hn hl.1 hst (lv_room hroom) hdg hf
  intro T hT X9
  rcases hr T hT X9 with ⟨v, st₀, t, T', L, h0, X', hL, e1, e2, ⟨⟨-, hv, hP1, hD1⟩, hF1⟩, st9⟩ | ⟨q, st₀, t, T', L, E, ce, h0, X', hL, e1, e2, ⟨⟨hE, hP1, hD1⟩, hF1⟩, hce, hcv, hcl, st9⟩
  · cases hv
    obtain ⟨k1, k2, k3⟩ := vx_keep h0 e1 hS (fun q _ h => hF q h) hF hL hF1
    rw [← e1] at hP1
    obtain ⟨t2, a1, b1⟩ := kk T'.heap (locs ++ L) ls hP1 (hD1.weaken fun _ q _ h => hF _ h) k3 hl T' rfl X'
    exact ⟨t2, st9 t2 a1, b1⟩
  · cases hE
theorem j_callXS (hc : CX p l e R s m args below meth c D cs sa A cc nL own ret) {y : MethodName} {cc2 : ByteArray} {maxL : Nat} {ret2 : Option FieldType} {rm : Room} {mc ms n index : Nat} {As : List Value} {X : Type} {r : X → Option Value × va_W} (hM : EX l D cs sa y cc2 maxL ret2 rm mc ms As w none r) (hv : SC own index y cc2 maxL ret2 n) (hn : As.length = n) (hrm : rm.cells = mc ∧ rm.slots = ms ∧ rm.frames + 1 ≤ R.frames ∧ 8 + (maxL + 11) + rm.locals ≤ R.locals) {st0 : List Value} (hst : st0 = As.reverse ++ st) (hroom : (st.map fun v => v.category).sum ≤ 8) (hf : cells + mc ≤ R.cells ∧ slots + ms ≤ R.slots) (hdg : decode cc pc = .ok (.invokestatic index, 3)) (kk : ∀ x, J p l e R s m args below meth c D A nL (cells + mc) (slots + ms) Q (r x).2 (pc + 3) lv ((r x).1.toList ++ st)) : J p l e R s m args below meth c D A nL cells slots Q w pc lv st0 := fun H locs ls hP hD hS hl => by
  obtain ⟨v1, v2, v4, v5, v7, v8, v9⟩ := hv
  have hF : ∀ q, va_A w H.size q → A q := fun q h => h.elim (fun ⟨k, e, h⟩ => hD.2 k _ h) (fun h => hc.2.2.2.2.1 q (Nat.le_trans hS.1 h))
  have hr := vx_runS (As := As) (rest := st) (Ts := WT) (locs := locs) (cells := cells) (slots := slots) (g := F0 m pc ls st0) (p := p) (e := e) (below := below) (meth := meth) (args := args) (R := R) hc.1 (hM H.size) ⟨callB_of n hc.1.2.2.2.2 (wt_gi (ws := .code y cc2 maxL ret2 :: WT) (fun w h => (List.mem_cons.mp h).elim (fun h => h ▸ v5) id)) rfl hrm.1 hrm.2.1 (hc.1.2.2.2.2 _ v4) (hc.1.2.2.2.2 _ v1) ⟨v7, v8, v9⟩ hrm.2.2, hc.1.2.2.2.2 _ v2⟩ (j_pre hc (av := As) hP hD hS) rfl hn hl.1 hst (lv_room hroom) hdg hf
  intro T hT X9
  rcases hr T hT X9 with ⟨v, st₀, t, T', L, h0, X', hL, e1, e2, ⟨⟨hn, x, hv, hP1, hD1⟩, hF1⟩, st9⟩ | ⟨q, st₀, t, T', L, E, ce, h0, X', hL, e1, e2, ⟨⟨hE, hP1, hD1⟩, hF1⟩, hce, hcv, hcl, st9⟩
  · cases hv
    obtain ⟨k1, k2, k3⟩ := vx_keep h0 e1 hS (fun q _ h => hF q h) hF hL hF1
    rw [← e1] at hP1
    obtain ⟨t2, a1, b1⟩ := kk x T'.heap (locs ++ L) ls hP1 (hD1.weaken fun _ q _ h => hF _ h) k3 hl T' rfl X'
    exact ⟨t2, st9 t2 a1, b1⟩
  · cases hE
theorem j_xvret (hc : CX p l e R s m args below meth c D cs sa A cc nL own ret) {mc ms : Nat} {w0 : va_W} {X : Type} {t0 : Option String} {r : X → Option Value × va_W} (x : X) (hret : ret = none) (h1 : cells ≤ mc) (h2 : slots ≤ ms) (ht0 : t0 = none) (hr : r x = (none, w)) (hdg : decode cc pc = .ok (.return_, 1)) : J p l e R s m args below meth c D A nL cells slots (QY below args s D A mc ms w0 t0 r) w pc lv [] := fun H locs ls hP hD hS hlv =>
  vx_ret (W.widen h1 h2 (W.vret hc.1.1 hc.1.2.1 (hc.2.1.trans hret) (fun t ht _ => ⟨⟨ht0, x, by rw [hr], by rw [PO, ht, hr]; exact ⟨hP, hD⟩⟩, hS.F ht⟩) hS.2.2 hdg hc.2.2.1))
theorem j_iaddE (hc : CX p l e R s m args below meth c D cs sa A cc nL own ret) {x y z : Int32} (hz : x + y = z) (hdg : decode cc pc = .ok (.iadd, 1)) (k : J p l e R s m args below meth c D A nL cells slots Q w (pc + 1) lv (.int z :: st)) : J p l e R s m args below meth c D A nL cells slots Q w pc lv (.int y :: .int x :: st) := by
  subst hz
  exact j_iadd hc hdg k
theorem j_isubE (hc : CX p l e R s m args below meth c D cs sa A cc nL own ret) {x y z : Int32} (hz : x - y = z) (hdg : decode cc pc = .ok (.isub, 1)) (k : J p l e R s m args below meth c D A nL cells slots Q w (pc + 1) lv (.int z :: st)) : J p l e R s m args below meth c D A nL cells slots Q w pc lv (.int y :: .int x :: st) := by
  subst hz
  exact j_isub hc hdg k
theorem j_imulE (hc : CX p l e R s m args below meth c D cs sa A cc nL own ret) {x y z : Int32} (hz : x * y = z) (hdg : decode cc pc = .ok (.imul, 1)) (k : J p l e R s m args below meth c D A nL cells slots Q w (pc + 1) lv (.int z :: st)) : J p l e R s m args below meth c D A nL cells slots Q w pc lv (.int y :: .int x :: st) := by
  subst hz
  exact j_imul hc hdg k
theorem j_iandE (hc : CX p l e R s m args below meth c D cs sa A cc nL own ret) {x y z : Int32} (hz : x &&& y = z) (hdg : decode cc pc = .ok (.iand, 1)) (k : J p l e R s m args below meth c D A nL cells slots Q w (pc + 1) lv (.int z :: st)) : J p l e R s m args below meth c D A nL cells slots Q w pc lv (.int y :: .int x :: st) := by
  subst hz
  exact j_iand hc hdg k
theorem j_iorE (hc : CX p l e R s m args below meth c D cs sa A cc nL own ret) {x y z : Int32} (hz : x ||| y = z) (hdg : decode cc pc = .ok (.ior, 1)) (k : J p l e R s m args below meth c D A nL cells slots Q w (pc + 1) lv (.int z :: st)) : J p l e R s m args below meth c D A nL cells slots Q w pc lv (.int y :: .int x :: st) := by
  subst hz
  exact j_ior hc hdg k
theorem j_ixorE (hc : CX p l e R s m args below meth c D cs sa A cc nL own ret) {x y z : Int32} (hz : x ^^^ y = z) (hdg : decode cc pc = .ok (.ixor, 1)) (k : J p l e R s m args below meth c D A nL cells slots Q w (pc + 1) lv (.int z :: st)) : J p l e R s m args below meth c D A nL cells slots Q w pc lv (.int y :: .int x :: st) := by
  subst hz
  exact j_ixor hc hdg k
theorem j_ishlE (hc : CX p l e R s m args below meth c D cs sa A cc nL own ret) {x y z : Int32} (hz : x <<< (y &&& 31) = z) (hdg : decode cc pc = .ok (.ishl, 1)) (k : J p l e R s m args below meth c D A nL cells slots Q w (pc + 1) lv (.int z :: st)) : J p l e R s m args below meth c D A nL cells slots Q w pc lv (.int y :: .int x :: st) := by
  subst hz
  exact j_ishl hc hdg k
theorem j_ishrE (hc : CX p l e R s m args below meth c D cs sa A cc nL own ret) {x y z : Int32} (hz : x >>> (y &&& 31) = z) (hdg : decode cc pc = .ok (.ishr, 1)) (k : J p l e R s m args below meth c D A nL cells slots Q w (pc + 1) lv (.int z :: st)) : J p l e R s m args below meth c D A nL cells slots Q w pc lv (.int y :: .int x :: st) := by
  subst hz
  exact j_ishr hc hdg k
theorem j_idivE (hc : CX p l e R s m args below meth c D cs sa A cc nL own ret) {x y z : Int32} (h0 : ¬ y = 0) (hz : x / y = z) (hdg : decode cc pc = .ok (.idiv, 1)) (k : J p l e R s m args below meth c D A nL cells slots Q w (pc + 1) lv (.int z :: st)) : J p l e R s m args below meth c D A nL cells slots Q w pc lv (.int y :: .int x :: st) := by
  subst hz
  exact j_idiv hc hdg h0 k
theorem j_iremE (hc : CX p l e R s m args below meth c D cs sa A cc nL own ret) {x y z : Int32} (h0 : ¬ y = 0) (hz : x - x / y * y = z) (hdg : decode cc pc = .ok (.irem, 1)) (k : J p l e R s m args below meth c D A nL cells slots Q w (pc + 1) lv (.int z :: st)) : J p l e R s m args below meth c D A nL cells slots Q w pc lv (.int y :: .int x :: st) := by
  subst hz
  exact j_irem hc hdg h0 k
theorem j_incE (hc : CX p l e R s m args below meth c D cs sa A cc nL own ret) {i : Nat} {n : Int} {x v : Int32} (hdg : decode cc pc = .ok (.iinc i n, 3)) (hg : lgt lv i = some (.int x)) (hv : x + Int32.ofInt n = v) (hn : Nat.blt i nL = true) (k : J p l e R s m args below meth c D A nL cells slots Q w (pc + 3) (lst lv i (.int v)) st) : J p l e R s m args below meth c D A nL cells slots Q w pc lv st := j_iinc hc hdg hg hv hn k
variable {ad : Nat → Nat} {n : Nat} {E : ES} {S : MS} {o : Nat → Int64}
theorem xl_0 (hc : CX p l e R s m args below meth c D cs sa A cc nL own ret) {i : Nat} (hi : i < 9) {v : Int32} (hv : S 0 i = v) (hdg : decode cc pc = .ok (.iaload, 1)) (kk : J p l e R s m args below meth c D A nL cells slots Q (WD ad cs n E S o) (pc + 1) lv (.int v :: st)) : J p l e R s m args below meth c D A nL cells slots Q (WD ad cs n E S o) pc lv (.int (nI i) :: .ref (ad 15) :: st) := al_ln hc (vp_in_nI hi (by decide)) hdg (by rw [nI_clamp (by omega), hv]; exact kk)
theorem xs_0 (hc : CX p l e R s m args below meth c D cs sa A cc nL own ret) {i : Nat} (hi : i < 9) {x : Int32} (hdg : decode cc pc = .ok (.iastore, 1)) (kk : J p l e R s m args below meth c D A nL cells slots Q (WD ad cs n E (mA S 0 i x) o) (pc + 1) lv st) : J p l e R s m args below meth c D A nL cells slots Q (WD ad cs n E S o) pc lv (.int x :: .int (nI i) :: .ref (ad 15) :: st) := as_ln hc (vp_in_nI hi (by decide)) hdg (by rw [nI_clamp (by omega)]; exact kk)
theorem xl_1 (hc : CX p l e R s m args below meth c D cs sa A cc nL own ret) {i : Nat} (hi : i < 64) {v : Int32} (hv : S 1 i = v) (hdg : decode cc pc = .ok (.iaload, 1)) (kk : J p l e R s m args below meth c D A nL cells slots Q (WD ad cs n E S o) (pc + 1) lv (.int v :: st)) : J p l e R s m args below meth c D A nL cells slots Q (WD ad cs n E S o) pc lv (.int (nI i) :: .ref (ad 16) :: st) := al_lw hc (vp_in_nI hi (by decide)) hdg (by rw [nI_clamp (by omega), hv]; exact kk)
theorem xs_1 (hc : CX p l e R s m args below meth c D cs sa A cc nL own ret) {i : Nat} (hi : i < 64) {x : Int32} (hdg : decode cc pc = .ok (.iastore, 1)) (kk : J p l e R s m args below meth c D A nL cells slots Q (WD ad cs n E (mA S 1 i x) o) (pc + 1) lv st) : J p l e R s m args below meth c D A nL cells slots Q (WD ad cs n E S o) pc lv (.int x :: .int (nI i) :: .ref (ad 16) :: st) := as_lw hc (vp_in_nI hi (by decide)) hdg (by rw [nI_clamp (by omega)]; exact kk)
theorem xl_2 (hc : CX p l e R s m args below meth c D cs sa A cc nL own ret) {i : Nat} (hi : i < 30) {v : Int32} (hv : S 2 i = v) (hdg : decode cc pc = .ok (.iaload, 1)) (kk : J p l e R s m args below meth c D A nL cells slots Q (WD ad cs n E S o) (pc + 1) lv (.int v :: st)) : J p l e R s m args below meth c D A nL cells slots Q (WD ad cs n E S o) pc lv (.int (nI i) :: .ref (ad 17) :: st) := al_lg hc (vp_in_nI hi (by decide)) hdg (by rw [nI_clamp (by omega), hv]; exact kk)
theorem xs_2 (hc : CX p l e R s m args below meth c D cs sa A cc nL own ret) {i : Nat} (hi : i < 30) {x : Int32} (hdg : decode cc pc = .ok (.iastore, 1)) (kk : J p l e R s m args below meth c D A nL cells slots Q (WD ad cs n E (mA S 2 i x) o) (pc + 1) lv st) : J p l e R s m args below meth c D A nL cells slots Q (WD ad cs n E S o) pc lv (.int x :: .int (nI i) :: .ref (ad 17) :: st) := as_lg hc (vp_in_nI hi (by decide)) hdg (by rw [nI_clamp (by omega)]; exact kk)
theorem xl_3 (hc : CX p l e R s m args below meth c D cs sa A cc nL own ret) {i : Nat} (hi : i < 5) {v : Int32} (hv : S 3 i = v) (hdg : decode cc pc = .ok (.iaload, 1)) (kk : J p l e R s m args below meth c D A nL cells slots Q (WD ad cs n E S o) (pc + 1) lv (.int v :: st)) : J p l e R s m args below meth c D A nL cells slots Q (WD ad cs n E S o) pc lv (.int (nI i) :: .ref (ad 18) :: st) := al_lq hc (vp_in_nI hi (by decide)) hdg (by rw [nI_clamp (by omega), hv]; exact kk)
theorem xs_3 (hc : CX p l e R s m args below meth c D cs sa A cc nL own ret) {i : Nat} (hi : i < 5) {x : Int32} (hdg : decode cc pc = .ok (.iastore, 1)) (kk : J p l e R s m args below meth c D A nL cells slots Q (WD ad cs n E (mA S 3 i x) o) (pc + 1) lv st) : J p l e R s m args below meth c D A nL cells slots Q (WD ad cs n E S o) pc lv (.int x :: .int (nI i) :: .ref (ad 18) :: st) := as_lq hc (vp_in_nI hi (by decide)) hdg (by rw [nI_clamp (by omega)]; exact kk)
theorem xl_4 (hc : CX p l e R s m args below meth c D cs sa A cc nL own ret) {i : Nat} (hi : i < 36) {v : Int32} (hv : S 4 i = v) (hdg : decode cc pc = .ok (.iaload, 1)) (kk : J p l e R s m args below meth c D A nL cells slots Q (WD ad cs n E S o) (pc + 1) lv (.int v :: st)) : J p l e R s m args below meth c D A nL cells slots Q (WD ad cs n E S o) pc lv (.int (nI i) :: .ref (ad 19) :: st) := al_lb hc (vp_in_nI hi (by decide)) hdg (by rw [nI_clamp (by omega), hv]; exact kk)
theorem xs_4 (hc : CX p l e R s m args below meth c D cs sa A cc nL own ret) {i : Nat} (hi : i < 36) {x : Int32} (hdg : decode cc pc = .ok (.iastore, 1)) (kk : J p l e R s m args below meth c D A nL cells slots Q (WD ad cs n E (mA S 4 i x) o) (pc + 1) lv st) : J p l e R s m args below meth c D A nL cells slots Q (WD ad cs n E S o) pc lv (.int x :: .int (nI i) :: .ref (ad 19) :: st) := as_lb hc (vp_in_nI hi (by decide)) hdg (by rw [nI_clamp (by omega)]; exact kk)
theorem xl_5 (hc : CX p l e R s m args below meth c D cs sa A cc nL own ret) {i : Nat} (hi : i < 48) {v : Int32} (hv : S 5 i = v) (hdg : decode cc pc = .ok (.iaload, 1)) (kk : J p l e R s m args below meth c D A nL cells slots Q (WD ad cs n E S o) (pc + 1) lv (.int v :: st)) : J p l e R s m args below meth c D A nL cells slots Q (WD ad cs n E S o) pc lv (.int (nI i) :: .ref (ad 20) :: st) := al_lc hc (vp_in_nI hi (by decide)) hdg (by rw [nI_clamp (by omega), hv]; exact kk)
theorem xs_5 (hc : CX p l e R s m args below meth c D cs sa A cc nL own ret) {i : Nat} (hi : i < 48) {x : Int32} (hdg : decode cc pc = .ok (.iastore, 1)) (kk : J p l e R s m args below meth c D A nL cells slots Q (WD ad cs n E (mA S 5 i x) o) (pc + 1) lv st) : J p l e R s m args below meth c D A nL cells slots Q (WD ad cs n E S o) pc lv (.int x :: .int (nI i) :: .ref (ad 20) :: st) := as_lc hc (vp_in_nI hi (by decide)) hdg (by rw [nI_clamp (by omega)]; exact kk)
theorem xl_6 (hc : CX p l e R s m args below meth c D cs sa A cc nL own ret) {i : Nat} (hi : i < 60) {v : Int32} (hv : S 6 i = v) (hdg : decode cc pc = .ok (.iaload, 1)) (kk : J p l e R s m args below meth c D A nL cells slots Q (WD ad cs n E S o) (pc + 1) lv (.int v :: st)) : J p l e R s m args below meth c D A nL cells slots Q (WD ad cs n E S o) pc lv (.int (nI i) :: .ref (ad 21) :: st) := al_lf hc (vp_in_nI hi (by decide)) hdg (by rw [nI_clamp (by omega), hv]; exact kk)
theorem xs_6 (hc : CX p l e R s m args below meth c D cs sa A cc nL own ret) {i : Nat} (hi : i < 60) {x : Int32} (hdg : decode cc pc = .ok (.iastore, 1)) (kk : J p l e R s m args below meth c D A nL cells slots Q (WD ad cs n E (mA S 6 i x) o) (pc + 1) lv st) : J p l e R s m args below meth c D A nL cells slots Q (WD ad cs n E S o) pc lv (.int x :: .int (nI i) :: .ref (ad 21) :: st) := as_lf hc (vp_in_nI hi (by decide)) hdg (by rw [nI_clamp (by omega)]; exact kk)
theorem xl_7 (hc : CX p l e R s m args below meth c D cs sa A cc nL own ret) {i : Nat} (hi : i < 36) {v : Int32} (hv : S 7 i = v) (hdg : decode cc pc = .ok (.iaload, 1)) (kk : J p l e R s m args below meth c D A nL cells slots Q (WD ad cs n E S o) (pc + 1) lv (.int v :: st)) : J p l e R s m args below meth c D A nL cells slots Q (WD ad cs n E S o) pc lv (.int (nI i) :: .ref (ad 22) :: st) := al_lk hc (vp_in_nI hi (by decide)) hdg (by rw [nI_clamp (by omega), hv]; exact kk)
theorem xs_7 (hc : CX p l e R s m args below meth c D cs sa A cc nL own ret) {i : Nat} (hi : i < 36) {x : Int32} (hdg : decode cc pc = .ok (.iastore, 1)) (kk : J p l e R s m args below meth c D A nL cells slots Q (WD ad cs n E (mA S 7 i x) o) (pc + 1) lv st) : J p l e R s m args below meth c D A nL cells slots Q (WD ad cs n E S o) pc lv (.int x :: .int (nI i) :: .ref (ad 22) :: st) := as_lk hc (vp_in_nI hi (by decide)) hdg (by rw [nI_clamp (by omega)]; exact kk)
theorem xl_8 (hc : CX p l e R s m args below meth c D cs sa A cc nL own ret) {i : Nat} (hi : i < 60) {v : Int32} (hv : S 8 i = v) (hdg : decode cc pc = .ok (.iaload, 1)) (kk : J p l e R s m args below meth c D A nL cells slots Q (WD ad cs n E S o) (pc + 1) lv (.int v :: st)) : J p l e R s m args below meth c D A nL cells slots Q (WD ad cs n E S o) pc lv (.int (nI i) :: .ref (ad 23) :: st) := al_le hc (vp_in_nI hi (by decide)) hdg (by rw [nI_clamp (by omega), hv]; exact kk)
theorem xs_8 (hc : CX p l e R s m args below meth c D cs sa A cc nL own ret) {i : Nat} (hi : i < 60) {x : Int32} (hdg : decode cc pc = .ok (.iastore, 1)) (kk : J p l e R s m args below meth c D A nL cells slots Q (WD ad cs n E (mA S 8 i x) o) (pc + 1) lv st) : J p l e R s m args below meth c D A nL cells slots Q (WD ad cs n E S o) pc lv (.int x :: .int (nI i) :: .ref (ad 23) :: st) := as_le hc (vp_in_nI hi (by decide)) hdg (by rw [nI_clamp (by omega)]; exact kk)
theorem j_sld (hc : CX p l e R s m args below meth c D cs sa A cc nL own ret) {b L : Nat} {xs : Nat → Int32} (hX : va_X b L xs s s.heap ∧ b < s.heap.size ∧ ¬ A b) {v : Int32} {j : Nat} (hv : v = nI j) (hj : j < L ∧ L ≤ 1536) (hdg : decode cc pc = .ok (.iaload, 1)) (kk : J p l e R s m args below meth c D A nL cells slots Q w (pc + 1) lv (.int (xs j) :: st)) : J p l e R s m args below meth c D A nL cells slots Q w pc lv (.int v :: .ref b :: st) := fun H locs ls hP hD hS hl => by
  subst hv
  have t := va_sld (rest := st) hc.1.1 hc.1.2.1 hX.1 hX.2.1 hX.2.2 hS (vp_in_nI hj.1 (by omega)) hdg (p := p) (e := e) (below := below) (m := m) (meth := meth) (args := args) (R := R) (l := l) (locs := locs) (H := H) (cells := cells) (slots := slots) (Q := Q) (ls := ls)
  rw [nI_clamp (show j < 2 ^ 31 by omega)] at t
  exact t (kk H locs ls hP hD hS hl)
theorem j_slen (hc : CX p l e R s m args below meth c D cs sa A cc nL own ret) {b L : Nat} {xs : Nat → Int32} (hX : va_X b L xs s s.heap ∧ b < s.heap.size ∧ ¬ A b) (hdg : decode cc pc = .ok (.arraylength, 1)) (kk : J p l e R s m args below meth c D A nL cells slots Q w (pc + 1) lv (.int (nI L) :: st)) : J p l e R s m args below meth c D A nL cells slots Q w pc lv (.ref b :: st) := fun H locs ls hP hD hS hl => va_slen hc.1.1 hc.1.2.1 hX.1 hX.2.1 hX.2.2 hS hdg (kk H locs ls hP hD hS hl)
theorem j_widen {k n : Nat} (h1 : cells ≤ k) (h2 : slots ≤ n) (kk : J p l e R s m args below meth c D A nL k n Q w pc lv st) : J p l e R s m args below meth c D A nL cells slots Q w pc lv st := fun H locs ls hP hD hS hl => W.widen h1 h2 (kk H locs ls hP hD hS hl)
end R15
theorem mA_ne {S : MS} {k0 i k c : Nat} {v : Int32} (h : k ≠ k0 ∨ c ≠ i) : mA S k0 i v k c = S k c := by
  show va_up S k0 (upd (S k0) i v) k c = _
  unfold va_up
  by_cases z : k = k0
  · subst z; rw [if_pos rfl]; exact if_neg (by omega)
  · rw [if_neg z]
theorem mA_c {S : MS} {k0 i k c : Nat} {v : Int32} (h : c ≠ i) : mA S k0 i v k c = S k c := mA_ne (Or.inr h)
theorem mA_ro {S : MS} {k0 i k c : Nat} {v : Int32} (h : k ≠ k0) : mA S k0 i v k c = S k c := mA_ne (Or.inl h)
theorem mA_r {S : MS} {k0 i k : Nat} {v : Int32} (h : k ≠ k0) : mA S k0 i v k = S k := if_neg h
theorem mA_s {S : MS} {k0 i : Nat} {v : Int32} : mA S k0 i v k0 i = v := by
  show va_up S k0 (upd (S k0) i v) k0 i = _
  unfold va_up upd
  rw [if_pos rfl, if_pos rfl]
theorem eV_c {E : ES} {k0 b k c : Nat} {v : Int32} (h : c ≠ b) : (eV E k0 b v).2.1 k c = E.2.1 k c := by
  show va_up E.2.1 k0 (upd (E.2.1 k0) b v) k c = _
  unfold va_up
  by_cases z : k = k0
  · subst z; rw [if_pos rfl]; exact if_neg h
  · rw [if_neg z]
theorem eV_r {E : ES} {k0 b k : Nat} {v : Int32} (h : k ≠ k0) : (eV E k0 b v).2.1 k = E.2.1 k := if_neg h
theorem eV_s {E : ES} {k0 b : Nat} {v : Int32} : (eV E k0 b v).2.1 k0 b = v := by
  show va_up E.2.1 k0 (upd (E.2.1 k0) b v) k0 b = _
  unfold va_up upd
  rw [if_pos rfl, if_pos rfl]
theorem nI_n0 {a : Nat} (h : a < 2 ^ 31) (h0 : 0 < a) : ¬ nI a = 0 := nI_ne0 h0 h
theorem sh_L_112 : SH RL 112 yL_does cL_does 5 (Option.some Jvm.ClassFile.FieldType.int) [((0 : Nat), (70 : Nat), (71 : Nat), (44 : Nat))] 4 := ⟨wt_363, wt_364, wt_0, wt_365, by decide, by decide, by decide +kernel⟩
