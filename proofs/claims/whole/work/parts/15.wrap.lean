section R15
variable {p : Program} {l : Launch} {e : Env} {R : Room} {s : State} {m : MethodId} {args : Array Value} {below : List Frame} {meth : Method} {c : Code} {D : va_G} {cs : Nat → ClassId} {sa : Nat → Nat} {A : Nat → Prop} {cc : ByteArray} {nL : Nat} {own : String} {ret : Option FieldType} {cells slots : Nat} {Q : State → Prop} {w : va_W} {pc : Nat} {lv : List (Nat × Value)} {st : List Value}
theorem j_catch (hc : CX p l e R s m args below meth c D cs sa A cc nL own ret) {E : String} (pre : List ExceptionTableEntry) (x : ExceptionTableEntry) (suf : List ExceptionTableEntry) (hsplit : c.exceptionTable.toList = pre ++ x :: suf) (hpass : ∀ z ∈ pre, z.catchType ≠ 0 ∧ ∃ nm : String, Cond.classLink own z.catchType nm ∈ WT ∧ (E, nm) ∈ ncs) (hx : covers x pc = true) (h0 : x.catchType ≠ 0) (hlink : Cond.classLink own x.catchType E ∈ WT) (hC : E ∈ nwC) {rest : List Value} {h : Nat} (hh : x.handlerPc = h) (kk : ∀ q : Nat, J p l e R s m args below meth c D A nL cells slots Q w h lv [.ref q]) : JX p l e R s m args below meth c D A nL cells slots Q w pc lv rest E := fun H locs ls ce q hP hD hS hl hq hv hcl => by
  subst hh
  obtain ⟨z1, z2, z3, z4, z5, z6⟩ := hc.2.2.2.2.2.1
  exact vx_catch hc.1.2.2.2.1 pre x suf hsplit (fun z hz => Or.inr ⟨(hpass z hz).1, (hpass z hz).2.elim fun nm h => ⟨nm, hc.1.2.2.2.2 _ h.1, z6 _ h.2⟩⟩) hx h0 (hc.1.2.2.2.2 _ hlink) (va_Nw.use rfl (z4 _ hC)) hq hv hcl (kk q H locs ls hP hD hS hl)
def SH (own : String) (index : Nat) (y : MethodName) (cc : ByteArray) (maxL : Nat) (ret : Option FieldType) (hh : List (Nat × Nat × Nat × Nat)) (n : Nat) : Prop := Cond.methodLink own index y ∈ WT ∧ Cond.static y ∈ WT ∧ Cond.initialized y.cls ∈ WT ∧ Cond.codeWith y cc maxL ret hh ∈ WT ∧ y.cls ≠ "java/lang/invoke/MethodHandle" ∧ y.cls ≠ "java/lang/invoke/VarHandle" ∧ (parseMethodDescriptor y.desc).map (fun d => d.parameters.length) = some n
theorem j_callSH (hc : CX p l e R s m args below meth c D cs sa A cc nL own ret) {y : MethodName} {cc2 : ByteArray} {maxL : Nat} {ret2 : Option FieldType} {hh : List (Nat × Nat × Nat × Nat)} {rm : Room} {mc ms n index : Nat} {As : List Value} {r : Option Value × va_W} (hM : CH l D cs sa y cc2 maxL ret2 hh rm mc ms As w (none, r.1, r.2)) (hv : SH own index y cc2 maxL ret2 hh n) (hn : As.length = n) (hrm : rm.cells = mc ∧ rm.slots = ms ∧ rm.frames + 1 ≤ R.frames ∧ 8 + (maxL + 11) + rm.locals ≤ R.locals) {st0 : List Value} (hst : st0 = As.reverse ++ st) (hroom : (st.map fun v => v.category).sum ≤ 8) (hf : cells + mc ≤ R.cells ∧ slots + ms ≤ R.slots) (hdg : decode cc pc = .ok (.invokestatic index, 3)) (kk : J p l e R s m args below meth c D A nL (cells + mc) (slots + ms) Q r.2 (pc + 3) lv (r.1.toList ++ st)) : J p l e R s m args below meth c D A nL cells slots Q w pc lv st0 := fun H locs ls hP hD hS hl => by
  obtain ⟨v1, v2, v4, v5, v7, v8, v9⟩ := hv
  have hF : ∀ q, va_A w H.size q → A q := fun q h => h.elim (fun ⟨k, e, h⟩ => hD.2 k _ h) (fun h => hc.2.2.2.2.1 q (Nat.le_trans hS.1 h))
  have hr := vx_runSX (As := As) (rest := st) (Ts := WT) (locs := locs) (cells := cells) (slots := slots) (g := F0 m pc ls st0) (p := p) (e := e) (below := below) (meth := meth) (args := args) (R := R) hc.1 (hM H.size) (hh := hh) (bytes := cc2) (maxL := maxL) (ret := ret2) (own := own) (index := index) ⟨⟨hrm.1, hrm.2.1, hrm.2.2.1, hrm.2.2.2, pay_in hc.1.2.2.2.2 (wt_gi (ws := .codeWith y cc2 maxL ret2 hh :: WT) (fun w h => (List.mem_cons.mp h).elim (fun h => h ▸ v5) id)), List.mem_cons_self⟩, hc.1.2.2.2.2 _ v5, hc.1.2.2.2.2 _ v4, ⟨v7, v8⟩, fun sig h => by rw [h] at v9; exact (Option.some.inj v9).symm, hc.1.2.2.2.2 _ v1, hc.1.2.2.2.2 _ v2⟩ (j_pre hc (av := As) hP hD hS) rfl hn hl.1 hst (lv_room hroom) hdg hf
  intro T hT X9
  rcases hr T hT X9 with ⟨v, st₀, t, T', L, h0, X', hL, e1, e2, ⟨⟨-, hv, hP1, hD1⟩, hF1⟩, st9⟩ | ⟨q, st₀, t, T', L, E, ce, h0, X', hL, e1, e2, ⟨⟨hE, hP1, hD1⟩, hF1⟩, hce, hcv, hcl, st9⟩
  · cases hv
    obtain ⟨k1, k2, k3⟩ := vx_keep h0 e1 hS (fun q _ h => hF q h) hF hL hF1
    rw [← e1] at hP1
    obtain ⟨t2, a1, b1⟩ := kk T'.heap (locs ++ L) ls hP1 (hD1.weaken fun _ q _ h => hF _ h) k3 hl T' rfl X'
    exact ⟨t2, st9 t2 a1, b1⟩
  · cases hE
theorem j_callSE (hc : CX p l e R s m args below meth c D cs sa A cc nL own ret) {y : MethodName} {cc2 : ByteArray} {maxL : Nat} {ret2 : Option FieldType} {hh : List (Nat × Nat × Nat × Nat)} {rm : Room} {mc ms n index : Nat} {As : List Value} {X : Type} {r : X → Option Value × va_W} (hM : EH l D cs sa y cc2 maxL ret2 hh rm mc ms As w r) (hv : SH own index y cc2 maxL ret2 hh n) (hn : As.length = n) (hrm : rm.cells = mc ∧ rm.slots = ms ∧ rm.frames + 1 ≤ R.frames ∧ 8 + (maxL + 11) + rm.locals ≤ R.locals) {st0 : List Value} (hst : st0 = As.reverse ++ st) (hroom : (st.map fun v => v.category).sum ≤ 8) (hf : cells + mc ≤ R.cells ∧ slots + ms ≤ R.slots) (hdg : decode cc pc = .ok (.invokestatic index, 3)) (kk : ∀ x, J p l e R s m args below meth c D A nL (cells + mc) (slots + ms) Q (r x).2 (pc + 3) lv ((r x).1.toList ++ st)) : J p l e R s m args below meth c D A nL cells slots Q w pc lv st0 := fun H locs ls hP hD hS hl => by
  obtain ⟨v1, v2, v4, v5, v7, v8, v9⟩ := hv
  have hF : ∀ q, va_A w H.size q → A q := fun q h => h.elim (fun ⟨k, e, h⟩ => hD.2 k _ h) (fun h => hc.2.2.2.2.1 q (Nat.le_trans hS.1 h))
  have hr := vx_runSX (As := As) (rest := st) (Ts := WT) (locs := locs) (cells := cells) (slots := slots) (g := F0 m pc ls st0) (p := p) (e := e) (below := below) (meth := meth) (args := args) (R := R) hc.1 (hM H.size) (hh := hh) (bytes := cc2) (maxL := maxL) (ret := ret2) (own := own) (index := index) ⟨⟨hrm.1, hrm.2.1, hrm.2.2.1, hrm.2.2.2, pay_in hc.1.2.2.2.2 (wt_gi (ws := .codeWith y cc2 maxL ret2 hh :: WT) (fun w h => (List.mem_cons.mp h).elim (fun h => h ▸ v5) id)), List.mem_cons_self⟩, hc.1.2.2.2.2 _ v5, hc.1.2.2.2.2 _ v4, ⟨v7, v8⟩, fun sig h => by rw [h] at v9; exact (Option.some.inj v9).symm, hc.1.2.2.2.2 _ v1, hc.1.2.2.2.2 _ v2⟩ (j_pre hc (av := As) hP hD hS) rfl hn hl.1 hst (lv_room hroom) hdg hf
  intro T hT X9
  rcases hr T hT X9 with ⟨v, st₀, t, T', L, h0, X', hL, e1, e2, ⟨⟨-, x, hv, hP1, hD1⟩, hF1⟩, st9⟩ | ⟨q, st₀, t, T', L, E, ce, h0, X', hL, e1, e2, ⟨⟨hE, hP1, hD1⟩, hF1⟩, hce, hcv, hcl, st9⟩
  · cases hv
    obtain ⟨k1, k2, k3⟩ := vx_keep h0 e1 hS (fun q _ h => hF q h) hF hL hF1
    rw [← e1] at hP1
    obtain ⟨t2, a1, b1⟩ := kk x T'.heap (locs ++ L) ls hP1 (hD1.weaken fun _ q _ h => hF _ h) k3 hl T' rfl X'
    exact ⟨t2, st9 t2 a1, b1⟩
  · cases hE
end R15
theorem sh_L_86 : SH RL 86 yL_setWeekday cL_setWeekday 5 (Option.some Jvm.ClassFile.FieldType.int) [((0 : Nat), (10 : Nat), (13 : Nat), (13 : Nat)), ((0 : Nat), (10 : Nat), (17 : Nat), (15 : Nat))] 4 := ⟨wt_143, wt_144, wt_0, wt_145, by decide, by decide, by decide +kernel⟩
theorem sh_L_96 : SH RL 96 yL_addHoliday cL_addHoliday 4 (Option.some Jvm.ClassFile.FieldType.int) [((0 : Nat), (16 : Nat), (19 : Nat), (21 : Nat))] 3 := ⟨wt_246, wt_247, wt_0, wt_248, by decide, by decide, by decide +kernel⟩
theorem sh_L_100 : SH RL 100 yL_addGap cL_addGap 5 (Option.some Jvm.ClassFile.FieldType.int) [((0 : Nat), (10 : Nat), (13 : Nat), (13 : Nat)), ((0 : Nat), (10 : Nat), (17 : Nat), (21 : Nat)), ((0 : Nat), (10 : Nat), (21 : Nat), (15 : Nat))] 4 := ⟨wt_281, wt_282, wt_0, wt_283, by decide, by decide, by decide +kernel⟩
theorem sh_L_104 : SH RL 104 yL_clearGaps cL_clearGaps 4 (Option.some Jvm.ClassFile.FieldType.int) [((0 : Nat), (9 : Nat), (12 : Nat), (13 : Nat))] 3 := ⟨wt_297, wt_298, wt_0, wt_299, by decide, by decide, by decide +kernel⟩
theorem sh_L_107 : SH RL 107 yL_setTimes cL_setTimes 5 (Option.some Jvm.ClassFile.FieldType.int) [((0 : Nat), (10 : Nat), (13 : Nat), (21 : Nat))] 4 := ⟨wt_304, wt_305, wt_0, wt_306, by decide, by decide, by decide +kernel⟩
theorem sh_L_110 : SH RL 110 yL_bill cL_bill 5 (Option.some Jvm.ClassFile.FieldType.int) [((0 : Nat), (10 : Nat), (13 : Nat), (13 : Nat)), ((0 : Nat), (10 : Nat), (17 : Nat), (21 : Nat)), ((0 : Nat), (10 : Nat), (21 : Nat), (15 : Nat))] 4 := ⟨wt_311, wt_312, wt_0, wt_313, by decide, by decide, by decide +kernel⟩
theorem sh_L_113 : SH RL 113 yL_outcome cL_outcome 5 (Option.some Jvm.ClassFile.FieldType.int) [((0 : Nat), (10 : Nat), (13 : Nat), (13 : Nat)), ((0 : Nat), (10 : Nat), (17 : Nat), (21 : Nat)), ((0 : Nat), (10 : Nat), (21 : Nat), (15 : Nat))] 4 := ⟨wt_387, wt_388, wt_0, wt_389, by decide, by decide, by decide +kernel⟩
theorem sh_L_116 : SH RL 116 yL_pay cL_pay 5 (Option.some Jvm.ClassFile.FieldType.int) [((0 : Nat), (10 : Nat), (13 : Nat), (13 : Nat)), ((0 : Nat), (10 : Nat), (17 : Nat), (21 : Nat)), ((0 : Nat), (10 : Nat), (21 : Nat), (15 : Nat))] 4 := ⟨wt_412, wt_413, wt_0, wt_414, by decide, by decide, by decide +kernel⟩
theorem sh_L_119 : SH RL 119 yL_promise cL_promise 5 (Option.some Jvm.ClassFile.FieldType.int) [((0 : Nat), (10 : Nat), (13 : Nat), (13 : Nat)), ((0 : Nat), (10 : Nat), (17 : Nat), (21 : Nat)), ((0 : Nat), (10 : Nat), (21 : Nat), (15 : Nat))] 4 := ⟨wt_420, wt_421, wt_0, wt_422, by decide, by decide, by decide +kernel⟩
theorem sh_L_122 : SH RL 122 yL_pass cL_pass 4 (Option.some Jvm.ClassFile.FieldType.int) [((0 : Nat), (9 : Nat), (12 : Nat), (21 : Nat))] 3 := ⟨wt_428, wt_429, wt_0, wt_430, by decide, by decide, by decide +kernel⟩
theorem sh_L_129 : SH RL 129 yL_isCharging cL_isCharging 4 (Option.some Jvm.ClassFile.FieldType.int) [((0 : Nat), (16 : Nat), (19 : Nat), (21 : Nat))] 3 := ⟨wt_456, wt_457, wt_0, wt_458, by decide, by decide, by decide +kernel⟩
theorem sh_L_136 : SH RL 136 yL_stateOf cL_stateOf 4 (Option.some Jvm.ClassFile.FieldType.int) [((0 : Nat), (9 : Nat), (12 : Nat), (13 : Nat))] 3 := ⟨wt_464, wt_465, wt_0, wt_466, by decide, by decide, by decide +kernel⟩
theorem sh_L_139 : SH RL 139 yL_left cL_left 4 (Option.some Jvm.ClassFile.FieldType.int) [((0 : Nat), (9 : Nat), (12 : Nat), (13 : Nat))] 3 := ⟨wt_471, wt_472, wt_0, wt_473, by decide, by decide, by decide +kernel⟩
theorem sh_L_142 : SH RL 142 yL_tries cL_tries 4 (Option.some Jvm.ClassFile.FieldType.int) [((0 : Nat), (9 : Nat), (12 : Nat), (13 : Nat))] 3 := ⟨wt_478, wt_479, wt_0, wt_480, by decide, by decide, by decide +kernel⟩
theorem sh_L_145 : SH RL 145 yL_failures cL_failures 5 (Option.some Jvm.ClassFile.FieldType.int) [((0 : Nat), (10 : Nat), (13 : Nat), (13 : Nat))] 4 := ⟨wt_485, wt_486, wt_0, wt_487, by decide, by decide, by decide +kernel⟩
theorem sh_L_148 : SH RL 148 yL_waitsFor cL_waitsFor 4 (Option.some Jvm.ClassFile.FieldType.int) [((0 : Nat), (9 : Nat), (12 : Nat), (13 : Nat))] 3 := ⟨wt_492, wt_493, wt_0, wt_494, by decide, by decide, by decide +kernel⟩
theorem sh_L_151 : SH RL 151 yL_broken cL_broken 4 (Option.some Jvm.ClassFile.FieldType.int) [((0 : Nat), (9 : Nat), (12 : Nat), (13 : Nat))] 3 := ⟨wt_499, wt_500, wt_0, wt_501, by decide, by decide, by decide +kernel⟩
theorem sh_L_154 : SH RL 154 yL_service cL_service 4 (Option.some Jvm.ClassFile.FieldType.int) [((0 : Nat), (9 : Nat), (12 : Nat), (13 : Nat))] 3 := ⟨wt_506, wt_507, wt_0, wt_508, by decide, by decide, by decide +kernel⟩
theorem sh_L_173 : SH RL 173 yL_leftIn cL_leftIn 5 (Option.some Jvm.ClassFile.FieldType.int) [((0 : Nat), (10 : Nat), (13 : Nat), (13 : Nat)), ((0 : Nat), (10 : Nat), (17 : Nat), (21 : Nat))] 4 := ⟨wt_519, wt_520, wt_0, wt_521, by decide, by decide, by decide +kernel⟩
theorem sh_L_180 : SH RL 180 yL_event cL_event 4 (Option.some Jvm.ClassFile.FieldType.int) [((0 : Nat), (9 : Nat), (12 : Nat), (13 : Nat))] 3 := ⟨wt_526, wt_527, wt_0, wt_528, by decide, by decide, by decide +kernel⟩
theorem sh_L_183 : SH RL 183 yL_stateAt cL_stateAt 5 (Option.some Jvm.ClassFile.FieldType.int) [((0 : Nat), (10 : Nat), (13 : Nat), (13 : Nat)), ((0 : Nat), (10 : Nat), (17 : Nat), (21 : Nat))] 4 := ⟨wt_543, wt_544, wt_0, wt_545, by decide, by decide, by decide +kernel⟩
def wc (h : List String) (x : String) : Int32 := match h with
  | [a] => if x = a then 1 else 0
  | [a, b] => if x = a then 1 else if x = b then 2 else 0
  | [a, b, c] => if x = a then 1 else if x = b then 2 else if x = c then 3 else 0
  | _ => 0
/-- what a wrapper says: its code, the class, the law's own row -/
def wres (sp : ER) (h : List String) (E : ES) (o : Nat → Int64) : Int32 × ES × (Nat → Int64) := match sp.1 with
  | none => (0, sp.2.2, vp_updL o 0 sp.2.1.toInt64)
  | some x => (wc h x, E, o)
def wresZ (sp : ER) (h : List String) (E : ES) (o : Nat → Int64) : Int32 × ES × (Nat → Int64) := match sp.1 with
  | none => (0, sp.2.2, vp_updL o 0 (if sp.2.1 = 0 then 0 else 1))
  | some x => (wc h x, E, o)
def thrs (h : List String) (t : Option String) : Prop := t = none ∨ ∃ x ∈ h, t = some x
set_option maxRecDepth 100000 in
set_option maxHeartbeats 4000000 in
theorem c_L_setWeekday {l : Launch} {D : va_G} {cs : Nat → ClassId} {sa : Nat → Nat} (hl : l.stackTraces = false)  {ad : Nat → Nat} {n : Nat} {E : ES} {S : MS} {o : Nat → Int64} {k f : Int32}  (ht : thrs [xIO, xIS] (e_setWeekday E k f).1) : CH l D cs sa yL_setWeekday cL_setWeekday 5 (Option.some Jvm.ClassFile.FieldType.int) [((0 : Nat), (10 : Nat), (13 : Nat), (13 : Nat)), ((0 : Nat), (10 : Nat), (17 : Nat), (15 : Nat))] (RM 8 8 64) 8 64 [.ref (ad 0), .int k, .int f, .ref (ad 32)] (WD ad cs n E S o) (none, some (.int (wres (e_setWeekday E k f) [xIO, xIS] E o).1), WD ad cs n (wres (e_setWeekday E k f) [xIO, xIS] E o).2.1 S (wres (e_setWeekday E k f) [xIO, xIS] E o).2.2) := by
  refine CH.of RL hl (by decide +kernel) rfl (Nat.le_of_ble_eq_true rfl) ?_
  intro p e s m args below meth c A hc ho
  refine j_aload_n hc dL_setWeekday_0 rfl ?_
  refine j_iconst hc (v := 0) dL_setWeekday_1 (by decide) ?_
  refine j_aload_n hc dL_setWeekday_2 rfl ?_
  refine j_iload_n hc dL_setWeekday_3 rfl ?_
  refine j_iload_n hc dL_setWeekday_4 rfl ?_
  refine j_callV' hc (c_X4_setWeekday hl) vc_L_7 rfl ⟨rfl, rfl, by decide, by decide⟩ 0 rfl rfl rfl (Nat.le_of_ble_eq_true rfl) ⟨by decide, by decide⟩ dL_setWeekday_5 ?_ (fun hn => ?_)
  · intro E9 h9
    rcases ht with ht | ⟨x9, hx9, ht⟩
    · exact absurd (ht.symm.trans h9) (by simp)
    · have e9 : x9 = E9 := Option.some.inj (ht.symm.trans h9)
      subst e9
      simp only [List.mem_cons, List.mem_nil_iff, or_false] at hx9
      rcases hx9 with rfl | rfl
      · -- xIO
        refine j_catch hc [] (⟨0, 10, 13, 13⟩ : ExceptionTableEntry) [(⟨0, 10, 17, 15⟩ : ExceptionTableEntry)] (ho.trans rfl) (fun z hz => by cases hz) (by decide) (by decide) wt_146 (by decide) rfl (fun q9 => ?_)
        refine j_astore hc dL_setWeekday_13 rfl ?_
        refine j_iconst hc (v := 1) dL_setWeekday_15 (by decide) ?_
        exact j_iret hc rfl (by decide) (by decide) (by simp only [wres, show (e_setWeekday E k f).1 = _ from ht, show wc [xIO, xIS] xIO = 1 from by decide]) dL_setWeekday_16
      · -- xIS
        refine j_catch hc [(⟨0, 10, 13, 13⟩ : ExceptionTableEntry)] (⟨0, 10, 17, 15⟩ : ExceptionTableEntry) [] (ho.trans rfl) (fun z hz => by
                simp only [List.mem_cons, List.mem_nil_iff, or_false] at hz
                subst hz
                exact ⟨by decide, xIO, wt_146, by decide⟩) (by decide) (by decide) wt_147 (by decide) rfl (fun q9 => ?_)
        refine j_astore hc dL_setWeekday_17 rfl ?_
        refine j_iconst hc (v := 2) dL_setWeekday_19 (by decide) ?_
        exact j_iret hc rfl (by decide) (by decide) (by simp only [wres, show (e_setWeekday E k f).1 = _ from ht, show wc [xIO, xIS] xIS = 2 from by decide]) dL_setWeekday_20
  have hn : (e_setWeekday E k f).1 = none := hn
  show J p l e _ s m args below meth c D A _ _ _ _ (WD ad cs n (e_setWeekday E k f).2.2 S o) _ _ (.int (e_setWeekday E k f).2.1 :: [.int 0, .ref (ad 32)])
  refine j_i2l hc dL_setWeekday_8 ?_
  refine as_out hc (vp_in_nI (n := 0) (N := 1) (by decide) (by decide)) dL_setWeekday_9 ?_
  refine j_goto hc 21 dL_setWeekday_10 (by decide) ?_
  refine j_iconst hc (v := 0) dL_setWeekday_21 (by decide) ?_
  exact j_iret hc rfl (by decide) (by decide) (by simp only [wres, hn] <;> rfl) dL_setWeekday_22
set_option maxRecDepth 100000 in
set_option maxHeartbeats 4000000 in
theorem c_L_addHoliday {l : Launch} {D : va_G} {cs : Nat → ClassId} {sa : Nat → Nat} (hl : l.stackTraces = false)  {ad : Nat → Nat} {n : Nat} {E : ES} {S : MS} {o : Nat → Int64} {k : Int32}  (ht : thrs [xIA] (e_addHoliday E k).1) : CH l D cs sa yL_addHoliday cL_addHoliday 4 (Option.some Jvm.ClassFile.FieldType.int) [((0 : Nat), (16 : Nat), (19 : Nat), (21 : Nat))] (RM 8 8 64) 8 64 [.ref (ad 0), .int k, .ref (ad 32)] (WD ad cs n E S o) (none, some (.int (wresZ (e_addHoliday E k) [xIA] E o).1), WD ad cs n (wresZ (e_addHoliday E k) [xIA] E o).2.1 S (wresZ (e_addHoliday E k) [xIA] E o).2.2) := by
  refine CH.of RL hl (by decide +kernel) rfl (Nat.le_of_ble_eq_true rfl) ?_
  intro p e s m args below meth c A hc ho
  refine j_aload_n hc dL_addHoliday_0 rfl ?_
  refine j_iconst hc (v := 0) dL_addHoliday_1 (by decide) ?_
  refine j_aload_n hc dL_addHoliday_2 rfl ?_
  refine j_iload_n hc dL_addHoliday_3 rfl ?_
  refine j_callV' hc (c_X4_addHoliday hl) vc_L_17 rfl ⟨rfl, rfl, by decide, by decide⟩ 0 rfl rfl rfl (Nat.le_of_ble_eq_true rfl) ⟨by decide, by decide⟩ dL_addHoliday_4 ?_ (fun hn => ?_)
  · intro E9 h9
    rcases ht with ht | ⟨x9, hx9, ht⟩
    · exact absurd (ht.symm.trans h9) (by simp)
    · have e9 : x9 = E9 := Option.some.inj (ht.symm.trans h9)
      subst e9
      simp only [List.mem_cons, List.mem_nil_iff, or_false] at hx9
      subst hx9
      refine j_catch hc [] (⟨0, 16, 19, 21⟩ : ExceptionTableEntry) [] (ho.trans rfl) (fun z hz => by cases hz) (by decide) (by decide) wt_249 (by decide) rfl (fun q9 => ?_)
      refine j_astore_n hc dL_addHoliday_19 rfl ?_
      refine j_iconst hc (v := 1) dL_addHoliday_20 (by decide) ?_
      exact j_iret hc rfl (by decide) (by decide) (by simp only [wresZ, show (e_addHoliday E k).1 = _ from ht, show wc [xIA] xIA = 1 from by decide]) dL_addHoliday_21
  have hn : (e_addHoliday E k).1 = none := hn
  show J p l e _ s m args below meth c D A _ _ _ _ (WD ad cs n (e_addHoliday E k).2.2 S o) _ _ (.int (e_addHoliday E k).2.1 :: [.int 0, .ref (ad 32)])
  refine j_if_eq hc 14 dL_addHoliday_7 (by decide) (fun hz => ?_) (fun hz => ?_)
  · refine j_lconst hc (v := 0) dL_addHoliday_14 (by decide) ?_
    refine as_out hc (vp_in_nI (n := 0) (N := 1) (by decide) (by decide)) dL_addHoliday_15 ?_
    refine j_goto hc 22 dL_addHoliday_16 (by decide) ?_
    refine j_iconst hc (v := 0) dL_addHoliday_22 (by decide) ?_
    exact j_iret hc rfl (by decide) (by decide) (by simp only [wresZ, hn, if_pos hz] <;> rfl) dL_addHoliday_23
  · refine j_lconst hc (v := 1) dL_addHoliday_10 (by decide) ?_
    refine j_goto hc 15 dL_addHoliday_11 (by decide) ?_
    refine as_out hc (vp_in_nI (n := 0) (N := 1) (by decide) (by decide)) dL_addHoliday_15 ?_
    refine j_goto hc 22 dL_addHoliday_16 (by decide) ?_
    refine j_iconst hc (v := 0) dL_addHoliday_22 (by decide) ?_
    exact j_iret hc rfl (by decide) (by decide) (by simp only [wresZ, hn, if_neg hz] <;> rfl) dL_addHoliday_23
set_option maxRecDepth 100000 in
set_option maxHeartbeats 4000000 in
theorem c_L_addGap {l : Launch} {D : va_G} {cs : Nat → ClassId} {sa : Nat → Nat} (hl : l.stackTraces = false)  {ad : Nat → Nat} {n : Nat} {E : ES} {S : MS} {o : Nat → Int64} {k f : Int32}  (ht : thrs [xIO, xIA, xIS] (e_addGap E k f).1) : CH l D cs sa yL_addGap cL_addGap 5 (Option.some Jvm.ClassFile.FieldType.int) [((0 : Nat), (10 : Nat), (13 : Nat), (13 : Nat)), ((0 : Nat), (10 : Nat), (17 : Nat), (21 : Nat)), ((0 : Nat), (10 : Nat), (21 : Nat), (15 : Nat))] (RM 8 8 64) 8 64 [.ref (ad 0), .int k, .int f, .ref (ad 32)] (WD ad cs n E S o) (none, some (.int (wres (e_addGap E k f) [xIO, xIA, xIS] E o).1), WD ad cs n (wres (e_addGap E k f) [xIO, xIA, xIS] E o).2.1 S (wres (e_addGap E k f) [xIO, xIA, xIS] E o).2.2) := by
  refine CH.of RL hl (by decide +kernel) rfl (Nat.le_of_ble_eq_true rfl) ?_
  intro p e s m args below meth c A hc ho
  refine j_aload_n hc dL_addGap_0 rfl ?_
  refine j_iconst hc (v := 0) dL_addGap_1 (by decide) ?_
  refine j_aload_n hc dL_addGap_2 rfl ?_
  refine j_iload_n hc dL_addGap_3 rfl ?_
  refine j_iload_n hc dL_addGap_4 rfl ?_
  refine j_callV' hc (c_X4_addGap hl) vc_L_23 rfl ⟨rfl, rfl, by decide, by decide⟩ 0 rfl rfl rfl (Nat.le_of_ble_eq_true rfl) ⟨by decide, by decide⟩ dL_addGap_5 ?_ (fun hn => ?_)
  · intro E9 h9
    rcases ht with ht | ⟨x9, hx9, ht⟩
    · exact absurd (ht.symm.trans h9) (by simp)
    · have e9 : x9 = E9 := Option.some.inj (ht.symm.trans h9)
      subst e9
      simp only [List.mem_cons, List.mem_nil_iff, or_false] at hx9
      rcases hx9 with rfl | rfl | rfl
      · -- xIO
        refine j_catch hc [] (⟨0, 10, 13, 13⟩ : ExceptionTableEntry) [(⟨0, 10, 17, 21⟩ : ExceptionTableEntry), (⟨0, 10, 21, 15⟩ : ExceptionTableEntry)] (ho.trans rfl) (fun z hz => by cases hz) (by decide) (by decide) wt_146 (by decide) rfl (fun q9 => ?_)
        refine j_astore hc dL_addGap_13 rfl ?_
        refine j_iconst hc (v := 1) dL_addGap_15 (by decide) ?_
        exact j_iret hc rfl (by decide) (by decide) (by simp only [wres, show (e_addGap E k f).1 = _ from ht, show wc [xIO, xIA, xIS] xIO = 1 from by decide]) dL_addGap_16
      · -- xIA
        refine j_catch hc [(⟨0, 10, 13, 13⟩ : ExceptionTableEntry)] (⟨0, 10, 17, 21⟩ : ExceptionTableEntry) [(⟨0, 10, 21, 15⟩ : ExceptionTableEntry)] (ho.trans rfl) (fun z hz => by
                simp only [List.mem_cons, List.mem_nil_iff, or_false] at hz
                subst hz
                exact ⟨by decide, xIO, wt_146, by decide⟩) (by decide) (by decide) wt_249 (by decide) rfl (fun q9 => ?_)
        refine j_astore hc dL_addGap_17 rfl ?_
        refine j_iconst hc (v := 2) dL_addGap_19 (by decide) ?_
        exact j_iret hc rfl (by decide) (by decide) (by simp only [wres, show (e_addGap E k f).1 = _ from ht, show wc [xIO, xIA, xIS] xIA = 2 from by decide]) dL_addGap_20
      · -- xIS
        refine j_catch hc [(⟨0, 10, 13, 13⟩ : ExceptionTableEntry), (⟨0, 10, 17, 21⟩ : ExceptionTableEntry)] (⟨0, 10, 21, 15⟩ : ExceptionTableEntry) [] (ho.trans rfl) (fun z hz => by
                simp only [List.mem_cons, List.mem_nil_iff, or_false] at hz
                rcases hz with rfl | rfl
                · exact ⟨by decide, xIO, wt_146, by decide⟩
                · exact ⟨by decide, xIA, wt_249, by decide⟩) (by decide) (by decide) wt_147 (by decide) rfl (fun q9 => ?_)
        refine j_astore hc dL_addGap_21 rfl ?_
        refine j_iconst hc (v := 3) dL_addGap_23 (by decide) ?_
        exact j_iret hc rfl (by decide) (by decide) (by simp only [wres, show (e_addGap E k f).1 = _ from ht, show wc [xIO, xIA, xIS] xIS = 3 from by decide]) dL_addGap_24
  have hn : (e_addGap E k f).1 = none := hn
  show J p l e _ s m args below meth c D A _ _ _ _ (WD ad cs n (e_addGap E k f).2.2 S o) _ _ (.int (e_addGap E k f).2.1 :: [.int 0, .ref (ad 32)])
  refine j_i2l hc dL_addGap_8 ?_
  refine as_out hc (vp_in_nI (n := 0) (N := 1) (by decide) (by decide)) dL_addGap_9 ?_
  refine j_goto hc 25 dL_addGap_10 (by decide) ?_
  refine j_iconst hc (v := 0) dL_addGap_25 (by decide) ?_
  exact j_iret hc rfl (by decide) (by decide) (by simp only [wres, hn] <;> rfl) dL_addGap_26
set_option maxRecDepth 100000 in
set_option maxHeartbeats 4000000 in
theorem c_L_clearGaps {l : Launch} {D : va_G} {cs : Nat → ClassId} {sa : Nat → Nat} (hl : l.stackTraces = false)  {ad : Nat → Nat} {n : Nat} {E : ES} {S : MS} {o : Nat → Int64} {k : Int32}  (ht : thrs [xIO] (e_clearGaps E k).1) : CH l D cs sa yL_clearGaps cL_clearGaps 4 (Option.some Jvm.ClassFile.FieldType.int) [((0 : Nat), (9 : Nat), (12 : Nat), (13 : Nat))] (RM 8 8 64) 8 64 [.ref (ad 0), .int k, .ref (ad 32)] (WD ad cs n E S o) (none, some (.int (wres (e_clearGaps E k) [xIO] E o).1), WD ad cs n (wres (e_clearGaps E k) [xIO] E o).2.1 S (wres (e_clearGaps E k) [xIO] E o).2.2) := by
  refine CH.of RL hl (by decide +kernel) rfl (Nat.le_of_ble_eq_true rfl) ?_
  intro p e s m args below meth c A hc ho
  refine j_aload_n hc dL_clearGaps_0 rfl ?_
  refine j_iconst hc (v := 0) dL_clearGaps_1 (by decide) ?_
  refine j_aload_n hc dL_clearGaps_2 rfl ?_
  refine j_iload_n hc dL_clearGaps_3 rfl ?_
  refine j_callV' hc (c_X4_clearGaps hl) vc_L_27 rfl ⟨rfl, rfl, by decide, by decide⟩ 0 rfl rfl rfl (Nat.le_of_ble_eq_true rfl) ⟨by decide, by decide⟩ dL_clearGaps_4 ?_ (fun hn => ?_)
  · intro E9 h9
    rcases ht with ht | ⟨x9, hx9, ht⟩
    · exact absurd (ht.symm.trans h9) (by simp)
    · have e9 : x9 = E9 := Option.some.inj (ht.symm.trans h9)
      subst e9
      simp only [List.mem_cons, List.mem_nil_iff, or_false] at hx9
      subst hx9
      refine j_catch hc [] (⟨0, 9, 12, 13⟩ : ExceptionTableEntry) [] (ho.trans rfl) (fun z hz => by cases hz) (by decide) (by decide) wt_146 (by decide) rfl (fun q9 => ?_)
      refine j_astore_n hc dL_clearGaps_12 rfl ?_
      refine j_iconst hc (v := 1) dL_clearGaps_13 (by decide) ?_
      exact j_iret hc rfl (by decide) (by decide) (by simp only [wres, show (e_clearGaps E k).1 = _ from ht, show wc [xIO] xIO = 1 from by decide]) dL_clearGaps_14
  have hn : (e_clearGaps E k).1 = none := hn
  show J p l e _ s m args below meth c D A _ _ _ _ (WD ad cs n (e_clearGaps E k).2.2 S o) _ _ (.int (e_clearGaps E k).2.1 :: [.int 0, .ref (ad 32)])
  refine j_i2l hc dL_clearGaps_7 ?_
  refine as_out hc (vp_in_nI (n := 0) (N := 1) (by decide) (by decide)) dL_clearGaps_8 ?_
  refine j_goto hc 15 dL_clearGaps_9 (by decide) ?_
  refine j_iconst hc (v := 0) dL_clearGaps_15 (by decide) ?_
  exact j_iret hc rfl (by decide) (by decide) (by simp only [wres, hn] <;> rfl) dL_clearGaps_16
set_option maxRecDepth 100000 in
set_option maxHeartbeats 4000000 in
theorem c_L_setTimes {l : Launch} {D : va_G} {cs : Nat → ClassId} {sa : Nat → Nat} (hl : l.stackTraces = false)  {ad : Nat → Nat} {n : Nat} {E : ES} {S : MS} {o : Nat → Int64} {k f : Int32}  (ht : thrs [xIA] (e_setTimes E k f).1) : CH l D cs sa yL_setTimes cL_setTimes 5 (Option.some Jvm.ClassFile.FieldType.int) [((0 : Nat), (10 : Nat), (13 : Nat), (21 : Nat))] (RM 8 8 64) 8 64 [.ref (ad 0), .int k, .int f, .ref (ad 32)] (WD ad cs n E S o) (none, some (.int (wres (e_setTimes E k f) [xIA] E o).1), WD ad cs n (wres (e_setTimes E k f) [xIA] E o).2.1 S (wres (e_setTimes E k f) [xIA] E o).2.2) := by
  refine CH.of RL hl (by decide +kernel) rfl (Nat.le_of_ble_eq_true rfl) ?_
  intro p e s m args below meth c A hc ho
  refine j_aload_n hc dL_setTimes_0 rfl ?_
  refine j_iconst hc (v := 0) dL_setTimes_1 (by decide) ?_
  refine j_aload_n hc dL_setTimes_2 rfl ?_
  refine j_iload_n hc dL_setTimes_3 rfl ?_
  refine j_iload_n hc dL_setTimes_4 rfl ?_
  refine j_callV' hc (c_X4_setTimes hl) vc_L_31 rfl ⟨rfl, rfl, by decide, by decide⟩ 0 rfl rfl rfl (Nat.le_of_ble_eq_true rfl) ⟨by decide, by decide⟩ dL_setTimes_5 ?_ (fun hn => ?_)
  · intro E9 h9
    rcases ht with ht | ⟨x9, hx9, ht⟩
    · exact absurd (ht.symm.trans h9) (by simp)
    · have e9 : x9 = E9 := Option.some.inj (ht.symm.trans h9)
      subst e9
      simp only [List.mem_cons, List.mem_nil_iff, or_false] at hx9
      subst hx9
      refine j_catch hc [] (⟨0, 10, 13, 21⟩ : ExceptionTableEntry) [] (ho.trans rfl) (fun z hz => by cases hz) (by decide) (by decide) wt_249 (by decide) rfl (fun q9 => ?_)
      refine j_astore hc dL_setTimes_13 rfl ?_
      refine j_iconst hc (v := 1) dL_setTimes_15 (by decide) ?_
      exact j_iret hc rfl (by decide) (by decide) (by simp only [wres, show (e_setTimes E k f).1 = _ from ht, show wc [xIA] xIA = 1 from by decide]) dL_setTimes_16
  have hn : (e_setTimes E k f).1 = none := hn
  show J p l e _ s m args below meth c D A _ _ _ _ (WD ad cs n (e_setTimes E k f).2.2 S o) _ _ (.int (e_setTimes E k f).2.1 :: [.int 0, .ref (ad 32)])
  refine j_i2l hc dL_setTimes_8 ?_
  refine as_out hc (vp_in_nI (n := 0) (N := 1) (by decide) (by decide)) dL_setTimes_9 ?_
  refine j_goto hc 17 dL_setTimes_10 (by decide) ?_
  refine j_iconst hc (v := 0) dL_setTimes_17 (by decide) ?_
  exact j_iret hc rfl (by decide) (by decide) (by simp only [wres, hn] <;> rfl) dL_setTimes_18
set_option maxRecDepth 100000 in
set_option maxHeartbeats 4000000 in
theorem c_L_outcome {l : Launch} {D : va_G} {cs : Nat → ClassId} {sa : Nat → Nat} (hl : l.stackTraces = false)  {ad : Nat → Nat} {n : Nat} {E : ES} {S : MS} {o : Nat → Int64} {k f : Int32} (hn30 : n ≤ 30) (ht : thrs [xIO, xIA, xIS] (e_outcome n E k f).1) : CH l D cs sa yL_outcome cL_outcome 5 (Option.some Jvm.ClassFile.FieldType.int) [((0 : Nat), (10 : Nat), (13 : Nat), (13 : Nat)), ((0 : Nat), (10 : Nat), (17 : Nat), (21 : Nat)), ((0 : Nat), (10 : Nat), (21 : Nat), (15 : Nat))] (RM 8 8 64) 8 64 [.ref (ad 0), .int k, .int f, .ref (ad 32)] (WD ad cs n E S o) (none, some (.int (wres (e_outcome n E k f) [xIO, xIA, xIS] E o).1), WD ad cs n (wres (e_outcome n E k f) [xIO, xIA, xIS] E o).2.1 S (wres (e_outcome n E k f) [xIO, xIA, xIS] E o).2.2) := by
  refine CH.of RL hl (by decide +kernel) rfl (Nat.le_of_ble_eq_true rfl) ?_
  intro p e s m args below meth c A hc ho
  refine j_aload_n hc dL_outcome_0 rfl ?_
  refine j_iconst hc (v := 0) dL_outcome_1 (by decide) ?_
  refine j_aload_n hc dL_outcome_2 rfl ?_
  refine j_iload_n hc dL_outcome_3 rfl ?_
  refine j_iload_n hc dL_outcome_4 rfl ?_
  refine j_callV' hc (c_X4_outcome hl hn30) vc_L_37 rfl ⟨rfl, rfl, by decide, by decide⟩ 0 rfl rfl rfl (Nat.le_of_ble_eq_true rfl) ⟨by decide, by decide⟩ dL_outcome_5 ?_ (fun hn => ?_)
  · intro E9 h9
    rcases ht with ht | ⟨x9, hx9, ht⟩
    · exact absurd (ht.symm.trans h9) (by simp)
    · have e9 : x9 = E9 := Option.some.inj (ht.symm.trans h9)
      subst e9
      simp only [List.mem_cons, List.mem_nil_iff, or_false] at hx9
      rcases hx9 with rfl | rfl | rfl
      · -- xIO
        refine j_catch hc [] (⟨0, 10, 13, 13⟩ : ExceptionTableEntry) [(⟨0, 10, 17, 21⟩ : ExceptionTableEntry), (⟨0, 10, 21, 15⟩ : ExceptionTableEntry)] (ho.trans rfl) (fun z hz => by cases hz) (by decide) (by decide) wt_146 (by decide) rfl (fun q9 => ?_)
        refine j_astore hc dL_outcome_13 rfl ?_
        refine j_iconst hc (v := 1) dL_outcome_15 (by decide) ?_
        exact j_iret hc rfl (by decide) (by decide) (by simp only [wres, show (e_outcome n E k f).1 = _ from ht, show wc [xIO, xIA, xIS] xIO = 1 from by decide]) dL_outcome_16
      · -- xIA
        refine j_catch hc [(⟨0, 10, 13, 13⟩ : ExceptionTableEntry)] (⟨0, 10, 17, 21⟩ : ExceptionTableEntry) [(⟨0, 10, 21, 15⟩ : ExceptionTableEntry)] (ho.trans rfl) (fun z hz => by
                simp only [List.mem_cons, List.mem_nil_iff, or_false] at hz
                subst hz
                exact ⟨by decide, xIO, wt_146, by decide⟩) (by decide) (by decide) wt_249 (by decide) rfl (fun q9 => ?_)
        refine j_astore hc dL_outcome_17 rfl ?_
        refine j_iconst hc (v := 2) dL_outcome_19 (by decide) ?_
        exact j_iret hc rfl (by decide) (by decide) (by simp only [wres, show (e_outcome n E k f).1 = _ from ht, show wc [xIO, xIA, xIS] xIA = 2 from by decide]) dL_outcome_20
      · -- xIS
        refine j_catch hc [(⟨0, 10, 13, 13⟩ : ExceptionTableEntry), (⟨0, 10, 17, 21⟩ : ExceptionTableEntry)] (⟨0, 10, 21, 15⟩ : ExceptionTableEntry) [] (ho.trans rfl) (fun z hz => by
                simp only [List.mem_cons, List.mem_nil_iff, or_false] at hz
                rcases hz with rfl | rfl
                · exact ⟨by decide, xIO, wt_146, by decide⟩
                · exact ⟨by decide, xIA, wt_249, by decide⟩) (by decide) (by decide) wt_147 (by decide) rfl (fun q9 => ?_)
        refine j_astore hc dL_outcome_21 rfl ?_
        refine j_iconst hc (v := 3) dL_outcome_23 (by decide) ?_
        exact j_iret hc rfl (by decide) (by decide) (by simp only [wres, show (e_outcome n E k f).1 = _ from ht, show wc [xIO, xIA, xIS] xIS = 3 from by decide]) dL_outcome_24
  have hn : (e_outcome n E k f).1 = none := hn
  show J p l e _ s m args below meth c D A _ _ _ _ (WD ad cs n (e_outcome n E k f).2.2 S o) _ _ (.int (e_outcome n E k f).2.1 :: [.int 0, .ref (ad 32)])
  refine j_i2l hc dL_outcome_8 ?_
  refine as_out hc (vp_in_nI (n := 0) (N := 1) (by decide) (by decide)) dL_outcome_9 ?_
  refine j_goto hc 25 dL_outcome_10 (by decide) ?_
  refine j_iconst hc (v := 0) dL_outcome_25 (by decide) ?_
  exact j_iret hc rfl (by decide) (by decide) (by simp only [wres, hn] <;> rfl) dL_outcome_26
set_option maxRecDepth 100000 in
set_option maxHeartbeats 4000000 in
theorem c_L_pay {l : Launch} {D : va_G} {cs : Nat → ClassId} {sa : Nat → Nat} (hl : l.stackTraces = false)  {ad : Nat → Nat} {n : Nat} {E : ES} {S : MS} {o : Nat → Int64} {k f : Int32} (hn30 : n ≤ 30) (ht : thrs [xIO, xIA, xIS] (e_pay n E k f).1) : CH l D cs sa yL_pay cL_pay 5 (Option.some Jvm.ClassFile.FieldType.int) [((0 : Nat), (10 : Nat), (13 : Nat), (13 : Nat)), ((0 : Nat), (10 : Nat), (17 : Nat), (21 : Nat)), ((0 : Nat), (10 : Nat), (21 : Nat), (15 : Nat))] (RM 8 8 64) 8 64 [.ref (ad 0), .int k, .int f, .ref (ad 32)] (WD ad cs n E S o) (none, some (.int (wres (e_pay n E k f) [xIO, xIA, xIS] E o).1), WD ad cs n (wres (e_pay n E k f) [xIO, xIA, xIS] E o).2.1 S (wres (e_pay n E k f) [xIO, xIA, xIS] E o).2.2) := by
  refine CH.of RL hl (by decide +kernel) rfl (Nat.le_of_ble_eq_true rfl) ?_
  intro p e s m args below meth c A hc ho
  refine j_aload_n hc dL_pay_0 rfl ?_
  refine j_iconst hc (v := 0) dL_pay_1 (by decide) ?_
  refine j_aload_n hc dL_pay_2 rfl ?_
  refine j_iload_n hc dL_pay_3 rfl ?_
  refine j_iload_n hc dL_pay_4 rfl ?_
  refine j_callV' hc (c_X4_pay hl hn30) vc_L_40 rfl ⟨rfl, rfl, by decide, by decide⟩ 0 rfl rfl rfl (Nat.le_of_ble_eq_true rfl) ⟨by decide, by decide⟩ dL_pay_5 ?_ (fun hn => ?_)
  · intro E9 h9
    rcases ht with ht | ⟨x9, hx9, ht⟩
    · exact absurd (ht.symm.trans h9) (by simp)
    · have e9 : x9 = E9 := Option.some.inj (ht.symm.trans h9)
      subst e9
      simp only [List.mem_cons, List.mem_nil_iff, or_false] at hx9
      rcases hx9 with rfl | rfl | rfl
      · -- xIO
        refine j_catch hc [] (⟨0, 10, 13, 13⟩ : ExceptionTableEntry) [(⟨0, 10, 17, 21⟩ : ExceptionTableEntry), (⟨0, 10, 21, 15⟩ : ExceptionTableEntry)] (ho.trans rfl) (fun z hz => by cases hz) (by decide) (by decide) wt_146 (by decide) rfl (fun q9 => ?_)
        refine j_astore hc dL_pay_13 rfl ?_
        refine j_iconst hc (v := 1) dL_pay_15 (by decide) ?_
        exact j_iret hc rfl (by decide) (by decide) (by simp only [wres, show (e_pay n E k f).1 = _ from ht, show wc [xIO, xIA, xIS] xIO = 1 from by decide]) dL_pay_16
      · -- xIA
        refine j_catch hc [(⟨0, 10, 13, 13⟩ : ExceptionTableEntry)] (⟨0, 10, 17, 21⟩ : ExceptionTableEntry) [(⟨0, 10, 21, 15⟩ : ExceptionTableEntry)] (ho.trans rfl) (fun z hz => by
                simp only [List.mem_cons, List.mem_nil_iff, or_false] at hz
                subst hz
                exact ⟨by decide, xIO, wt_146, by decide⟩) (by decide) (by decide) wt_249 (by decide) rfl (fun q9 => ?_)
        refine j_astore hc dL_pay_17 rfl ?_
        refine j_iconst hc (v := 2) dL_pay_19 (by decide) ?_
        exact j_iret hc rfl (by decide) (by decide) (by simp only [wres, show (e_pay n E k f).1 = _ from ht, show wc [xIO, xIA, xIS] xIA = 2 from by decide]) dL_pay_20
      · -- xIS
        refine j_catch hc [(⟨0, 10, 13, 13⟩ : ExceptionTableEntry), (⟨0, 10, 17, 21⟩ : ExceptionTableEntry)] (⟨0, 10, 21, 15⟩ : ExceptionTableEntry) [] (ho.trans rfl) (fun z hz => by
                simp only [List.mem_cons, List.mem_nil_iff, or_false] at hz
                rcases hz with rfl | rfl
                · exact ⟨by decide, xIO, wt_146, by decide⟩
                · exact ⟨by decide, xIA, wt_249, by decide⟩) (by decide) (by decide) wt_147 (by decide) rfl (fun q9 => ?_)
        refine j_astore hc dL_pay_21 rfl ?_
        refine j_iconst hc (v := 3) dL_pay_23 (by decide) ?_
        exact j_iret hc rfl (by decide) (by decide) (by simp only [wres, show (e_pay n E k f).1 = _ from ht, show wc [xIO, xIA, xIS] xIS = 3 from by decide]) dL_pay_24
  have hn : (e_pay n E k f).1 = none := hn
  show J p l e _ s m args below meth c D A _ _ _ _ (WD ad cs n (e_pay n E k f).2.2 S o) _ _ (.int (e_pay n E k f).2.1 :: [.int 0, .ref (ad 32)])
  refine j_i2l hc dL_pay_8 ?_
  refine as_out hc (vp_in_nI (n := 0) (N := 1) (by decide) (by decide)) dL_pay_9 ?_
  refine j_goto hc 25 dL_pay_10 (by decide) ?_
  refine j_iconst hc (v := 0) dL_pay_25 (by decide) ?_
  exact j_iret hc rfl (by decide) (by decide) (by simp only [wres, hn] <;> rfl) dL_pay_26
set_option maxRecDepth 100000 in
set_option maxHeartbeats 4000000 in
theorem c_L_promise {l : Launch} {D : va_G} {cs : Nat → ClassId} {sa : Nat → Nat} (hl : l.stackTraces = false)  {ad : Nat → Nat} {n : Nat} {E : ES} {S : MS} {o : Nat → Int64} {k f : Int32} (hn30 : n ≤ 30) (ht : thrs [xIO, xIA, xIS] (e_promise n E k f).1) : CH l D cs sa yL_promise cL_promise 5 (Option.some Jvm.ClassFile.FieldType.int) [((0 : Nat), (10 : Nat), (13 : Nat), (13 : Nat)), ((0 : Nat), (10 : Nat), (17 : Nat), (21 : Nat)), ((0 : Nat), (10 : Nat), (21 : Nat), (15 : Nat))] (RM 8 8 64) 8 64 [.ref (ad 0), .int k, .int f, .ref (ad 32)] (WD ad cs n E S o) (none, some (.int (wres (e_promise n E k f) [xIO, xIA, xIS] E o).1), WD ad cs n (wres (e_promise n E k f) [xIO, xIA, xIS] E o).2.1 S (wres (e_promise n E k f) [xIO, xIA, xIS] E o).2.2) := by
  refine CH.of RL hl (by decide +kernel) rfl (Nat.le_of_ble_eq_true rfl) ?_
  intro p e s m args below meth c A hc ho
  refine j_aload_n hc dL_promise_0 rfl ?_
  refine j_iconst hc (v := 0) dL_promise_1 (by decide) ?_
  refine j_aload_n hc dL_promise_2 rfl ?_
  refine j_iload_n hc dL_promise_3 rfl ?_
  refine j_iload_n hc dL_promise_4 rfl ?_
  refine j_callV' hc (c_X4_promise hl hn30) vc_L_43 rfl ⟨rfl, rfl, by decide, by decide⟩ 0 rfl rfl rfl (Nat.le_of_ble_eq_true rfl) ⟨by decide, by decide⟩ dL_promise_5 ?_ (fun hn => ?_)
  · intro E9 h9
    rcases ht with ht | ⟨x9, hx9, ht⟩
    · exact absurd (ht.symm.trans h9) (by simp)
    · have e9 : x9 = E9 := Option.some.inj (ht.symm.trans h9)
      subst e9
      simp only [List.mem_cons, List.mem_nil_iff, or_false] at hx9
      rcases hx9 with rfl | rfl | rfl
      · -- xIO
        refine j_catch hc [] (⟨0, 10, 13, 13⟩ : ExceptionTableEntry) [(⟨0, 10, 17, 21⟩ : ExceptionTableEntry), (⟨0, 10, 21, 15⟩ : ExceptionTableEntry)] (ho.trans rfl) (fun z hz => by cases hz) (by decide) (by decide) wt_146 (by decide) rfl (fun q9 => ?_)
        refine j_astore hc dL_promise_13 rfl ?_
        refine j_iconst hc (v := 1) dL_promise_15 (by decide) ?_
        exact j_iret hc rfl (by decide) (by decide) (by simp only [wres, show (e_promise n E k f).1 = _ from ht, show wc [xIO, xIA, xIS] xIO = 1 from by decide]) dL_promise_16
      · -- xIA
        refine j_catch hc [(⟨0, 10, 13, 13⟩ : ExceptionTableEntry)] (⟨0, 10, 17, 21⟩ : ExceptionTableEntry) [(⟨0, 10, 21, 15⟩ : ExceptionTableEntry)] (ho.trans rfl) (fun z hz => by
                simp only [List.mem_cons, List.mem_nil_iff, or_false] at hz
                subst hz
                exact ⟨by decide, xIO, wt_146, by decide⟩) (by decide) (by decide) wt_249 (by decide) rfl (fun q9 => ?_)
        refine j_astore hc dL_promise_17 rfl ?_
        refine j_iconst hc (v := 2) dL_promise_19 (by decide) ?_
        exact j_iret hc rfl (by decide) (by decide) (by simp only [wres, show (e_promise n E k f).1 = _ from ht, show wc [xIO, xIA, xIS] xIA = 2 from by decide]) dL_promise_20
      · -- xIS
        refine j_catch hc [(⟨0, 10, 13, 13⟩ : ExceptionTableEntry), (⟨0, 10, 17, 21⟩ : ExceptionTableEntry)] (⟨0, 10, 21, 15⟩ : ExceptionTableEntry) [] (ho.trans rfl) (fun z hz => by
                simp only [List.mem_cons, List.mem_nil_iff, or_false] at hz
                rcases hz with rfl | rfl
                · exact ⟨by decide, xIO, wt_146, by decide⟩
                · exact ⟨by decide, xIA, wt_249, by decide⟩) (by decide) (by decide) wt_147 (by decide) rfl (fun q9 => ?_)
        refine j_astore hc dL_promise_21 rfl ?_
        refine j_iconst hc (v := 3) dL_promise_23 (by decide) ?_
        exact j_iret hc rfl (by decide) (by decide) (by simp only [wres, show (e_promise n E k f).1 = _ from ht, show wc [xIO, xIA, xIS] xIS = 3 from by decide]) dL_promise_24
  have hn : (e_promise n E k f).1 = none := hn
  show J p l e _ s m args below meth c D A _ _ _ _ (WD ad cs n (e_promise n E k f).2.2 S o) _ _ (.int (e_promise n E k f).2.1 :: [.int 0, .ref (ad 32)])
  refine j_i2l hc dL_promise_8 ?_
  refine as_out hc (vp_in_nI (n := 0) (N := 1) (by decide) (by decide)) dL_promise_9 ?_
  refine j_goto hc 25 dL_promise_10 (by decide) ?_
  refine j_iconst hc (v := 0) dL_promise_25 (by decide) ?_
  exact j_iret hc rfl (by decide) (by decide) (by simp only [wres, hn] <;> rfl) dL_promise_26
set_option maxRecDepth 100000 in
set_option maxHeartbeats 4000000 in
theorem c_L_pass {l : Launch} {D : va_G} {cs : Nat → ClassId} {sa : Nat → Nat} (hl : l.stackTraces = false)  {ad : Nat → Nat} {n : Nat} {E : ES} {S : MS} {o : Nat → Int64} {k : Int32} (hn30 : n ≤ 30) (ht : thrs [xIA] (e_pass n E k).1) : CH l D cs sa yL_pass cL_pass 4 (Option.some Jvm.ClassFile.FieldType.int) [((0 : Nat), (9 : Nat), (12 : Nat), (21 : Nat))] (RM 8 8 64) 8 64 [.ref (ad 0), .int k, .ref (ad 32)] (WD ad cs n E S o) (none, some (.int (wres (e_pass n E k) [xIA] E o).1), WD ad cs n (wres (e_pass n E k) [xIA] E o).2.1 S (wres (e_pass n E k) [xIA] E o).2.2) := by
  refine CH.of RL hl (by decide +kernel) rfl (Nat.le_of_ble_eq_true rfl) ?_
  intro p e s m args below meth c A hc ho
  refine j_aload_n hc dL_pass_0 rfl ?_
  refine j_iconst hc (v := 0) dL_pass_1 (by decide) ?_
  refine j_aload_n hc dL_pass_2 rfl ?_
  refine j_iload_n hc dL_pass_3 rfl ?_
  refine j_callV' hc (c_X4_pass hl hn30) vc_L_46 rfl ⟨rfl, rfl, by decide, by decide⟩ 0 rfl rfl rfl (Nat.le_of_ble_eq_true rfl) ⟨by decide, by decide⟩ dL_pass_4 ?_ (fun hn => ?_)
  · intro E9 h9
    rcases ht with ht | ⟨x9, hx9, ht⟩
    · exact absurd (ht.symm.trans h9) (by simp)
    · have e9 : x9 = E9 := Option.some.inj (ht.symm.trans h9)
      subst e9
      simp only [List.mem_cons, List.mem_nil_iff, or_false] at hx9
      subst hx9
      refine j_catch hc [] (⟨0, 9, 12, 21⟩ : ExceptionTableEntry) [] (ho.trans rfl) (fun z hz => by cases hz) (by decide) (by decide) wt_249 (by decide) rfl (fun q9 => ?_)
      refine j_astore_n hc dL_pass_12 rfl ?_
      refine j_iconst hc (v := 1) dL_pass_13 (by decide) ?_
      exact j_iret hc rfl (by decide) (by decide) (by simp only [wres, show (e_pass n E k).1 = _ from ht, show wc [xIA] xIA = 1 from by decide]) dL_pass_14
  have hn : (e_pass n E k).1 = none := hn
  show J p l e _ s m args below meth c D A _ _ _ _ (WD ad cs n (e_pass n E k).2.2 S o) _ _ (.int (e_pass n E k).2.1 :: [.int 0, .ref (ad 32)])
  refine j_i2l hc dL_pass_7 ?_
  refine as_out hc (vp_in_nI (n := 0) (N := 1) (by decide) (by decide)) dL_pass_8 ?_
  refine j_goto hc 15 dL_pass_9 (by decide) ?_
  refine j_iconst hc (v := 0) dL_pass_15 (by decide) ?_
  exact j_iret hc rfl (by decide) (by decide) (by simp only [wres, hn] <;> rfl) dL_pass_16
set_option maxRecDepth 100000 in
set_option maxHeartbeats 4000000 in
theorem c_L_isCharging {l : Launch} {D : va_G} {cs : Nat → ClassId} {sa : Nat → Nat} (hl : l.stackTraces = false)  {ad : Nat → Nat} {n : Nat} {E : ES} {S : MS} {o : Nat → Int64} {k : Int32}  (ht : thrs [xIA] (e_isCharging E k).1) : CH l D cs sa yL_isCharging cL_isCharging 4 (Option.some Jvm.ClassFile.FieldType.int) [((0 : Nat), (16 : Nat), (19 : Nat), (21 : Nat))] (RM 8 8 64) 8 64 [.ref (ad 0), .int k, .ref (ad 32)] (WD ad cs n E S o) (none, some (.int (wresZ (e_isCharging E k) [xIA] E o).1), WD ad cs n (wresZ (e_isCharging E k) [xIA] E o).2.1 S (wresZ (e_isCharging E k) [xIA] E o).2.2) := by
  refine CH.of RL hl (by decide +kernel) rfl (Nat.le_of_ble_eq_true rfl) ?_
  intro p e s m args below meth c A hc ho
  refine j_aload_n hc dL_isCharging_0 rfl ?_
  refine j_iconst hc (v := 0) dL_isCharging_1 (by decide) ?_
  refine j_aload_n hc dL_isCharging_2 rfl ?_
  refine j_iload_n hc dL_isCharging_3 rfl ?_
  refine j_callV' hc (c_X4_isCharging hl) vc_L_49 rfl ⟨rfl, rfl, by decide, by decide⟩ 0 rfl rfl rfl (Nat.le_of_ble_eq_true rfl) ⟨by decide, by decide⟩ dL_isCharging_4 ?_ (fun hn => ?_)
  · intro E9 h9
    rcases ht with ht | ⟨x9, hx9, ht⟩
    · exact absurd (ht.symm.trans h9) (by simp)
    · have e9 : x9 = E9 := Option.some.inj (ht.symm.trans h9)
      subst e9
      simp only [List.mem_cons, List.mem_nil_iff, or_false] at hx9
      subst hx9
      refine j_catch hc [] (⟨0, 16, 19, 21⟩ : ExceptionTableEntry) [] (ho.trans rfl) (fun z hz => by cases hz) (by decide) (by decide) wt_249 (by decide) rfl (fun q9 => ?_)
      refine j_astore_n hc dL_isCharging_19 rfl ?_
      refine j_iconst hc (v := 1) dL_isCharging_20 (by decide) ?_
      exact j_iret hc rfl (by decide) (by decide) (by simp only [wresZ, show (e_isCharging E k).1 = _ from ht, show wc [xIA] xIA = 1 from by decide]) dL_isCharging_21
  have hn : (e_isCharging E k).1 = none := hn
  show J p l e _ s m args below meth c D A _ _ _ _ (WD ad cs n (e_isCharging E k).2.2 S o) _ _ (.int (e_isCharging E k).2.1 :: [.int 0, .ref (ad 32)])
  refine j_if_eq hc 14 dL_isCharging_7 (by decide) (fun hz => ?_) (fun hz => ?_)
  · refine j_lconst hc (v := 0) dL_isCharging_14 (by decide) ?_
    refine as_out hc (vp_in_nI (n := 0) (N := 1) (by decide) (by decide)) dL_isCharging_15 ?_
    refine j_goto hc 22 dL_isCharging_16 (by decide) ?_
    refine j_iconst hc (v := 0) dL_isCharging_22 (by decide) ?_
    exact j_iret hc rfl (by decide) (by decide) (by simp only [wresZ, hn, if_pos hz] <;> rfl) dL_isCharging_23
  · refine j_lconst hc (v := 1) dL_isCharging_10 (by decide) ?_
    refine j_goto hc 15 dL_isCharging_11 (by decide) ?_
    refine as_out hc (vp_in_nI (n := 0) (N := 1) (by decide) (by decide)) dL_isCharging_15 ?_
    refine j_goto hc 22 dL_isCharging_16 (by decide) ?_
    refine j_iconst hc (v := 0) dL_isCharging_22 (by decide) ?_
    exact j_iret hc rfl (by decide) (by decide) (by simp only [wresZ, hn, if_neg hz] <;> rfl) dL_isCharging_23
set_option maxRecDepth 100000 in
set_option maxHeartbeats 4000000 in
theorem c_L_stateOf {l : Launch} {D : va_G} {cs : Nat → ClassId} {sa : Nat → Nat} (hl : l.stackTraces = false)  {ad : Nat → Nat} {n : Nat} {E : ES} {S : MS} {o : Nat → Int64} {k : Int32} (hn30 : n ≤ 30) (ht : thrs [xIO] (e_bf n E 4 k).1) : CH l D cs sa yL_stateOf cL_stateOf 4 (Option.some Jvm.ClassFile.FieldType.int) [((0 : Nat), (9 : Nat), (12 : Nat), (13 : Nat))] (RM 8 8 64) 8 64 [.ref (ad 0), .int k, .ref (ad 32)] (WD ad cs n E S o) (none, some (.int (wres (e_bf n E 4 k) [xIO] E o).1), WD ad cs n (wres (e_bf n E 4 k) [xIO] E o).2.1 S (wres (e_bf n E 4 k) [xIO] E o).2.2) := by
  refine CH.of RL hl (by decide +kernel) rfl (Nat.le_of_ble_eq_true rfl) ?_
  intro p e s m args below meth c A hc ho
  refine j_aload_n hc dL_stateOf_0 rfl ?_
  refine j_iconst hc (v := 0) dL_stateOf_1 (by decide) ?_
  refine j_aload_n hc dL_stateOf_2 rfl ?_
  refine j_iload_n hc dL_stateOf_3 rfl ?_
  refine j_callV' hc (c_X4_stateOf hl hn30) vc_L_52 rfl ⟨rfl, rfl, by decide, by decide⟩ 0 rfl rfl rfl (Nat.le_of_ble_eq_true rfl) ⟨by decide, by decide⟩ dL_stateOf_4 ?_ (fun hn => ?_)
  · intro E9 h9
    rcases ht with ht | ⟨x9, hx9, ht⟩
    · exact absurd (ht.symm.trans h9) (by simp)
    · have e9 : x9 = E9 := Option.some.inj (ht.symm.trans h9)
      subst e9
      simp only [List.mem_cons, List.mem_nil_iff, or_false] at hx9
      subst hx9
      refine j_catch hc [] (⟨0, 9, 12, 13⟩ : ExceptionTableEntry) [] (ho.trans rfl) (fun z hz => by cases hz) (by decide) (by decide) wt_146 (by decide) rfl (fun q9 => ?_)
      refine j_astore_n hc dL_stateOf_12 rfl ?_
      refine j_iconst hc (v := 1) dL_stateOf_13 (by decide) ?_
      exact j_iret hc rfl (by decide) (by decide) (by simp only [wres, show (e_bf n E 4 k).1 = _ from ht, show wc [xIO] xIO = 1 from by decide]) dL_stateOf_14
  have hn : (e_bf n E 4 k).1 = none := hn
  show J p l e _ s m args below meth c D A _ _ _ _ (WD ad cs n (e_bf n E 4 k).2.2 S o) _ _ (.int (e_bf n E 4 k).2.1 :: [.int 0, .ref (ad 32)])
  refine j_i2l hc dL_stateOf_7 ?_
  refine as_out hc (vp_in_nI (n := 0) (N := 1) (by decide) (by decide)) dL_stateOf_8 ?_
  refine j_goto hc 15 dL_stateOf_9 (by decide) ?_
  refine j_iconst hc (v := 0) dL_stateOf_15 (by decide) ?_
  exact j_iret hc rfl (by decide) (by decide) (by simp only [wres, hn] <;> rfl) dL_stateOf_16
set_option maxRecDepth 100000 in
set_option maxHeartbeats 4000000 in
theorem c_L_left {l : Launch} {D : va_G} {cs : Nat → ClassId} {sa : Nat → Nat} (hl : l.stackTraces = false)  {ad : Nat → Nat} {n : Nat} {E : ES} {S : MS} {o : Nat → Int64} {k : Int32} (hn30 : n ≤ 30) (ht : thrs [xIO] (e_bf n E 3 k).1) : CH l D cs sa yL_left cL_left 4 (Option.some Jvm.ClassFile.FieldType.int) [((0 : Nat), (9 : Nat), (12 : Nat), (13 : Nat))] (RM 8 8 64) 8 64 [.ref (ad 0), .int k, .ref (ad 32)] (WD ad cs n E S o) (none, some (.int (wres (e_bf n E 3 k) [xIO] E o).1), WD ad cs n (wres (e_bf n E 3 k) [xIO] E o).2.1 S (wres (e_bf n E 3 k) [xIO] E o).2.2) := by
  refine CH.of RL hl (by decide +kernel) rfl (Nat.le_of_ble_eq_true rfl) ?_
  intro p e s m args below meth c A hc ho
  refine j_aload_n hc dL_left_0 rfl ?_
  refine j_iconst hc (v := 0) dL_left_1 (by decide) ?_
  refine j_aload_n hc dL_left_2 rfl ?_
  refine j_iload_n hc dL_left_3 rfl ?_
  refine j_callV' hc (c_X4_left hl hn30) vc_L_55 rfl ⟨rfl, rfl, by decide, by decide⟩ 0 rfl rfl rfl (Nat.le_of_ble_eq_true rfl) ⟨by decide, by decide⟩ dL_left_4 ?_ (fun hn => ?_)
  · intro E9 h9
    rcases ht with ht | ⟨x9, hx9, ht⟩
    · exact absurd (ht.symm.trans h9) (by simp)
    · have e9 : x9 = E9 := Option.some.inj (ht.symm.trans h9)
      subst e9
      simp only [List.mem_cons, List.mem_nil_iff, or_false] at hx9
      subst hx9
      refine j_catch hc [] (⟨0, 9, 12, 13⟩ : ExceptionTableEntry) [] (ho.trans rfl) (fun z hz => by cases hz) (by decide) (by decide) wt_146 (by decide) rfl (fun q9 => ?_)
      refine j_astore_n hc dL_left_12 rfl ?_
      refine j_iconst hc (v := 1) dL_left_13 (by decide) ?_
      exact j_iret hc rfl (by decide) (by decide) (by simp only [wres, show (e_bf n E 3 k).1 = _ from ht, show wc [xIO] xIO = 1 from by decide]) dL_left_14
  have hn : (e_bf n E 3 k).1 = none := hn
  show J p l e _ s m args below meth c D A _ _ _ _ (WD ad cs n (e_bf n E 3 k).2.2 S o) _ _ (.int (e_bf n E 3 k).2.1 :: [.int 0, .ref (ad 32)])
  refine j_i2l hc dL_left_7 ?_
  refine as_out hc (vp_in_nI (n := 0) (N := 1) (by decide) (by decide)) dL_left_8 ?_
  refine j_goto hc 15 dL_left_9 (by decide) ?_
  refine j_iconst hc (v := 0) dL_left_15 (by decide) ?_
  exact j_iret hc rfl (by decide) (by decide) (by simp only [wres, hn] <;> rfl) dL_left_16
set_option maxRecDepth 100000 in
set_option maxHeartbeats 4000000 in
theorem c_L_tries {l : Launch} {D : va_G} {cs : Nat → ClassId} {sa : Nat → Nat} (hl : l.stackTraces = false)  {ad : Nat → Nat} {n : Nat} {E : ES} {S : MS} {o : Nat → Int64} {k : Int32} (hn30 : n ≤ 30) (ht : thrs [xIO] (e_bf n E 6 k).1) : CH l D cs sa yL_tries cL_tries 4 (Option.some Jvm.ClassFile.FieldType.int) [((0 : Nat), (9 : Nat), (12 : Nat), (13 : Nat))] (RM 8 8 64) 8 64 [.ref (ad 0), .int k, .ref (ad 32)] (WD ad cs n E S o) (none, some (.int (wres (e_bf n E 6 k) [xIO] E o).1), WD ad cs n (wres (e_bf n E 6 k) [xIO] E o).2.1 S (wres (e_bf n E 6 k) [xIO] E o).2.2) := by
  refine CH.of RL hl (by decide +kernel) rfl (Nat.le_of_ble_eq_true rfl) ?_
  intro p e s m args below meth c A hc ho
  refine j_aload_n hc dL_tries_0 rfl ?_
  refine j_iconst hc (v := 0) dL_tries_1 (by decide) ?_
  refine j_aload_n hc dL_tries_2 rfl ?_
  refine j_iload_n hc dL_tries_3 rfl ?_
  refine j_callV' hc (c_X4_tries hl hn30) vc_L_58 rfl ⟨rfl, rfl, by decide, by decide⟩ 0 rfl rfl rfl (Nat.le_of_ble_eq_true rfl) ⟨by decide, by decide⟩ dL_tries_4 ?_ (fun hn => ?_)
  · intro E9 h9
    rcases ht with ht | ⟨x9, hx9, ht⟩
    · exact absurd (ht.symm.trans h9) (by simp)
    · have e9 : x9 = E9 := Option.some.inj (ht.symm.trans h9)
      subst e9
      simp only [List.mem_cons, List.mem_nil_iff, or_false] at hx9
      subst hx9
      refine j_catch hc [] (⟨0, 9, 12, 13⟩ : ExceptionTableEntry) [] (ho.trans rfl) (fun z hz => by cases hz) (by decide) (by decide) wt_146 (by decide) rfl (fun q9 => ?_)
      refine j_astore_n hc dL_tries_12 rfl ?_
      refine j_iconst hc (v := 1) dL_tries_13 (by decide) ?_
      exact j_iret hc rfl (by decide) (by decide) (by simp only [wres, show (e_bf n E 6 k).1 = _ from ht, show wc [xIO] xIO = 1 from by decide]) dL_tries_14
  have hn : (e_bf n E 6 k).1 = none := hn
  show J p l e _ s m args below meth c D A _ _ _ _ (WD ad cs n (e_bf n E 6 k).2.2 S o) _ _ (.int (e_bf n E 6 k).2.1 :: [.int 0, .ref (ad 32)])
  refine j_i2l hc dL_tries_7 ?_
  refine as_out hc (vp_in_nI (n := 0) (N := 1) (by decide) (by decide)) dL_tries_8 ?_
  refine j_goto hc 15 dL_tries_9 (by decide) ?_
  refine j_iconst hc (v := 0) dL_tries_15 (by decide) ?_
  exact j_iret hc rfl (by decide) (by decide) (by simp only [wres, hn] <;> rfl) dL_tries_16
set_option maxRecDepth 100000 in
set_option maxHeartbeats 4000000 in
theorem c_L_failures {l : Launch} {D : va_G} {cs : Nat → ClassId} {sa : Nat → Nat} (hl : l.stackTraces = false)  {ad : Nat → Nat} {n : Nat} {E : ES} {S : MS} {o : Nat → Int64} {k f : Int32} (hn30 : n ≤ 30) (ht : thrs [xIO] (e_failures n E k f).1) : CH l D cs sa yL_failures cL_failures 5 (Option.some Jvm.ClassFile.FieldType.int) [((0 : Nat), (10 : Nat), (13 : Nat), (13 : Nat))] (RM 8 8 64) 8 64 [.ref (ad 0), .int k, .int f, .ref (ad 32)] (WD ad cs n E S o) (none, some (.int (wres (e_failures n E k f) [xIO] E o).1), WD ad cs n (wres (e_failures n E k f) [xIO] E o).2.1 S (wres (e_failures n E k f) [xIO] E o).2.2) := by
  refine CH.of RL hl (by decide +kernel) rfl (Nat.le_of_ble_eq_true rfl) ?_
  intro p e s m args below meth c A hc ho
  refine j_aload_n hc dL_failures_0 rfl ?_
  refine j_iconst hc (v := 0) dL_failures_1 (by decide) ?_
  refine j_aload_n hc dL_failures_2 rfl ?_
  refine j_iload_n hc dL_failures_3 rfl ?_
  refine j_iload_n hc dL_failures_4 rfl ?_
  refine j_callV' hc (c_X4_failures hl hn30) vc_L_61 rfl ⟨rfl, rfl, by decide, by decide⟩ 0 rfl rfl rfl (Nat.le_of_ble_eq_true rfl) ⟨by decide, by decide⟩ dL_failures_5 ?_ (fun hn => ?_)
  · intro E9 h9
    rcases ht with ht | ⟨x9, hx9, ht⟩
    · exact absurd (ht.symm.trans h9) (by simp)
    · have e9 : x9 = E9 := Option.some.inj (ht.symm.trans h9)
      subst e9
      simp only [List.mem_cons, List.mem_nil_iff, or_false] at hx9
      subst hx9
      refine j_catch hc [] (⟨0, 10, 13, 13⟩ : ExceptionTableEntry) [] (ho.trans rfl) (fun z hz => by cases hz) (by decide) (by decide) wt_146 (by decide) rfl (fun q9 => ?_)
      refine j_astore hc dL_failures_13 rfl ?_
      refine j_iconst hc (v := 1) dL_failures_15 (by decide) ?_
      exact j_iret hc rfl (by decide) (by decide) (by simp only [wres, show (e_failures n E k f).1 = _ from ht, show wc [xIO] xIO = 1 from by decide]) dL_failures_16
  have hn : (e_failures n E k f).1 = none := hn
  show J p l e _ s m args below meth c D A _ _ _ _ (WD ad cs n (e_failures n E k f).2.2 S o) _ _ (.int (e_failures n E k f).2.1 :: [.int 0, .ref (ad 32)])
  refine j_i2l hc dL_failures_8 ?_
  refine as_out hc (vp_in_nI (n := 0) (N := 1) (by decide) (by decide)) dL_failures_9 ?_
  refine j_goto hc 17 dL_failures_10 (by decide) ?_
  refine j_iconst hc (v := 0) dL_failures_17 (by decide) ?_
  exact j_iret hc rfl (by decide) (by decide) (by simp only [wres, hn] <;> rfl) dL_failures_18
set_option maxRecDepth 100000 in
set_option maxHeartbeats 4000000 in
theorem c_L_waitsFor {l : Launch} {D : va_G} {cs : Nat → ClassId} {sa : Nat → Nat} (hl : l.stackTraces = false)  {ad : Nat → Nat} {n : Nat} {E : ES} {S : MS} {o : Nat → Int64} {k : Int32} (hn30 : n ≤ 30) (ht : thrs [xIO] (e_bf n E 5 k).1) : CH l D cs sa yL_waitsFor cL_waitsFor 4 (Option.some Jvm.ClassFile.FieldType.int) [((0 : Nat), (9 : Nat), (12 : Nat), (13 : Nat))] (RM 8 8 64) 8 64 [.ref (ad 0), .int k, .ref (ad 32)] (WD ad cs n E S o) (none, some (.int (wres (e_bf n E 5 k) [xIO] E o).1), WD ad cs n (wres (e_bf n E 5 k) [xIO] E o).2.1 S (wres (e_bf n E 5 k) [xIO] E o).2.2) := by
  refine CH.of RL hl (by decide +kernel) rfl (Nat.le_of_ble_eq_true rfl) ?_
  intro p e s m args below meth c A hc ho
  refine j_aload_n hc dL_waitsFor_0 rfl ?_
  refine j_iconst hc (v := 0) dL_waitsFor_1 (by decide) ?_
  refine j_aload_n hc dL_waitsFor_2 rfl ?_
  refine j_iload_n hc dL_waitsFor_3 rfl ?_
  refine j_callV' hc (c_X4_waitsFor hl hn30) vc_L_64 rfl ⟨rfl, rfl, by decide, by decide⟩ 0 rfl rfl rfl (Nat.le_of_ble_eq_true rfl) ⟨by decide, by decide⟩ dL_waitsFor_4 ?_ (fun hn => ?_)
  · intro E9 h9
    rcases ht with ht | ⟨x9, hx9, ht⟩
    · exact absurd (ht.symm.trans h9) (by simp)
    · have e9 : x9 = E9 := Option.some.inj (ht.symm.trans h9)
      subst e9
      simp only [List.mem_cons, List.mem_nil_iff, or_false] at hx9
      subst hx9
      refine j_catch hc [] (⟨0, 9, 12, 13⟩ : ExceptionTableEntry) [] (ho.trans rfl) (fun z hz => by cases hz) (by decide) (by decide) wt_146 (by decide) rfl (fun q9 => ?_)
      refine j_astore_n hc dL_waitsFor_12 rfl ?_
      refine j_iconst hc (v := 1) dL_waitsFor_13 (by decide) ?_
      exact j_iret hc rfl (by decide) (by decide) (by simp only [wres, show (e_bf n E 5 k).1 = _ from ht, show wc [xIO] xIO = 1 from by decide]) dL_waitsFor_14
  have hn : (e_bf n E 5 k).1 = none := hn
  show J p l e _ s m args below meth c D A _ _ _ _ (WD ad cs n (e_bf n E 5 k).2.2 S o) _ _ (.int (e_bf n E 5 k).2.1 :: [.int 0, .ref (ad 32)])
  refine j_i2l hc dL_waitsFor_7 ?_
  refine as_out hc (vp_in_nI (n := 0) (N := 1) (by decide) (by decide)) dL_waitsFor_8 ?_
  refine j_goto hc 15 dL_waitsFor_9 (by decide) ?_
  refine j_iconst hc (v := 0) dL_waitsFor_15 (by decide) ?_
  exact j_iret hc rfl (by decide) (by decide) (by simp only [wres, hn] <;> rfl) dL_waitsFor_16
set_option maxRecDepth 100000 in
set_option maxHeartbeats 4000000 in
theorem c_L_broken {l : Launch} {D : va_G} {cs : Nat → ClassId} {sa : Nat → Nat} (hl : l.stackTraces = false)  {ad : Nat → Nat} {n : Nat} {E : ES} {S : MS} {o : Nat → Int64} {k : Int32} (hn30 : n ≤ 30) (ht : thrs [xIO] (e_bf n E 8 k).1) : CH l D cs sa yL_broken cL_broken 4 (Option.some Jvm.ClassFile.FieldType.int) [((0 : Nat), (9 : Nat), (12 : Nat), (13 : Nat))] (RM 8 8 64) 8 64 [.ref (ad 0), .int k, .ref (ad 32)] (WD ad cs n E S o) (none, some (.int (wres (e_bf n E 8 k) [xIO] E o).1), WD ad cs n (wres (e_bf n E 8 k) [xIO] E o).2.1 S (wres (e_bf n E 8 k) [xIO] E o).2.2) := by
  refine CH.of RL hl (by decide +kernel) rfl (Nat.le_of_ble_eq_true rfl) ?_
  intro p e s m args below meth c A hc ho
  refine j_aload_n hc dL_broken_0 rfl ?_
  refine j_iconst hc (v := 0) dL_broken_1 (by decide) ?_
  refine j_aload_n hc dL_broken_2 rfl ?_
  refine j_iload_n hc dL_broken_3 rfl ?_
  refine j_callV' hc (c_X4_broken hl hn30) vc_L_67 rfl ⟨rfl, rfl, by decide, by decide⟩ 0 rfl rfl rfl (Nat.le_of_ble_eq_true rfl) ⟨by decide, by decide⟩ dL_broken_4 ?_ (fun hn => ?_)
  · intro E9 h9
    rcases ht with ht | ⟨x9, hx9, ht⟩
    · exact absurd (ht.symm.trans h9) (by simp)
    · have e9 : x9 = E9 := Option.some.inj (ht.symm.trans h9)
      subst e9
      simp only [List.mem_cons, List.mem_nil_iff, or_false] at hx9
      subst hx9
      refine j_catch hc [] (⟨0, 9, 12, 13⟩ : ExceptionTableEntry) [] (ho.trans rfl) (fun z hz => by cases hz) (by decide) (by decide) wt_146 (by decide) rfl (fun q9 => ?_)
      refine j_astore_n hc dL_broken_12 rfl ?_
      refine j_iconst hc (v := 1) dL_broken_13 (by decide) ?_
      exact j_iret hc rfl (by decide) (by decide) (by simp only [wres, show (e_bf n E 8 k).1 = _ from ht, show wc [xIO] xIO = 1 from by decide]) dL_broken_14
  have hn : (e_bf n E 8 k).1 = none := hn
  show J p l e _ s m args below meth c D A _ _ _ _ (WD ad cs n (e_bf n E 8 k).2.2 S o) _ _ (.int (e_bf n E 8 k).2.1 :: [.int 0, .ref (ad 32)])
  refine j_i2l hc dL_broken_7 ?_
  refine as_out hc (vp_in_nI (n := 0) (N := 1) (by decide) (by decide)) dL_broken_8 ?_
  refine j_goto hc 15 dL_broken_9 (by decide) ?_
  refine j_iconst hc (v := 0) dL_broken_15 (by decide) ?_
  exact j_iret hc rfl (by decide) (by decide) (by simp only [wres, hn] <;> rfl) dL_broken_16
set_option maxRecDepth 100000 in
set_option maxHeartbeats 4000000 in
theorem c_L_service {l : Launch} {D : va_G} {cs : Nat → ClassId} {sa : Nat → Nat} (hl : l.stackTraces = false)  {ad : Nat → Nat} {n : Nat} {E : ES} {S : MS} {o : Nat → Int64} {k : Int32} (hn30 : n ≤ 30) (ht : thrs [xIO] (e_service n E k).1) : CH l D cs sa yL_service cL_service 4 (Option.some Jvm.ClassFile.FieldType.int) [((0 : Nat), (9 : Nat), (12 : Nat), (13 : Nat))] (RM 8 8 64) 8 64 [.ref (ad 0), .int k, .ref (ad 32)] (WD ad cs n E S o) (none, some (.int (wres (e_service n E k) [xIO] E o).1), WD ad cs n (wres (e_service n E k) [xIO] E o).2.1 S (wres (e_service n E k) [xIO] E o).2.2) := by
  refine CH.of RL hl (by decide +kernel) rfl (Nat.le_of_ble_eq_true rfl) ?_
  intro p e s m args below meth c A hc ho
  refine j_aload_n hc dL_service_0 rfl ?_
  refine j_iconst hc (v := 0) dL_service_1 (by decide) ?_
  refine j_aload_n hc dL_service_2 rfl ?_
  refine j_iload_n hc dL_service_3 rfl ?_
  refine j_callV' hc (c_X4_service hl hn30) vc_L_70 rfl ⟨rfl, rfl, by decide, by decide⟩ 0 rfl rfl rfl (Nat.le_of_ble_eq_true rfl) ⟨by decide, by decide⟩ dL_service_4 ?_ (fun hn => ?_)
  · intro E9 h9
    rcases ht with ht | ⟨x9, hx9, ht⟩
    · exact absurd (ht.symm.trans h9) (by simp)
    · have e9 : x9 = E9 := Option.some.inj (ht.symm.trans h9)
      subst e9
      simp only [List.mem_cons, List.mem_nil_iff, or_false] at hx9
      subst hx9
      refine j_catch hc [] (⟨0, 9, 12, 13⟩ : ExceptionTableEntry) [] (ho.trans rfl) (fun z hz => by cases hz) (by decide) (by decide) wt_146 (by decide) rfl (fun q9 => ?_)
      refine j_astore_n hc dL_service_12 rfl ?_
      refine j_iconst hc (v := 1) dL_service_13 (by decide) ?_
      exact j_iret hc rfl (by decide) (by decide) (by simp only [wres, show (e_service n E k).1 = _ from ht, show wc [xIO] xIO = 1 from by decide]) dL_service_14
  have hn : (e_service n E k).1 = none := hn
  show J p l e _ s m args below meth c D A _ _ _ _ (WD ad cs n (e_service n E k).2.2 S o) _ _ (.int (e_service n E k).2.1 :: [.int 0, .ref (ad 32)])
  refine j_i2l hc dL_service_7 ?_
  refine as_out hc (vp_in_nI (n := 0) (N := 1) (by decide) (by decide)) dL_service_8 ?_
  refine j_goto hc 15 dL_service_9 (by decide) ?_
  refine j_iconst hc (v := 0) dL_service_15 (by decide) ?_
  exact j_iret hc rfl (by decide) (by decide) (by simp only [wres, hn] <;> rfl) dL_service_16
set_option maxRecDepth 100000 in
set_option maxHeartbeats 4000000 in
theorem c_L_leftIn {l : Launch} {D : va_G} {cs : Nat → ClassId} {sa : Nat → Nat} (hl : l.stackTraces = false)  {ad : Nat → Nat} {n : Nat} {E : ES} {S : MS} {o : Nat → Int64} {k f : Int32} (hn30 : n ≤ 30) (ht : thrs [xIO, xIA] (e_leftIn n E k f).1) : CH l D cs sa yL_leftIn cL_leftIn 5 (Option.some Jvm.ClassFile.FieldType.int) [((0 : Nat), (10 : Nat), (13 : Nat), (13 : Nat)), ((0 : Nat), (10 : Nat), (17 : Nat), (21 : Nat))] (RM 8 8 64) 8 64 [.ref (ad 0), .int k, .int f, .ref (ad 32)] (WD ad cs n E S o) (none, some (.int (wres (e_leftIn n E k f) [xIO, xIA] E o).1), WD ad cs n (wres (e_leftIn n E k f) [xIO, xIA] E o).2.1 S (wres (e_leftIn n E k f) [xIO, xIA] E o).2.2) := by
  refine CH.of RL hl (by decide +kernel) rfl (Nat.le_of_ble_eq_true rfl) ?_
  intro p e s m args below meth c A hc ho
  refine j_aload_n hc dL_leftIn_0 rfl ?_
  refine j_iconst hc (v := 0) dL_leftIn_1 (by decide) ?_
  refine j_aload_n hc dL_leftIn_2 rfl ?_
  refine j_iload_n hc dL_leftIn_3 rfl ?_
  refine j_iload_n hc dL_leftIn_4 rfl ?_
  refine j_callV' hc (c_X4_leftIn hl hn30) vc_L_73 rfl ⟨rfl, rfl, by decide, by decide⟩ 0 rfl rfl rfl (Nat.le_of_ble_eq_true rfl) ⟨by decide, by decide⟩ dL_leftIn_5 ?_ (fun hn => ?_)
  · intro E9 h9
    rcases ht with ht | ⟨x9, hx9, ht⟩
    · exact absurd (ht.symm.trans h9) (by simp)
    · have e9 : x9 = E9 := Option.some.inj (ht.symm.trans h9)
      subst e9
      simp only [List.mem_cons, List.mem_nil_iff, or_false] at hx9
      rcases hx9 with rfl | rfl
      · -- xIO
        refine j_catch hc [] (⟨0, 10, 13, 13⟩ : ExceptionTableEntry) [(⟨0, 10, 17, 21⟩ : ExceptionTableEntry)] (ho.trans rfl) (fun z hz => by cases hz) (by decide) (by decide) wt_146 (by decide) rfl (fun q9 => ?_)
        refine j_astore hc dL_leftIn_13 rfl ?_
        refine j_iconst hc (v := 1) dL_leftIn_15 (by decide) ?_
        exact j_iret hc rfl (by decide) (by decide) (by simp only [wres, show (e_leftIn n E k f).1 = _ from ht, show wc [xIO, xIA] xIO = 1 from by decide]) dL_leftIn_16
      · -- xIA
        refine j_catch hc [(⟨0, 10, 13, 13⟩ : ExceptionTableEntry)] (⟨0, 10, 17, 21⟩ : ExceptionTableEntry) [] (ho.trans rfl) (fun z hz => by
                simp only [List.mem_cons, List.mem_nil_iff, or_false] at hz
                subst hz
                exact ⟨by decide, xIO, wt_146, by decide⟩) (by decide) (by decide) wt_249 (by decide) rfl (fun q9 => ?_)
        refine j_astore hc dL_leftIn_17 rfl ?_
        refine j_iconst hc (v := 2) dL_leftIn_19 (by decide) ?_
        exact j_iret hc rfl (by decide) (by decide) (by simp only [wres, show (e_leftIn n E k f).1 = _ from ht, show wc [xIO, xIA] xIA = 2 from by decide]) dL_leftIn_20
  have hn : (e_leftIn n E k f).1 = none := hn
  show J p l e _ s m args below meth c D A _ _ _ _ (WD ad cs n (e_leftIn n E k f).2.2 S o) _ _ (.int (e_leftIn n E k f).2.1 :: [.int 0, .ref (ad 32)])
  refine j_i2l hc dL_leftIn_8 ?_
  refine as_out hc (vp_in_nI (n := 0) (N := 1) (by decide) (by decide)) dL_leftIn_9 ?_
  refine j_goto hc 21 dL_leftIn_10 (by decide) ?_
  refine j_iconst hc (v := 0) dL_leftIn_21 (by decide) ?_
  exact j_iret hc rfl (by decide) (by decide) (by simp only [wres, hn] <;> rfl) dL_leftIn_22
set_option maxRecDepth 100000 in
set_option maxHeartbeats 4000000 in
theorem c_L_event {l : Launch} {D : va_G} {cs : Nat → ClassId} {sa : Nat → Nat} (hl : l.stackTraces = false)  {ad : Nat → Nat} {n : Nat} {E : ES} {S : MS} {o : Nat → Int64} {k : Int32}  (ht : thrs [xIO] (e_event E k).1) : CH l D cs sa yL_event cL_event 4 (Option.some Jvm.ClassFile.FieldType.int) [((0 : Nat), (9 : Nat), (12 : Nat), (13 : Nat))] (RM 8 8 64) 8 64 [.ref (ad 0), .int k, .ref (ad 32)] (WD ad cs n E S o) (none, some (.int (wres (e_event E k) [xIO] E o).1), WD ad cs n (wres (e_event E k) [xIO] E o).2.1 S (wres (e_event E k) [xIO] E o).2.2) := by
  refine CH.of RL hl (by decide +kernel) rfl (Nat.le_of_ble_eq_true rfl) ?_
  intro p e s m args below meth c A hc ho
  refine j_aload_n hc dL_event_0 rfl ?_
  refine j_iconst hc (v := 0) dL_event_1 (by decide) ?_
  refine j_aload_n hc dL_event_2 rfl ?_
  refine j_iload_n hc dL_event_3 rfl ?_
  refine j_callV' hc (c_X4_event hl) vc_L_76 rfl ⟨rfl, rfl, by decide, by decide⟩ 0 rfl rfl rfl (Nat.le_of_ble_eq_true rfl) ⟨by decide, by decide⟩ dL_event_4 ?_ (fun hn => ?_)
  · intro E9 h9
    rcases ht with ht | ⟨x9, hx9, ht⟩
    · exact absurd (ht.symm.trans h9) (by simp)
    · have e9 : x9 = E9 := Option.some.inj (ht.symm.trans h9)
      subst e9
      simp only [List.mem_cons, List.mem_nil_iff, or_false] at hx9
      subst hx9
      refine j_catch hc [] (⟨0, 9, 12, 13⟩ : ExceptionTableEntry) [] (ho.trans rfl) (fun z hz => by cases hz) (by decide) (by decide) wt_146 (by decide) rfl (fun q9 => ?_)
      refine j_astore_n hc dL_event_12 rfl ?_
      refine j_iconst hc (v := 1) dL_event_13 (by decide) ?_
      exact j_iret hc rfl (by decide) (by decide) (by simp only [wres, show (e_event E k).1 = _ from ht, show wc [xIO] xIO = 1 from by decide]) dL_event_14
  have hn : (e_event E k).1 = none := hn
  show J p l e _ s m args below meth c D A _ _ _ _ (WD ad cs n (e_event E k).2.2 S o) _ _ (.int (e_event E k).2.1 :: [.int 0, .ref (ad 32)])
  refine j_i2l hc dL_event_7 ?_
  refine as_out hc (vp_in_nI (n := 0) (N := 1) (by decide) (by decide)) dL_event_8 ?_
  refine j_goto hc 15 dL_event_9 (by decide) ?_
  refine j_iconst hc (v := 0) dL_event_15 (by decide) ?_
  exact j_iret hc rfl (by decide) (by decide) (by simp only [wres, hn] <;> rfl) dL_event_16
set_option maxRecDepth 100000 in
set_option maxHeartbeats 4000000 in
theorem c_L_stateAt {l : Launch} {D : va_G} {cs : Nat → ClassId} {sa : Nat → Nat} (hl : l.stackTraces = false)  {ad : Nat → Nat} {n : Nat} {E : ES} {S : MS} {o : Nat → Int64} {k f : Int32} (hn30 : n ≤ 30) (hE : 0 ≤ (e_told E).toInt) (ht : thrs [xIO, xIA] (e_stateAt n E k f).1) : CH l D cs sa yL_stateAt cL_stateAt 5 (Option.some Jvm.ClassFile.FieldType.int) [((0 : Nat), (10 : Nat), (13 : Nat), (13 : Nat)), ((0 : Nat), (10 : Nat), (17 : Nat), (21 : Nat))] (RM 8 8 64) 8 64 [.ref (ad 0), .int k, .int f, .ref (ad 32)] (WD ad cs n E S o) (none, some (.int (wres (e_stateAt n E k f) [xIO, xIA] E o).1), WD ad cs n (wres (e_stateAt n E k f) [xIO, xIA] E o).2.1 S (wres (e_stateAt n E k f) [xIO, xIA] E o).2.2) := by
  refine CH.of RL hl (by decide +kernel) rfl (Nat.le_of_ble_eq_true rfl) ?_
  intro p e s m args below meth c A hc ho
  refine j_aload_n hc dL_stateAt_0 rfl ?_
  refine j_iconst hc (v := 0) dL_stateAt_1 (by decide) ?_
  refine j_aload_n hc dL_stateAt_2 rfl ?_
  refine j_iload_n hc dL_stateAt_3 rfl ?_
  refine j_iload_n hc dL_stateAt_4 rfl ?_
  refine j_callV' hc (c_X4_stateAt hl hn30 hE) vc_L_79 rfl ⟨rfl, rfl, by decide, by decide⟩ 0 rfl rfl rfl (Nat.le_of_ble_eq_true rfl) ⟨by decide, by decide⟩ dL_stateAt_5 ?_ (fun hn => ?_)
  · intro E9 h9
    rcases ht with ht | ⟨x9, hx9, ht⟩
    · exact absurd (ht.symm.trans h9) (by simp)
    · have e9 : x9 = E9 := Option.some.inj (ht.symm.trans h9)
      subst e9
      simp only [List.mem_cons, List.mem_nil_iff, or_false] at hx9
      rcases hx9 with rfl | rfl
      · -- xIO
        refine j_catch hc [] (⟨0, 10, 13, 13⟩ : ExceptionTableEntry) [(⟨0, 10, 17, 21⟩ : ExceptionTableEntry)] (ho.trans rfl) (fun z hz => by cases hz) (by decide) (by decide) wt_146 (by decide) rfl (fun q9 => ?_)
        refine j_astore hc dL_stateAt_13 rfl ?_
        refine j_iconst hc (v := 1) dL_stateAt_15 (by decide) ?_
        exact j_iret hc rfl (by decide) (by decide) (by simp only [wres, show (e_stateAt n E k f).1 = _ from ht, show wc [xIO, xIA] xIO = 1 from by decide]) dL_stateAt_16
      · -- xIA
        refine j_catch hc [(⟨0, 10, 13, 13⟩ : ExceptionTableEntry)] (⟨0, 10, 17, 21⟩ : ExceptionTableEntry) [] (ho.trans rfl) (fun z hz => by
                simp only [List.mem_cons, List.mem_nil_iff, or_false] at hz
                subst hz
                exact ⟨by decide, xIO, wt_146, by decide⟩) (by decide) (by decide) wt_249 (by decide) rfl (fun q9 => ?_)
        refine j_astore hc dL_stateAt_17 rfl ?_
        refine j_iconst hc (v := 2) dL_stateAt_19 (by decide) ?_
        exact j_iret hc rfl (by decide) (by decide) (by simp only [wres, show (e_stateAt n E k f).1 = _ from ht, show wc [xIO, xIA] xIA = 2 from by decide]) dL_stateAt_20
  have hn : (e_stateAt n E k f).1 = none := hn
  show J p l e _ s m args below meth c D A _ _ _ _ (WD ad cs n (e_stateAt n E k f).2.2 S o) _ _ (.int (e_stateAt n E k f).2.1 :: [.int 0, .ref (ad 32)])
  refine j_i2l hc dL_stateAt_8 ?_
  refine as_out hc (vp_in_nI (n := 0) (N := 1) (by decide) (by decide)) dL_stateAt_9 ?_
  refine j_goto hc 21 dL_stateAt_10 (by decide) ?_
  refine j_iconst hc (v := 0) dL_stateAt_21 (by decide) ?_
  exact j_iret hc rfl (by decide) (by decide) (by simp only [wres, hn] <;> rfl) dL_stateAt_22
set_option maxRecDepth 100000 in
set_option maxHeartbeats 4000000 in
theorem c_L_bill {l : Launch} {D : va_G} {cs : Nat → ClassId} {sa : Nat → Nat} (hl : l.stackTraces = false)  {ad : Nat → Nat} {n : Nat} {E : ES} {S : MS} {o : Nat → Int64} {k f : Int32} (hE : E.1 4 = nI n) (hn30 : n ≤ 30) (ht : thrs [xIO, xIA, xIS] (e_billT E k f)) : EH l D cs sa yL_bill cL_bill 5 (Option.some Jvm.ClassFile.FieldType.int) [((0 : Nat), (10 : Nat), (13 : Nat), (13 : Nat)), ((0 : Nat), (10 : Nat), (17 : Nat), (21 : Nat)), ((0 : Nat), (10 : Nat), (21 : Nat), (15 : Nat))] (RM 8 8 64) 8 64 [.ref (ad 0), .int k, .int f, .ref (ad 32)] (WD ad cs n E S o) (fun t : Nat × Nat => match e_billT E k f with | none => (some (.int 0), WD (adB ad n t.1 t.2) cs (n + 1) (e_billE E n k f) S (vp_updL o 0 (nI n).toInt64)) | some x => (some (.int (wc [xIO, xIA, xIS] x)), WD ad cs n E S o)) := by
  refine EH.of RL hl (by decide +kernel) rfl (Nat.le_of_ble_eq_true rfl) ?_
  intro p e s m args below meth c A hc ho
  refine j_aload_n hc dL_bill_0 rfl ?_
  refine j_iconst hc (v := 0) dL_bill_1 (by decide) ?_
  refine j_aload_n hc dL_bill_2 rfl ?_
  refine j_iload_n hc dL_bill_3 rfl ?_
  refine j_iload_n hc dL_bill_4 rfl ?_
  refine j_callX' hc (c_X4_bill hl hE hn30) vc_L_34 rfl ⟨rfl, rfl, by decide, by decide⟩ 0 rfl rfl rfl (Nat.le_of_ble_eq_true rfl) ⟨by decide, by decide⟩ dL_bill_5 ?_ (fun hn z => ?_)
  · intro E9 h9
    rcases ht with ht | ⟨x9, hx9, ht⟩
    · exact absurd (ht.symm.trans h9) (by simp)
    · have e9 : x9 = E9 := Option.some.inj (ht.symm.trans h9)
      subst e9
      simp only [List.mem_cons, List.mem_nil_iff, or_false] at hx9
      rcases hx9 with rfl | rfl | rfl
      · -- xIO
        refine j_catch hc [] (⟨0, 10, 13, 13⟩ : ExceptionTableEntry) [(⟨0, 10, 17, 21⟩ : ExceptionTableEntry), (⟨0, 10, 21, 15⟩ : ExceptionTableEntry)] (ho.trans rfl) (fun z hz => by cases hz) (by decide) (by decide) wt_146 (by decide) rfl (fun q9 => ?_)
        refine j_astore hc dL_bill_13 rfl ?_
        refine j_iconst hc (v := 1) dL_bill_15 (by decide) ?_
        exact j_xiret hc ((0, 0) : Nat × Nat) rfl (by decide) (by decide) rfl (by rw [ht]; simp only [show wc [xIO, xIA, xIS] xIO = 1 from by decide]) dL_bill_16
      · -- xIA
        refine j_catch hc [(⟨0, 10, 13, 13⟩ : ExceptionTableEntry)] (⟨0, 10, 17, 21⟩ : ExceptionTableEntry) [(⟨0, 10, 21, 15⟩ : ExceptionTableEntry)] (ho.trans rfl) (fun z hz => by
                simp only [List.mem_cons, List.mem_nil_iff, or_false] at hz
                subst hz
                exact ⟨by decide, xIO, wt_146, by decide⟩) (by decide) (by decide) wt_249 (by decide) rfl (fun q9 => ?_)
        refine j_astore hc dL_bill_17 rfl ?_
        refine j_iconst hc (v := 2) dL_bill_19 (by decide) ?_
        exact j_xiret hc ((0, 0) : Nat × Nat) rfl (by decide) (by decide) rfl (by rw [ht]; simp only [show wc [xIO, xIA, xIS] xIA = 2 from by decide]) dL_bill_20
      · -- xIS
        refine j_catch hc [(⟨0, 10, 13, 13⟩ : ExceptionTableEntry), (⟨0, 10, 17, 21⟩ : ExceptionTableEntry)] (⟨0, 10, 21, 15⟩ : ExceptionTableEntry) [] (ho.trans rfl) (fun z hz => by
                simp only [List.mem_cons, List.mem_nil_iff, or_false] at hz
                rcases hz with rfl | rfl
                · exact ⟨by decide, xIO, wt_146, by decide⟩
                · exact ⟨by decide, xIA, wt_249, by decide⟩) (by decide) (by decide) wt_147 (by decide) rfl (fun q9 => ?_)
        refine j_astore hc dL_bill_21 rfl ?_
        refine j_iconst hc (v := 3) dL_bill_23 (by decide) ?_
        exact j_xiret hc ((0, 0) : Nat × Nat) rfl (by decide) (by decide) rfl (by rw [ht]; simp only [show wc [xIO, xIA, xIS] xIS = 3 from by decide]) dL_bill_24
  have a0 : ad 32 = adB ad n z.1 z.2 32 := (adB_old _ _ _ _ _ (by omega)).symm
  show J p l e _ s m args below meth c D A _ _ _ _ (WD (adB ad n z.1 z.2) cs (n + 1) (e_billE E n k f) S o) _ _ (.int (nI n) :: [.int 0, .ref (ad 32)])
  rw [a0]
  refine j_i2l hc dL_bill_8 ?_
  refine as_out hc (vp_in_nI (n := 0) (N := 1) (by decide) (by decide)) dL_bill_9 ?_
  refine j_goto hc 25 dL_bill_10 (by decide) ?_
  refine j_iconst hc (v := 0) dL_bill_25 (by decide) ?_
  exact j_xiret hc z rfl (by decide) (by decide) rfl (by rw [hn]; rfl) dL_bill_26
