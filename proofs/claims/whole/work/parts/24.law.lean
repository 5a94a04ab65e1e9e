section R24
variable {p : Program} {l : Launch} {e : Env} {R : Room} {s : State} {m : MethodId} {args : Array Value} {below : List Frame} {meth : Method} {c : Code} {D : va_G} {cs : Nat → ClassId} {sa : Nat → Nat} {A : Nat → Prop} {cc : ByteArray} {nL : Nat} {own : String} {ret : Option FieldType} {cells slots : Nat} {Q : State → Prop} {w : va_W} {pc : Nat} {lv : List (Nat × Value)} {st : List Value}
theorem j_sld (hc : CX p l e R s m args below meth c D cs sa A cc nL own ret) {b L : Nat} {xs : Nat → Int32} (hX : va_X b L xs s s.heap ∧ b < s.heap.size ∧ ¬ A b) {v : Int32} {j : Nat} (hv : v = nI j) (hj : j < L ∧ L ≤ 1536) (hdg : decode cc pc = .ok (.iaload, 1)) (kk : J p l e R s m args below meth c D A nL cells slots Q w (pc + 1) lv (.int (xs j) :: st)) : J p l e R s m args below meth c D A nL cells slots Q w pc lv (.int v :: .ref b :: st) := fun H locs ls hP hD hS hl => by
  subst hv
  have t := va_sld (rest := st) hc.1.1 hc.1.2.1 hX.1 hX.2.1 hX.2.2 hS (vp_in_nI hj.1 (by omega)) hdg (p := p) (e := e) (below := below) (m := m) (meth := meth) (args := args) (R := R) (l := l) (locs := locs) (H := H) (cells := cells) (slots := slots) (Q := Q) (ls := ls)
  rw [nI_clamp (show j < 2 ^ 31 by omega)] at t
  exact t (kk H locs ls hP hD hS hl)
theorem j_slen (hc : CX p l e R s m args below meth c D cs sa A cc nL own ret) {b L : Nat} {xs : Nat → Int32} (hX : va_X b L xs s s.heap ∧ b < s.heap.size ∧ ¬ A b) (hdg : decode cc pc = .ok (.arraylength, 1)) (kk : J p l e R s m args below meth c D A nL cells slots Q w (pc + 1) lv (.int (nI L) :: st)) : J p l e R s m args below meth c D A nL cells slots Q w pc lv (.ref b :: st) := fun H locs ls hP hD hS hl => va_slen hc.1.1 hc.1.2.1 hX.1 hX.2.1 hX.2.2 hS hdg (kk H locs ls hP hD hS hl)
theorem j_widen {k n : Nat} (h1 : cells ≤ k) (h2 : slots ≤ n) (kk : J p l e R s m args below meth c D A nL k n Q w pc lv st) : J p l e R s m args below meth c D A nL cells slots Q w pc lv st := fun H locs ls hP hD hS hl => W.widen h1 h2 (kk H locs ls hP hD hS hl)
theorem j_tabOut (hc : CX p l e R s m args below meth c D cs sa A cc nL own ret) {dflt lo hi : Int} {offs : Array Int} {len : Nat} {x : Int32} (tgt : Nat) (hdg : decode cc pc = .ok (.tableswitch dflt lo hi offs, len)) (h : x.toInt < lo ∨ hi < x.toInt) (ht : (pc : Int) + dflt = (tgt : Int)) (kk : J p l e R s m args below meth c D A nL cells slots Q w tgt lv st) : J p l e R s m args below meth c D A nL cells slots Q w pc lv (.int x :: st) := fun H locs ls hP hD hS hl => lv_tableOut hc.1.1 hc.1.2.1 hdg h ht (kk H locs ls hP hD hS hl)
theorem j_tabIn (hc : CX p l e R s m args below meth c D cs sa A cc nL own ret) {dflt lo hi : Int} {offs : Array Int} {len : Nat} {x : Int32} {off : Int} (tgt : Nat) (hdg : decode cc pc = .ok (.tableswitch dflt lo hi offs, len)) (h1 : ¬ x.toInt < lo) (h2 : ¬ hi < x.toInt) (ho : offs[(x.toInt - lo).toNat]? = some off) (ht : (pc : Int) + off = (tgt : Int)) (kk : J p l e R s m args below meth c D A nL cells slots Q w tgt lv st) : J p l e R s m args below meth c D A nL cells slots Q w pc lv (.int x :: st) := fun H locs ls hP hD hS hl => lv_tableIn hc.1.1 hc.1.2.1 hdg h1 h2 ho ht (kk H locs ls hP hD hS hl)
end R24
theorem simR_w {k n : Nat} {L : List String} {E : ES} {sp : ER} {mr : MR} (R : SimR k n L E sp mr) (o : Nat → Int64) : thrs L sp.1 ∧ mr.2.1 25 = (wres sp L E o).1 ∧ ((∀ x ∈ L, ¬ wc L x = 0) → (wres sp L E o).1 = 0 → (wres sp L E o).2.2 0 = mr.1.toInt64) ∧ Inv (k + 1) n (wres sp L E o).2.1 mr.2 := by
  rcases R with ⟨r1, r2, r3, r4⟩ | ⟨x, hx, r1, r2, r3⟩
  · have e : wres sp L E o = (0, sp.2.2, vp_updL o 0 sp.2.1.toInt64) := by unfold wres; rw [r1]
    rw [e]
    exact ⟨Or.inl r1, r2, fun _ _ => by rw [r3]; rfl, r4⟩
  · have e : wres sp L E o = (wc L x, E, o) := by unfold wres; rw [r1]
    rw [e]
    exact ⟨Or.inr ⟨x, hx, r1⟩, r2, fun h z => absurd z (h x hx), r3⟩
theorem simR_z {k n : Nat} {L : List String} {E : ES} {sp : ER} {mr : MR} (R : SimR k n L E sp mr) (o : Nat → Int64) : thrs L sp.1 ∧ mr.2.1 25 = (wresZ sp L E o).1 ∧ ((∀ x ∈ L, ¬ wc L x = 0) → (wresZ sp L E o).1 = 0 → (wresZ sp L E o).2.2 0 = if mr.1 = 0 then 0 else 1) ∧ Inv (k + 1) n (wresZ sp L E o).2.1 mr.2 := by
  rcases R with ⟨r1, r2, r3, r4⟩ | ⟨x, hx, r1, r2, r3⟩
  · have e : wresZ sp L E o = (0, sp.2.2, vp_updL o 0 (if sp.2.1 = 0 then 0 else 1)) := by unfold wresZ; rw [r1]
    rw [e]
    exact ⟨Or.inl r1, r2, fun _ _ => by rw [r3]; rfl, r4⟩
  · have e : wresZ sp L E o = (wc L x, E, o) := by unfold wresZ; rw [r1]
    rw [e]
    exact ⟨Or.inr ⟨x, hx, r1⟩, r2, fun h z => absurd z (h x hx), r3⟩
theorem wcn_1 : ∀ x ∈ [xIO], ¬ wc [xIO] x = 0 := by decide
theorem wcn_2 : ∀ x ∈ [xIA], ¬ wc [xIA] x = 0 := by decide
theorem wcn_3 : ∀ x ∈ [xIO, xIS], ¬ wc [xIO, xIS] x = 0 := by decide
theorem wcn_4 : ∀ x ∈ [xIO, xIA], ¬ wc [xIO, xIA] x = 0 := by decide
theorem wcn_5 : ∀ x ∈ [xIO, xIA, xIS], ¬ wc [xIO, xIA, xIS] x = 0 := by decide
abbrev LV (b : Nat) (ad : Nat → Nat) (k : Nat) : List (Nat × Value) := [(0, .ref b), (1, .ref (ad 0)), (2, .ref (ad 15)), (3, .ref (ad 32)), (4, .int (nI (3 * k)))]
/-- the law's place pc after k calls -/
def LPc (p : Program) (l : Launch) (e : Env) (s : State) (m : MethodId) (below : List Frame) (meth : Method) (c : Code) (D : va_G) (cs : Nat → ClassId) (A : Nat → Prop) (Q : State → Prop) (b k j pc : Nat) (ad : Nat → Nat) (n : Nat) (E : ES) (S : MS) (o : Nat → Int64) : Prop := J p l e room_1 s m #[Value.ref b] below meth c D A 7 (600 + 8 * j) (4000 + 64 * j) Q (WD ad cs n E S o) pc (LV b ad k) []
set_option maxRecDepth 100000 in
set_option maxHeartbeats 4000000 in
theorem op_0 {p : Program} {l : Launch} {e : Env} {s : State} {m : MethodId} {below : List Frame} {meth : Method} {c : Code} {D : va_G} {cs : Nat → ClassId} {sa : Nat → Nat} {A : Nat → Prop} {Q : State → Prop} {b L k n : Nat} {xs : Nat → Int32} {ad : Nat → Nat} {E : ES} {S : MS} {o : Nat → Int64} (hc : CX p l e room_1 s m #[Value.ref b] below meth c D cs sa A code 7 RL ret) (hX : va_X b L xs s s.heap ∧ b < s.heap.size ∧ ¬ A b) (hk : k < 512) (h3 : 3 * k + 3 ≤ L) (hL : L ≤ 1536) (I : Inv k n E S) (next : ∀ ad n E S o, Inv (k + 1) n E S → LPc p l e s m below meth c D cs A Q b k (k + 1) 1581 ad n E S o) : LPc p l e s m below meth c D cs A Q b k k 164 ad n E S o := by
  have hl := hc.2.2.2.2.2.2
  have I0 := I
  obtain ⟨h, Y, T, a1, a2, a3, H, M⟩ := I0
  have hn30 := M.2.1.2
  unfold LPc
  by_cases hz : xs (3 * k + 2) = 0
  · -- off
    obtain ⟨r1, r2, r3, r4⟩ := simR_w (show SimR k n [xIO, xIS] E (e_setWeekday E (xs (3 * k + 1)) (0 : Int32)) (m_setWeekday S (xs (3 * k + 1)) (0 : Int32)) from s_setWeekday I (Or.inl rfl)) o
    replace r3 := r3 wcn_3
    have ct : CH l D cs sa yL_setWeekday cL_setWeekday 5 (Option.some Jvm.ClassFile.FieldType.int) [((0 : Nat), (10 : Nat), (13 : Nat), (13 : Nat)), ((0 : Nat), (10 : Nat), (17 : Nat), (15 : Nat))] (RM 8 8 64) 8 64 [.ref (ad 0), .int (xs (3 * k + 1)), .int (0 : Int32), .ref (ad 32)] (WD ad cs n E S o) (none, some (.int (wres (e_setWeekday E (xs (3 * k + 1)) (0 : Int32)) [xIO, xIS] E o).1), WD ad cs n (wres (e_setWeekday E (xs (3 * k + 1)) (0 : Int32)) [xIO, xIS] E o).2.1 S (wres (e_setWeekday E (xs (3 * k + 1)) (0 : Int32)) [xIO, xIS] E o).2.2) := c_L_setWeekday hl r1
    clear r1
    generalize wres (e_setWeekday E (xs (3 * k + 1)) (0 : Int32)) [xIO, xIS] E o = W at ct r2 r3 r4
    have cm : CM l D cs sa yX5_setWeekday cX5_setWeekday 5 (Option.some Jvm.ClassFile.FieldType.int) (RM 1 0 0) 0 0 [.ref (ad 15), .int (xs (3 * k + 1)), .int (0 : Int32)] (WD ad cs n W.2.1 S W.2.2) (none, some (.int (m_setWeekday S (xs (3 * k + 1)) (0 : Int32)).1), WD ad cs n W.2.1 (m_setWeekday S (xs (3 * k + 1)) (0 : Int32)).2 W.2.2) := c_X5_setWeekday hl 
    generalize m_setWeekday S (xs (3 * k + 1)) (0 : Int32) = mv at cm r2 r3 r4
    refine j_aload_n hc dL_law_164 rfl ?_
    refine j_aload_n hc dL_law_165 rfl ?_
    refine j_iload hc dL_law_166 rfl ?_
    refine j_iconst hc (v := 1) dL_law_168 (by decide) ?_
    refine j_iadd hc dL_law_169 ?_
    refine j_sld hc hX (nI_1 (3 * k)) (j := 3 * k + 1) ⟨by omega, hL⟩ dL_law_170 ?_
    refine j_aload_n hc dL_law_171 rfl ?_
    refine j_iload hc dL_law_172 rfl ?_
    refine j_iconst hc (v := 2) dL_law_174 (by decide) ?_
    refine j_iadd hc dL_law_175 ?_
    refine j_sld hc hX (nI_2 (3 * k)) (j := 3 * k + 2) ⟨by omega, hL⟩ dL_law_176 ?_
    refine j_if_eq hc 184 dL_law_177 (by decide) (fun _ => ?_) (fun h => absurd hz h)
    refine j_iconst hc (v := 0) dL_law_184 (by decide) ?_
    refine j_aload_n hc dL_law_185 rfl ?_
    refine j_callSH hc (r := (some (.int W.1), WD ad cs n W.2.1 S W.2.2)) ct sh_L_86 rfl ⟨rfl, rfl, by decide, by decide⟩ rfl (Nat.le_of_ble_eq_true rfl) ⟨by show _ ≤ 601024; omega, by show _ ≤ 7293034; omega⟩ dL_law_186 ?_
    refine j_istore hc dL_law_189 rfl ?_
    refine j_aload_n hc dL_law_191 rfl ?_
    refine j_aload_n hc dL_law_192 rfl ?_
    refine j_iload hc dL_law_193 rfl ?_
    refine j_iconst hc (v := 1) dL_law_195 (by decide) ?_
    refine j_iadd hc dL_law_196 ?_
    refine j_sld hc hX (nI_1 (3 * k)) (j := 3 * k + 1) ⟨by omega, hL⟩ dL_law_197 ?_
    refine j_aload_n hc dL_law_198 rfl ?_
    refine j_iload hc dL_law_199 rfl ?_
    refine j_iconst hc (v := 2) dL_law_201 (by decide) ?_
    refine j_iadd hc dL_law_202 ?_
    refine j_sld hc hX (nI_2 (3 * k)) (j := 3 * k + 2) ⟨by omega, hL⟩ dL_law_203 ?_
    refine j_if_eq hc 211 dL_law_204 (by decide) (fun _ => ?_) (fun h => absurd hz h)
    refine j_iconst hc (v := 0) dL_law_211 (by decide) ?_
    refine j_callV' hc cm vc_L_91 rfl ⟨rfl, rfl, by decide, by decide⟩ 15 rfl rfl rfl (Nat.le_of_ble_eq_true rfl) ⟨by show _ ≤ 601024; omega, by show _ ≤ 7293034; omega⟩ dL_law_212 (fun _ h => by cases h) (fun _ => ?_)
    refine j_istore hc dL_law_215 rfl ?_
    refine j_aload_n hc dL_law_217 rfl ?_
    refine j_callV' hc (c_X5_thrown hl) vc_L_92 rfl ⟨rfl, rfl, by decide, by decide⟩ 15 rfl rfl rfl (Nat.le_of_ble_eq_true rfl) ⟨by show _ ≤ 601024; omega, by show _ ≤ 7293034; omega⟩ dL_law_218 (fun _ h => by cases h) (fun _ => ?_)
    refine j_iload hc dL_law_221 rfl ?_
    refine j_icmp_eq hc 228 dL_law_223 (by decide) (fun _ => ?_) (fun h => absurd r2 h)
    refine j_iload hc dL_law_228 rfl ?_
    refine j_if_ne hc 245 dL_law_230 (by decide) (fun _ => ?_) (fun h0 => ?_)
    · -- thrown
      refine j_goto hc 1581 dL_law_245 (by decide) ?_
      refine j_widen (k := 600 + 8 * (k + 1)) (n := 4000 + 64 * (k + 1)) (by omega) (by omega) ?_
      refine j_lv [(0, .ref b), (1, .ref (ad 0)), (2, .ref (ad 15)), (3, .ref (ad 32)), (4, .int (nI (3 * k)))] ⟨rfl, rfl, rfl, rfl, rfl, trivial⟩ ?_
      exact next _ _ _ _ _ r4
    refine j_aload_n hc dL_law_233 rfl ?_
    refine j_iconst hc (v := 0) dL_law_234 (by decide) ?_
    refine al_out hc (vp_in_nI (n := 0) (N := 1) (by decide) (by decide)) dL_law_235 ?_
    refine j_iload hc dL_law_236 rfl ?_
    refine j_i2l hc dL_law_238 ?_
    refine j_lcmp hc dL_law_239 ?_
    refine j_if_eq hc 245 dL_law_240 (by decide) (fun _ => ?_) (fun h => absurd (bl_cmp.mpr (r3 h0)) h)
    refine j_goto hc 1581 dL_law_245 (by decide) ?_
    refine j_widen (k := 600 + 8 * (k + 1)) (n := 4000 + 64 * (k + 1)) (by omega) (by omega) ?_
    refine j_lv [(0, .ref b), (1, .ref (ad 0)), (2, .ref (ad 15)), (3, .ref (ad 32)), (4, .int (nI (3 * k)))] ⟨rfl, rfl, rfl, rfl, rfl, trivial⟩ ?_
    exact next _ _ _ _ _ r4
  · -- on
    obtain ⟨r1, r2, r3, r4⟩ := simR_w (show SimR k n [xIO, xIS] E (e_setWeekday E (xs (3 * k + 1)) (1 : Int32)) (m_setWeekday S (xs (3 * k + 1)) (1 : Int32)) from s_setWeekday I (Or.inr rfl)) o
    replace r3 := r3 wcn_3
    have ct : CH l D cs sa yL_setWeekday cL_setWeekday 5 (Option.some Jvm.ClassFile.FieldType.int) [((0 : Nat), (10 : Nat), (13 : Nat), (13 : Nat)), ((0 : Nat), (10 : Nat), (17 : Nat), (15 : Nat))] (RM 8 8 64) 8 64 [.ref (ad 0), .int (xs (3 * k + 1)), .int (1 : Int32), .ref (ad 32)] (WD ad cs n E S o) (none, some (.int (wres (e_setWeekday E (xs (3 * k + 1)) (1 : Int32)) [xIO, xIS] E o).1), WD ad cs n (wres (e_setWeekday E (xs (3 * k + 1)) (1 : Int32)) [xIO, xIS] E o).2.1 S (wres (e_setWeekday E (xs (3 * k + 1)) (1 : Int32)) [xIO, xIS] E o).2.2) := c_L_setWeekday hl r1
    clear r1
    generalize wres (e_setWeekday E (xs (3 * k + 1)) (1 : Int32)) [xIO, xIS] E o = W at ct r2 r3 r4
    have cm : CM l D cs sa yX5_setWeekday cX5_setWeekday 5 (Option.some Jvm.ClassFile.FieldType.int) (RM 1 0 0) 0 0 [.ref (ad 15), .int (xs (3 * k + 1)), .int (1 : Int32)] (WD ad cs n W.2.1 S W.2.2) (none, some (.int (m_setWeekday S (xs (3 * k + 1)) (1 : Int32)).1), WD ad cs n W.2.1 (m_setWeekday S (xs (3 * k + 1)) (1 : Int32)).2 W.2.2) := c_X5_setWeekday hl 
    generalize m_setWeekday S (xs (3 * k + 1)) (1 : Int32) = mv at cm r2 r3 r4
    refine j_aload_n hc dL_law_164 rfl ?_
    refine j_aload_n hc dL_law_165 rfl ?_
    refine j_iload hc dL_law_166 rfl ?_
    refine j_iconst hc (v := 1) dL_law_168 (by decide) ?_
    refine j_iadd hc dL_law_169 ?_
    refine j_sld hc hX (nI_1 (3 * k)) (j := 3 * k + 1) ⟨by omega, hL⟩ dL_law_170 ?_
    refine j_aload_n hc dL_law_171 rfl ?_
    refine j_iload hc dL_law_172 rfl ?_
    refine j_iconst hc (v := 2) dL_law_174 (by decide) ?_
    refine j_iadd hc dL_law_175 ?_
    refine j_sld hc hX (nI_2 (3 * k)) (j := 3 * k + 2) ⟨by omega, hL⟩ dL_law_176 ?_
    refine j_if_eq hc 184 dL_law_177 (by decide) (fun h => absurd h hz) (fun _ => ?_)
    refine j_iconst hc (v := 1) dL_law_180 (by decide) ?_
    refine j_goto hc 185 dL_law_181 (by decide) ?_
    refine j_aload_n hc dL_law_185 rfl ?_
    refine j_callSH hc (r := (some (.int W.1), WD ad cs n W.2.1 S W.2.2)) ct sh_L_86 rfl ⟨rfl, rfl, by decide, by decide⟩ rfl (Nat.le_of_ble_eq_true rfl) ⟨by show _ ≤ 601024; omega, by show _ ≤ 7293034; omega⟩ dL_law_186 ?_
    refine j_istore hc dL_law_189 rfl ?_
    refine j_aload_n hc dL_law_191 rfl ?_
    refine j_aload_n hc dL_law_192 rfl ?_
    refine j_iload hc dL_law_193 rfl ?_
    refine j_iconst hc (v := 1) dL_law_195 (by decide) ?_
    refine j_iadd hc dL_law_196 ?_
    refine j_sld hc hX (nI_1 (3 * k)) (j := 3 * k + 1) ⟨by omega, hL⟩ dL_law_197 ?_
    refine j_aload_n hc dL_law_198 rfl ?_
    refine j_iload hc dL_law_199 rfl ?_
    refine j_iconst hc (v := 2) dL_law_201 (by decide) ?_
    refine j_iadd hc dL_law_202 ?_
    refine j_sld hc hX (nI_2 (3 * k)) (j := 3 * k + 2) ⟨by omega, hL⟩ dL_law_203 ?_
    refine j_if_eq hc 211 dL_law_204 (by decide) (fun h => absurd h hz) (fun _ => ?_)
    refine j_iconst hc (v := 1) dL_law_207 (by decide) ?_
    refine j_goto hc 212 dL_law_208 (by decide) ?_
    refine j_callV' hc cm vc_L_91 rfl ⟨rfl, rfl, by decide, by decide⟩ 15 rfl rfl rfl (Nat.le_of_ble_eq_true rfl) ⟨by show _ ≤ 601024; omega, by show _ ≤ 7293034; omega⟩ dL_law_212 (fun _ h => by cases h) (fun _ => ?_)
    refine j_istore hc dL_law_215 rfl ?_
    refine j_aload_n hc dL_law_217 rfl ?_
    refine j_callV' hc (c_X5_thrown hl) vc_L_92 rfl ⟨rfl, rfl, by decide, by decide⟩ 15 rfl rfl rfl (Nat.le_of_ble_eq_true rfl) ⟨by show _ ≤ 601024; omega, by show _ ≤ 7293034; omega⟩ dL_law_218 (fun _ h => by cases h) (fun _ => ?_)
    refine j_iload hc dL_law_221 rfl ?_
    refine j_icmp_eq hc 228 dL_law_223 (by decide) (fun _ => ?_) (fun h => absurd r2 h)
    refine j_iload hc dL_law_228 rfl ?_
    refine j_if_ne hc 245 dL_law_230 (by decide) (fun _ => ?_) (fun h0 => ?_)
    · -- thrown
      refine j_goto hc 1581 dL_law_245 (by decide) ?_
      refine j_widen (k := 600 + 8 * (k + 1)) (n := 4000 + 64 * (k + 1)) (by omega) (by omega) ?_
      refine j_lv [(0, .ref b), (1, .ref (ad 0)), (2, .ref (ad 15)), (3, .ref (ad 32)), (4, .int (nI (3 * k)))] ⟨rfl, rfl, rfl, rfl, rfl, trivial⟩ ?_
      exact next _ _ _ _ _ r4
    refine j_aload_n hc dL_law_233 rfl ?_
    refine j_iconst hc (v := 0) dL_law_234 (by decide) ?_
    refine al_out hc (vp_in_nI (n := 0) (N := 1) (by decide) (by decide)) dL_law_235 ?_
    refine j_iload hc dL_law_236 rfl ?_
    refine j_i2l hc dL_law_238 ?_
    refine j_lcmp hc dL_law_239 ?_
    refine j_if_eq hc 245 dL_law_240 (by decide) (fun _ => ?_) (fun h => absurd (bl_cmp.mpr (r3 h0)) h)
    refine j_goto hc 1581 dL_law_245 (by decide) ?_
    refine j_widen (k := 600 + 8 * (k + 1)) (n := 4000 + 64 * (k + 1)) (by omega) (by omega) ?_
    refine j_lv [(0, .ref b), (1, .ref (ad 0)), (2, .ref (ad 15)), (3, .ref (ad 32)), (4, .int (nI (3 * k)))] ⟨rfl, rfl, rfl, rfl, rfl, trivial⟩ ?_
    exact next _ _ _ _ _ r4
set_option maxRecDepth 100000 in
set_option maxHeartbeats 4000000 in
theorem op_1 {p : Program} {l : Launch} {e : Env} {s : State} {m : MethodId} {below : List Frame} {meth : Method} {c : Code} {D : va_G} {cs : Nat → ClassId} {sa : Nat → Nat} {A : Nat → Prop} {Q : State → Prop} {b L k n : Nat} {xs : Nat → Int32} {ad : Nat → Nat} {E : ES} {S : MS} {o : Nat → Int64} (hc : CX p l e room_1 s m #[Value.ref b] below meth c D cs sa A code 7 RL ret) (hX : va_X b L xs s s.heap ∧ b < s.heap.size ∧ ¬ A b) (hk : k < 512) (h3 : 3 * k + 3 ≤ L) (hL : L ≤ 1536) (I : Inv k n E S) (next : ∀ ad n E S o, Inv (k + 1) n E S → LPc p l e s m below meth c D cs A Q b k (k + 1) 1581 ad n E S o) : LPc p l e s m below meth c D cs A Q b k k 248 ad n E S o := by
  have hl := hc.2.2.2.2.2.2
  have I0 := I
  obtain ⟨h, Y, T, a1, a2, a3, H, M⟩ := I0
  have hn30 := M.2.1.2
  unfold LPc
  obtain ⟨r1, r2, r3, r4⟩ := simR_z (show SimR k n [xIA] E (e_addHoliday E (xs (3 * k + 1))) (m_addHoliday S (xs (3 * k + 1))) from s_addHoliday I hk) o
  replace r3 := r3 wcn_2
  have ct : CH l D cs sa yL_addHoliday cL_addHoliday 4 (Option.some Jvm.ClassFile.FieldType.int) [((0 : Nat), (16 : Nat), (19 : Nat), (21 : Nat))] (RM 8 8 64) 8 64 [.ref (ad 0), .int (xs (3 * k + 1)), .ref (ad 32)] (WD ad cs n E S o) (none, some (.int (wresZ (e_addHoliday E (xs (3 * k + 1))) [xIA] E o).1), WD ad cs n (wresZ (e_addHoliday E (xs (3 * k + 1))) [xIA] E o).2.1 S (wresZ (e_addHoliday E (xs (3 * k + 1))) [xIA] E o).2.2) := c_L_addHoliday hl r1
  clear r1
  generalize wresZ (e_addHoliday E (xs (3 * k + 1))) [xIA] E o = W at ct r2 r3 r4
  have cm : CM l D cs sa yX5_addHoliday cX5_addHoliday 2 (Option.some Jvm.ClassFile.FieldType.boolean) (RM 1 0 0) 0 0 [.ref (ad 15), .int (xs (3 * k + 1))] (WD ad cs n W.2.1 S W.2.2) (none, some (.int (m_addHoliday S (xs (3 * k + 1))).1), WD ad cs n W.2.1 (m_addHoliday S (xs (3 * k + 1))).2 W.2.2) := c_X5_addHoliday hl M (by omega)
  generalize m_addHoliday S (xs (3 * k + 1)) = mv at cm r2 r3 r4
  refine j_aload_n hc dL_law_248 rfl ?_
  refine j_aload_n hc dL_law_249 rfl ?_
  refine j_iload hc dL_law_250 rfl ?_
  refine j_iconst hc (v := 1) dL_law_252 (by decide) ?_
  refine j_iadd hc dL_law_253 ?_
  refine j_sld hc hX (nI_1 (3 * k)) (j := 3 * k + 1) ⟨by omega, hL⟩ dL_law_254 ?_
  refine j_aload_n hc dL_law_255 rfl ?_
  refine j_callSH hc (r := (some (.int W.1), WD ad cs n W.2.1 S W.2.2)) ct sh_L_96 rfl ⟨rfl, rfl, by decide, by decide⟩ rfl (Nat.le_of_ble_eq_true rfl) ⟨by show _ ≤ 601024; omega, by show _ ≤ 7293034; omega⟩ dL_law_256 ?_
  refine j_istore hc dL_law_259 rfl ?_
  refine j_aload_n hc dL_law_261 rfl ?_
  refine j_aload_n hc dL_law_262 rfl ?_
  refine j_iload hc dL_law_263 rfl ?_
  refine j_iconst hc (v := 1) dL_law_265 (by decide) ?_
  refine j_iadd hc dL_law_266 ?_
  refine j_sld hc hX (nI_1 (3 * k)) (j := 3 * k + 1) ⟨by omega, hL⟩ dL_law_267 ?_
  refine j_callV' hc cm vc_L_99 rfl ⟨rfl, rfl, by decide, by decide⟩ 15 rfl rfl rfl (Nat.le_of_ble_eq_true rfl) ⟨by show _ ≤ 601024; omega, by show _ ≤ 7293034; omega⟩ dL_law_268 (fun _ h => by cases h) (fun _ => ?_)
  refine j_istore hc dL_law_271 rfl ?_
  refine j_aload_n hc dL_law_273 rfl ?_
  refine j_callV' hc (c_X5_thrown hl) vc_L_92 rfl ⟨rfl, rfl, by decide, by decide⟩ 15 rfl rfl rfl (Nat.le_of_ble_eq_true rfl) ⟨by show _ ≤ 601024; omega, by show _ ≤ 7293034; omega⟩ dL_law_274 (fun _ h => by cases h) (fun _ => ?_)
  refine j_iload hc dL_law_277 rfl ?_
  refine j_icmp_eq hc 284 dL_law_279 (by decide) (fun _ => ?_) (fun h => absurd r2 h)
  refine j_iload hc dL_law_284 rfl ?_
  refine j_if_ne hc 308 dL_law_286 (by decide) (fun _ => ?_) (fun h0 => ?_)
  · -- thrown
    refine j_goto hc 1581 dL_law_308 (by decide) ?_
    refine j_widen (k := 600 + 8 * (k + 1)) (n := 4000 + 64 * (k + 1)) (by omega) (by omega) ?_
    refine j_lv [(0, .ref b), (1, .ref (ad 0)), (2, .ref (ad 15)), (3, .ref (ad 32)), (4, .int (nI (3 * k)))] ⟨rfl, rfl, rfl, rfl, rfl, trivial⟩ ?_
    exact next _ _ _ _ _ r4
  refine j_aload_n hc dL_law_289 rfl ?_
  refine j_iconst hc (v := 0) dL_law_290 (by decide) ?_
  refine al_out hc (vp_in_nI (n := 0) (N := 1) (by decide) (by decide)) dL_law_291 ?_
  refine j_iload hc dL_law_292 rfl ?_
  refine j_if_eq hc 301 dL_law_294 (by decide) (fun hq => ?_) (fun hq => ?_)
  · -- no
    refine j_lconst hc (v := 0) dL_law_301 (by decide) ?_
    refine j_lcmp hc dL_law_302 ?_
    refine j_if_eq hc 308 dL_law_303 (by decide) (fun _ => ?_) (fun h => absurd (bl_cmp.mpr ((r3 h0).trans (if_pos hq))) h)
    refine j_goto hc 1581 dL_law_308 (by decide) ?_
    refine j_widen (k := 600 + 8 * (k + 1)) (n := 4000 + 64 * (k + 1)) (by omega) (by omega) ?_
    refine j_lv [(0, .ref b), (1, .ref (ad 0)), (2, .ref (ad 15)), (3, .ref (ad 32)), (4, .int (nI (3 * k)))] ⟨rfl, rfl, rfl, rfl, rfl, trivial⟩ ?_
    exact next _ _ _ _ _ r4
  · -- yes
    refine j_lconst hc (v := 1) dL_law_297 (by decide) ?_
    refine j_goto hc 302 dL_law_298 (by decide) ?_
    refine j_lcmp hc dL_law_302 ?_
    refine j_if_eq hc 308 dL_law_303 (by decide) (fun _ => ?_) (fun h => absurd (bl_cmp.mpr ((r3 h0).trans (if_neg hq))) h)
    refine j_goto hc 1581 dL_law_308 (by decide) ?_
    refine j_widen (k := 600 + 8 * (k + 1)) (n := 4000 + 64 * (k + 1)) (by omega) (by omega) ?_
    refine j_lv [(0, .ref b), (1, .ref (ad 0)), (2, .ref (ad 15)), (3, .ref (ad 32)), (4, .int (nI (3 * k)))] ⟨rfl, rfl, rfl, rfl, rfl, trivial⟩ ?_
    exact next _ _ _ _ _ r4
set_option maxRecDepth 100000 in
set_option maxHeartbeats 4000000 in
theorem op_2 {p : Program} {l : Launch} {e : Env} {s : State} {m : MethodId} {below : List Frame} {meth : Method} {c : Code} {D : va_G} {cs : Nat → ClassId} {sa : Nat → Nat} {A : Nat → Prop} {Q : State → Prop} {b L k n : Nat} {xs : Nat → Int32} {ad : Nat → Nat} {E : ES} {S : MS} {o : Nat → Int64} (hc : CX p l e room_1 s m #[Value.ref b] below meth c D cs sa A code 7 RL ret) (hX : va_X b L xs s s.heap ∧ b < s.heap.size ∧ ¬ A b) (hk : k < 512) (h3 : 3 * k + 3 ≤ L) (hL : L ≤ 1536) (I : Inv k n E S) (next : ∀ ad n E S o, Inv (k + 1) n E S → LPc p l e s m below meth c D cs A Q b k (k + 1) 1581 ad n E S o) : LPc p l e s m below meth c D cs A Q b k k 311 ad n E S o := by
  have hl := hc.2.2.2.2.2.2
  have I0 := I
  obtain ⟨h, Y, T, a1, a2, a3, H, M⟩ := I0
  have hn30 := M.2.1.2
  unfold LPc
  obtain ⟨r1, r2, r3, r4⟩ := simR_w (show SimR k n [xIO, xIA, xIS] E (e_addGap E (xs (3 * k + 1)) (xs (3 * k + 2))) (m_addGap S (xs (3 * k + 1)) (xs (3 * k + 2))) from s_addGap I) o
  replace r3 := r3 wcn_5
  have ct : CH l D cs sa yL_addGap cL_addGap 5 (Option.some Jvm.ClassFile.FieldType.int) [((0 : Nat), (10 : Nat), (13 : Nat), (13 : Nat)), ((0 : Nat), (10 : Nat), (17 : Nat), (21 : Nat)), ((0 : Nat), (10 : Nat), (21 : Nat), (15 : Nat))] (RM 8 8 64) 8 64 [.ref (ad 0), .int (xs (3 * k + 1)), .int (xs (3 * k + 2)), .ref (ad 32)] (WD ad cs n E S o) (none, some (.int (wres (e_addGap E (xs (3 * k + 1)) (xs (3 * k + 2))) [xIO, xIA, xIS] E o).1), WD ad cs n (wres (e_addGap E (xs (3 * k + 1)) (xs (3 * k + 2))) [xIO, xIA, xIS] E o).2.1 S (wres (e_addGap E (xs (3 * k + 1)) (xs (3 * k + 2))) [xIO, xIA, xIS] E o).2.2) := c_L_addGap hl r1
  clear r1
  generalize wres (e_addGap E (xs (3 * k + 1)) (xs (3 * k + 2))) [xIO, xIA, xIS] E o = W at ct r2 r3 r4
  have cm : CM l D cs sa yX5_addGap cX5_addGap 3 (Option.some Jvm.ClassFile.FieldType.int) (RM 1 0 0) 0 0 [.ref (ad 15), .int (xs (3 * k + 1)), .int (xs (3 * k + 2))] (WD ad cs n W.2.1 S W.2.2) (none, some (.int (m_addGap S (xs (3 * k + 1)) (xs (3 * k + 2))).1), WD ad cs n W.2.1 (m_addGap S (xs (3 * k + 1)) (xs (3 * k + 2))).2 W.2.2) := c_X5_addGap hl M
  generalize m_addGap S (xs (3 * k + 1)) (xs (3 * k + 2)) = mv at cm r2 r3 r4
  refine j_aload_n hc dL_law_311 rfl ?_
  refine j_aload_n hc dL_law_312 rfl ?_
  refine j_iload hc dL_law_313 rfl ?_
  refine j_iconst hc (v := 1) dL_law_315 (by decide) ?_
  refine j_iadd hc dL_law_316 ?_
  refine j_sld hc hX (nI_1 (3 * k)) (j := 3 * k + 1) ⟨by omega, hL⟩ dL_law_317 ?_
  refine j_aload_n hc dL_law_318 rfl ?_
  refine j_iload hc dL_law_319 rfl ?_
  refine j_iconst hc (v := 2) dL_law_321 (by decide) ?_
  refine j_iadd hc dL_law_322 ?_
  refine j_sld hc hX (nI_2 (3 * k)) (j := 3 * k + 2) ⟨by omega, hL⟩ dL_law_323 ?_
  refine j_aload_n hc dL_law_324 rfl ?_
  refine j_callSH hc (r := (some (.int W.1), WD ad cs n W.2.1 S W.2.2)) ct sh_L_100 rfl ⟨rfl, rfl, by decide, by decide⟩ rfl (Nat.le_of_ble_eq_true rfl) ⟨by show _ ≤ 601024; omega, by show _ ≤ 7293034; omega⟩ dL_law_325 ?_
  refine j_istore hc dL_law_328 rfl ?_
  refine j_aload_n hc dL_law_330 rfl ?_
  refine j_aload_n hc dL_law_331 rfl ?_
  refine j_iload hc dL_law_332 rfl ?_
  refine j_iconst hc (v := 1) dL_law_334 (by decide) ?_
  refine j_iadd hc dL_law_335 ?_
  refine j_sld hc hX (nI_1 (3 * k)) (j := 3 * k + 1) ⟨by omega, hL⟩ dL_law_336 ?_
  refine j_aload_n hc dL_law_337 rfl ?_
  refine j_iload hc dL_law_338 rfl ?_
  refine j_iconst hc (v := 2) dL_law_340 (by decide) ?_
  refine j_iadd hc dL_law_341 ?_
  refine j_sld hc hX (nI_2 (3 * k)) (j := 3 * k + 2) ⟨by omega, hL⟩ dL_law_342 ?_
  refine j_callV' hc cm vc_L_103 rfl ⟨rfl, rfl, by decide, by decide⟩ 15 rfl rfl rfl (Nat.le_of_ble_eq_true rfl) ⟨by show _ ≤ 601024; omega, by show _ ≤ 7293034; omega⟩ dL_law_343 (fun _ h => by cases h) (fun _ => ?_)
  refine j_istore hc dL_law_346 rfl ?_
  refine j_aload_n hc dL_law_348 rfl ?_
  refine j_callV' hc (c_X5_thrown hl) vc_L_92 rfl ⟨rfl, rfl, by decide, by decide⟩ 15 rfl rfl rfl (Nat.le_of_ble_eq_true rfl) ⟨by show _ ≤ 601024; omega, by show _ ≤ 7293034; omega⟩ dL_law_349 (fun _ h => by cases h) (fun _ => ?_)
  refine j_iload hc dL_law_352 rfl ?_
  refine j_icmp_eq hc 359 dL_law_354 (by decide) (fun _ => ?_) (fun h => absurd r2 h)
  refine j_iload hc dL_law_359 rfl ?_
  refine j_if_ne hc 376 dL_law_361 (by decide) (fun _ => ?_) (fun h0 => ?_)
  · -- thrown
    refine j_goto hc 1581 dL_law_376 (by decide) ?_
    refine j_widen (k := 600 + 8 * (k + 1)) (n := 4000 + 64 * (k + 1)) (by omega) (by omega) ?_
    refine j_lv [(0, .ref b), (1, .ref (ad 0)), (2, .ref (ad 15)), (3, .ref (ad 32)), (4, .int (nI (3 * k)))] ⟨rfl, rfl, rfl, rfl, rfl, trivial⟩ ?_
    exact next _ _ _ _ _ r4
  refine j_aload_n hc dL_law_364 rfl ?_
  refine j_iconst hc (v := 0) dL_law_365 (by decide) ?_
  refine al_out hc (vp_in_nI (n := 0) (N := 1) (by decide) (by decide)) dL_law_366 ?_
  refine j_iload hc dL_law_367 rfl ?_
  refine j_i2l hc dL_law_369 ?_
  refine j_lcmp hc dL_law_370 ?_
  refine j_if_eq hc 376 dL_law_371 (by decide) (fun _ => ?_) (fun h => absurd (bl_cmp.mpr (r3 h0)) h)
  refine j_goto hc 1581 dL_law_376 (by decide) ?_
  refine j_widen (k := 600 + 8 * (k + 1)) (n := 4000 + 64 * (k + 1)) (by omega) (by omega) ?_
  refine j_lv [(0, .ref b), (1, .ref (ad 0)), (2, .ref (ad 15)), (3, .ref (ad 32)), (4, .int (nI (3 * k)))] ⟨rfl, rfl, rfl, rfl, rfl, trivial⟩ ?_
  exact next _ _ _ _ _ r4
set_option maxRecDepth 100000 in
set_option maxHeartbeats 4000000 in
theorem op_3 {p : Program} {l : Launch} {e : Env} {s : State} {m : MethodId} {below : List Frame} {meth : Method} {c : Code} {D : va_G} {cs : Nat → ClassId} {sa : Nat → Nat} {A : Nat → Prop} {Q : State → Prop} {b L k n : Nat} {xs : Nat → Int32} {ad : Nat → Nat} {E : ES} {S : MS} {o : Nat → Int64} (hc : CX p l e room_1 s m #[Value.ref b] below meth c D cs sa A code 7 RL ret) (hX : va_X b L xs s s.heap ∧ b < s.heap.size ∧ ¬ A b) (hk : k < 512) (h3 : 3 * k + 3 ≤ L) (hL : L ≤ 1536) (I : Inv k n E S) (next : ∀ ad n E S o, Inv (k + 1) n E S → LPc p l e s m below meth c D cs A Q b k (k + 1) 1581 ad n E S o) : LPc p l e s m below meth c D cs A Q b k k 379 ad n E S o := by
  have hl := hc.2.2.2.2.2.2
  have I0 := I
  obtain ⟨h, Y, T, a1, a2, a3, H, M⟩ := I0
  have hn30 := M.2.1.2
  unfold LPc
  obtain ⟨r1, r2, r3, r4⟩ := simR_w (show SimR k n [xIO] E (e_clearGaps E (xs (3 * k + 1))) (m_clearGaps S (xs (3 * k + 1))) from s_clearGaps I) o
  replace r3 := r3 wcn_1
  have ct : CH l D cs sa yL_clearGaps cL_clearGaps 4 (Option.some Jvm.ClassFile.FieldType.int) [((0 : Nat), (9 : Nat), (12 : Nat), (13 : Nat))] (RM 8 8 64) 8 64 [.ref (ad 0), .int (xs (3 * k + 1)), .ref (ad 32)] (WD ad cs n E S o) (none, some (.int (wres (e_clearGaps E (xs (3 * k + 1))) [xIO] E o).1), WD ad cs n (wres (e_clearGaps E (xs (3 * k + 1))) [xIO] E o).2.1 S (wres (e_clearGaps E (xs (3 * k + 1))) [xIO] E o).2.2) := c_L_clearGaps hl r1
  clear r1
  generalize wres (e_clearGaps E (xs (3 * k + 1))) [xIO] E o = W at ct r2 r3 r4
  have cm : CM l D cs sa yX5_clearGaps cX5_clearGaps 3 (Option.some Jvm.ClassFile.FieldType.int) (RM 1 0 0) 0 0 [.ref (ad 15), .int (xs (3 * k + 1))] (WD ad cs n W.2.1 S W.2.2) (none, some (.int (m_clearGaps S (xs (3 * k + 1))).1), WD ad cs n W.2.1 (m_clearGaps S (xs (3 * k + 1))).2 W.2.2) := c_X5_clearGaps hl 
  generalize m_clearGaps S (xs (3 * k + 1)) = mv at cm r2 r3 r4
  refine j_aload_n hc dL_law_379 rfl ?_
  refine j_aload_n hc dL_law_380 rfl ?_
  refine j_iload hc dL_law_381 rfl ?_
  refine j_iconst hc (v := 1) dL_law_383 (by decide) ?_
  refine j_iadd hc dL_law_384 ?_
  refine j_sld hc hX (nI_1 (3 * k)) (j := 3 * k + 1) ⟨by omega, hL⟩ dL_law_385 ?_
  refine j_aload_n hc dL_law_386 rfl ?_
  refine j_callSH hc (r := (some (.int W.1), WD ad cs n W.2.1 S W.2.2)) ct sh_L_104 rfl ⟨rfl, rfl, by decide, by decide⟩ rfl (Nat.le_of_ble_eq_true rfl) ⟨by show _ ≤ 601024; omega, by show _ ≤ 7293034; omega⟩ dL_law_387 ?_
  refine j_istore hc dL_law_390 rfl ?_
  refine j_aload_n hc dL_law_392 rfl ?_
  refine j_aload_n hc dL_law_393 rfl ?_
  refine j_iload hc dL_law_394 rfl ?_
  refine j_iconst hc (v := 1) dL_law_396 (by decide) ?_
  refine j_iadd hc dL_law_397 ?_
  refine j_sld hc hX (nI_1 (3 * k)) (j := 3 * k + 1) ⟨by omega, hL⟩ dL_law_398 ?_
  refine j_callV' hc cm vc_L_106 rfl ⟨rfl, rfl, by decide, by decide⟩ 15 rfl rfl rfl (Nat.le_of_ble_eq_true rfl) ⟨by show _ ≤ 601024; omega, by show _ ≤ 7293034; omega⟩ dL_law_399 (fun _ h => by cases h) (fun _ => ?_)
  refine j_istore hc dL_law_402 rfl ?_
  refine j_aload_n hc dL_law_404 rfl ?_
  refine j_callV' hc (c_X5_thrown hl) vc_L_92 rfl ⟨rfl, rfl, by decide, by decide⟩ 15 rfl rfl rfl (Nat.le_of_ble_eq_true rfl) ⟨by show _ ≤ 601024; omega, by show _ ≤ 7293034; omega⟩ dL_law_405 (fun _ h => by cases h) (fun _ => ?_)
  refine j_iload hc dL_law_408 rfl ?_
  refine j_icmp_eq hc 415 dL_law_410 (by decide) (fun _ => ?_) (fun h => absurd r2 h)
  refine j_iload hc dL_law_415 rfl ?_
  refine j_if_ne hc 432 dL_law_417 (by decide) (fun _ => ?_) (fun h0 => ?_)
  · -- thrown
    refine j_goto hc 1581 dL_law_432 (by decide) ?_
    refine j_widen (k := 600 + 8 * (k + 1)) (n := 4000 + 64 * (k + 1)) (by omega) (by omega) ?_
    refine j_lv [(0, .ref b), (1, .ref (ad 0)), (2, .ref (ad 15)), (3, .ref (ad 32)), (4, .int (nI (3 * k)))] ⟨rfl, rfl, rfl, rfl, rfl, trivial⟩ ?_
    exact next _ _ _ _ _ r4
  refine j_aload_n hc dL_law_420 rfl ?_
  refine j_iconst hc (v := 0) dL_law_421 (by decide) ?_
  refine al_out hc (vp_in_nI (n := 0) (N := 1) (by decide) (by decide)) dL_law_422 ?_
  refine j_iload hc dL_law_423 rfl ?_
  refine j_i2l hc dL_law_425 ?_
  refine j_lcmp hc dL_law_426 ?_
  refine j_if_eq hc 432 dL_law_427 (by decide) (fun _ => ?_) (fun h => absurd (bl_cmp.mpr (r3 h0)) h)
  refine j_goto hc 1581 dL_law_432 (by decide) ?_
  refine j_widen (k := 600 + 8 * (k + 1)) (n := 4000 + 64 * (k + 1)) (by omega) (by omega) ?_
  refine j_lv [(0, .ref b), (1, .ref (ad 0)), (2, .ref (ad 15)), (3, .ref (ad 32)), (4, .int (nI (3 * k)))] ⟨rfl, rfl, rfl, rfl, rfl, trivial⟩ ?_
  exact next _ _ _ _ _ r4
set_option maxRecDepth 100000 in
set_option maxHeartbeats 4000000 in
theorem op_4 {p : Program} {l : Launch} {e : Env} {s : State} {m : MethodId} {below : List Frame} {meth : Method} {c : Code} {D : va_G} {cs : Nat → ClassId} {sa : Nat → Nat} {A : Nat → Prop} {Q : State → Prop} {b L k n : Nat} {xs : Nat → Int32} {ad : Nat → Nat} {E : ES} {S : MS} {o : Nat → Int64} (hc : CX p l e room_1 s m #[Value.ref b] below meth c D cs sa A code 7 RL ret) (hX : va_X b L xs s s.heap ∧ b < s.heap.size ∧ ¬ A b) (hk : k < 512) (h3 : 3 * k + 3 ≤ L) (hL : L ≤ 1536) (I : Inv k n E S) (next : ∀ ad n E S o, Inv (k + 1) n E S → LPc p l e s m below meth c D cs A Q b k (k + 1) 1581 ad n E S o) : LPc p l e s m below meth c D cs A Q b k k 435 ad n E S o := by
  have hl := hc.2.2.2.2.2.2
  have I0 := I
  obtain ⟨h, Y, T, a1, a2, a3, H, M⟩ := I0
  have hn30 := M.2.1.2
  unfold LPc
  obtain ⟨r1, r2, r3, r4⟩ := simR_w (show SimR k n [xIA] E (e_setTimes E (xs (3 * k + 1)) (xs (3 * k + 2))) (m_setTimes S (xs (3 * k + 1)) (xs (3 * k + 2))) from s_setTimes I) o
  replace r3 := r3 wcn_2
  have ct : CH l D cs sa yL_setTimes cL_setTimes 5 (Option.some Jvm.ClassFile.FieldType.int) [((0 : Nat), (10 : Nat), (13 : Nat), (21 : Nat))] (RM 8 8 64) 8 64 [.ref (ad 0), .int (xs (3 * k + 1)), .int (xs (3 * k + 2)), .ref (ad 32)] (WD ad cs n E S o) (none, some (.int (wres (e_setTimes E (xs (3 * k + 1)) (xs (3 * k + 2))) [xIA] E o).1), WD ad cs n (wres (e_setTimes E (xs (3 * k + 1)) (xs (3 * k + 2))) [xIA] E o).2.1 S (wres (e_setTimes E (xs (3 * k + 1)) (xs (3 * k + 2))) [xIA] E o).2.2) := c_L_setTimes hl r1
  clear r1
  generalize wres (e_setTimes E (xs (3 * k + 1)) (xs (3 * k + 2))) [xIA] E o = W at ct r2 r3 r4
  have cm : CM l D cs sa yX5_setTimes cX5_setTimes 4 (Option.some Jvm.ClassFile.FieldType.int) (RM 1 0 0) 0 0 [.ref (ad 15), .int (xs (3 * k + 1)), .int (xs (3 * k + 2))] (WD ad cs n W.2.1 S W.2.2) (none, some (.int (m_setTimes S (xs (3 * k + 1)) (xs (3 * k + 2))).1), WD ad cs n W.2.1 (m_setTimes S (xs (3 * k + 1)) (xs (3 * k + 2))).2 W.2.2) := c_X5_setTimes hl 
  generalize m_setTimes S (xs (3 * k + 1)) (xs (3 * k + 2)) = mv at cm r2 r3 r4
  refine j_aload_n hc dL_law_435 rfl ?_
  refine j_aload_n hc dL_law_436 rfl ?_
  refine j_iload hc dL_law_437 rfl ?_
  refine j_iconst hc (v := 1) dL_law_439 (by decide) ?_
  refine j_iadd hc dL_law_440 ?_
  refine j_sld hc hX (nI_1 (3 * k)) (j := 3 * k + 1) ⟨by omega, hL⟩ dL_law_441 ?_
  refine j_aload_n hc dL_law_442 rfl ?_
  refine j_iload hc dL_law_443 rfl ?_
  refine j_iconst hc (v := 2) dL_law_445 (by decide) ?_
  refine j_iadd hc dL_law_446 ?_
  refine j_sld hc hX (nI_2 (3 * k)) (j := 3 * k + 2) ⟨by omega, hL⟩ dL_law_447 ?_
  refine j_aload_n hc dL_law_448 rfl ?_
  refine j_callSH hc (r := (some (.int W.1), WD ad cs n W.2.1 S W.2.2)) ct sh_L_107 rfl ⟨rfl, rfl, by decide, by decide⟩ rfl (Nat.le_of_ble_eq_true rfl) ⟨by show _ ≤ 601024; omega, by show _ ≤ 7293034; omega⟩ dL_law_449 ?_
  refine j_istore hc dL_law_452 rfl ?_
  refine j_aload_n hc dL_law_454 rfl ?_
  refine j_aload_n hc dL_law_455 rfl ?_
  refine j_iload hc dL_law_456 rfl ?_
  refine j_iconst hc (v := 1) dL_law_458 (by decide) ?_
  refine j_iadd hc dL_law_459 ?_
  refine j_sld hc hX (nI_1 (3 * k)) (j := 3 * k + 1) ⟨by omega, hL⟩ dL_law_460 ?_
  refine j_aload_n hc dL_law_461 rfl ?_
  refine j_iload hc dL_law_462 rfl ?_
  refine j_iconst hc (v := 2) dL_law_464 (by decide) ?_
  refine j_iadd hc dL_law_465 ?_
  refine j_sld hc hX (nI_2 (3 * k)) (j := 3 * k + 2) ⟨by omega, hL⟩ dL_law_466 ?_
  refine j_callV' hc cm vc_L_109 rfl ⟨rfl, rfl, by decide, by decide⟩ 15 rfl rfl rfl (Nat.le_of_ble_eq_true rfl) ⟨by show _ ≤ 601024; omega, by show _ ≤ 7293034; omega⟩ dL_law_467 (fun _ h => by cases h) (fun _ => ?_)
  refine j_istore hc dL_law_470 rfl ?_
  refine j_aload_n hc dL_law_472 rfl ?_
  refine j_callV' hc (c_X5_thrown hl) vc_L_92 rfl ⟨rfl, rfl, by decide, by decide⟩ 15 rfl rfl rfl (Nat.le_of_ble_eq_true rfl) ⟨by show _ ≤ 601024; omega, by show _ ≤ 7293034; omega⟩ dL_law_473 (fun _ h => by cases h) (fun _ => ?_)
  refine j_iload hc dL_law_476 rfl ?_
  refine j_icmp_eq hc 483 dL_law_478 (by decide) (fun _ => ?_) (fun h => absurd r2 h)
  refine j_iload hc dL_law_483 rfl ?_
  refine j_if_ne hc 500 dL_law_485 (by decide) (fun _ => ?_) (fun h0 => ?_)
  · -- thrown
    refine j_goto hc 1581 dL_law_500 (by decide) ?_
    refine j_widen (k := 600 + 8 * (k + 1)) (n := 4000 + 64 * (k + 1)) (by omega) (by omega) ?_
    refine j_lv [(0, .ref b), (1, .ref (ad 0)), (2, .ref (ad 15)), (3, .ref (ad 32)), (4, .int (nI (3 * k)))] ⟨rfl, rfl, rfl, rfl, rfl, trivial⟩ ?_
    exact next _ _ _ _ _ r4
  refine j_aload_n hc dL_law_488 rfl ?_
  refine j_iconst hc (v := 0) dL_law_489 (by decide) ?_
  refine al_out hc (vp_in_nI (n := 0) (N := 1) (by decide) (by decide)) dL_law_490 ?_
  refine j_iload hc dL_law_491 rfl ?_
  refine j_i2l hc dL_law_493 ?_
  refine j_lcmp hc dL_law_494 ?_
  refine j_if_eq hc 500 dL_law_495 (by decide) (fun _ => ?_) (fun h => absurd (bl_cmp.mpr (r3 h0)) h)
  refine j_goto hc 1581 dL_law_500 (by decide) ?_
  refine j_widen (k := 600 + 8 * (k + 1)) (n := 4000 + 64 * (k + 1)) (by omega) (by omega) ?_
  refine j_lv [(0, .ref b), (1, .ref (ad 0)), (2, .ref (ad 15)), (3, .ref (ad 32)), (4, .int (nI (3 * k)))] ⟨rfl, rfl, rfl, rfl, rfl, trivial⟩ ?_
  exact next _ _ _ _ _ r4
set_option maxRecDepth 100000 in
set_option maxHeartbeats 4000000 in
theorem op_5 {p : Program} {l : Launch} {e : Env} {s : State} {m : MethodId} {below : List Frame} {meth : Method} {c : Code} {D : va_G} {cs : Nat → ClassId} {sa : Nat → Nat} {A : Nat → Prop} {Q : State → Prop} {b L k n : Nat} {xs : Nat → Int32} {ad : Nat → Nat} {E : ES} {S : MS} {o : Nat → Int64} (hc : CX p l e room_1 s m #[Value.ref b] below meth c D cs sa A code 7 RL ret) (hX : va_X b L xs s s.heap ∧ b < s.heap.size ∧ ¬ A b) (hk : k < 512) (h3 : 3 * k + 3 ≤ L) (hL : L ≤ 1536) (I : Inv k n E S) (next : ∀ ad n E S o, Inv (k + 1) n E S → LPc p l e s m below meth c D cs A Q b k (k + 1) 1581 ad n E S o) : LPc p l e s m below meth c D cs A Q b k k 503 ad n E S o := by
  have hl := hc.2.2.2.2.2.2
  have I0 := I
  obtain ⟨h, Y, T, a1, a2, a3, H, M⟩ := I0
  have hn30 := M.2.1.2
  unfold LPc
  have hE : E.1 4 = nI n := H.1.1.trans M.2.1.1
  rcases s_bill I hk (x := (xs (3 * k + 1))) (v := (xs (3 * k + 2))) with ⟨r1, hn, r2, e9, r4⟩ | ⟨x9, hx9, r1, r2, r4⟩
  · have ht : thrs [xIO, xIA, xIS] (e_billT E (xs (3 * k + 1)) (xs (3 * k + 2))) := Or.inl r1
    have r3 : (0 : Int32) = 0 → (vp_updL o 0 (nI n).toInt64) 0 = (m_bill S (xs (3 * k + 1)) (xs (3 * k + 2))).1.toInt64 := fun _ => by rw [← e9]; rfl
    refine j_aload_n hc dL_law_503 rfl ?_
    refine j_aload_n hc dL_law_504 rfl ?_
    refine j_iload hc dL_law_505 rfl ?_
    refine j_iconst hc (v := 1) dL_law_507 (by decide) ?_
    refine j_iadd hc dL_law_508 ?_
    refine j_sld hc hX (nI_1 (3 * k)) (j := 3 * k + 1) ⟨by omega, hL⟩ dL_law_509 ?_
    refine j_aload_n hc dL_law_510 rfl ?_
    refine j_iload hc dL_law_511 rfl ?_
    refine j_iconst hc (v := 2) dL_law_513 (by decide) ?_
    refine j_iadd hc dL_law_514 ?_
    refine j_sld hc hX (nI_2 (3 * k)) (j := 3 * k + 2) ⟨by omega, hL⟩ dL_law_515 ?_
    refine j_aload_n hc dL_law_516 rfl ?_
    have ct := c_L_bill (D := D) (cs := cs) (sa := sa) (ad := ad) (S := S) (o := o) (k := (xs (3 * k + 1))) (f := (xs (3 * k + 2))) hl hE hn30 ht
    simp only [r1] at ct
    refine j_callSE hc ct sh_L_110 rfl ⟨rfl, rfl, by decide, by decide⟩ rfl (Nat.le_of_ble_eq_true rfl) ⟨by show _ ≤ 601024; omega, by show _ ≤ 7293034; omega⟩ dL_law_517 (fun z => ?_)
    refine j_istore hc dL_law_520 rfl ?_
    have b0 : ad 0 = adB ad n z.1 z.2 0 := (adB_old _ _ _ _ _ (by omega)).symm
    have b15 : ad 15 = adB ad n z.1 z.2 15 := (adB_old _ _ _ _ _ (by omega)).symm
    have b32 : ad 32 = adB ad n z.1 z.2 32 := (adB_old _ _ _ _ _ (by omega)).symm
    refine j_lv [(0, .ref b), (1, .ref (ad 0)), (2, .ref (ad 15)), (3, .ref (ad 32)), (4, .int (nI (3 * k))), (5, .int 0)] ⟨rfl, rfl, rfl, rfl, rfl, rfl, trivial⟩ ?_
    rw [b0, b15, b32]
    generalize adB ad n z.1 z.2 = ad
    have cm : CM l D cs sa yX5_bill cX5_bill 4 (Option.some Jvm.ClassFile.FieldType.int) (RM 3 0 0) 0 0 [.ref (ad 15), .int (xs (3 * k + 1)), .int (xs (3 * k + 2))] (WD ad cs (n + 1) (e_billE E n (xs (3 * k + 1)) (xs (3 * k + 2))) S (vp_updL o 0 (nI n).toInt64)) (none, some (.int (m_bill S (xs (3 * k + 1)) (xs (3 * k + 2))).1), WD ad cs (n + 1) (e_billE E n (xs (3 * k + 1)) (xs (3 * k + 2))) (m_bill S (xs (3 * k + 1)) (xs (3 * k + 2))).2 (vp_updL o 0 (nI n).toInt64)) := c_X5_bill hl M
    generalize e_billE E n (xs (3 * k + 1)) (xs (3 * k + 2)) = EB at cm r4 ⊢
    generalize m_bill S (xs (3 * k + 1)) (xs (3 * k + 2)) = mv at cm r2 r3 r4
    refine j_aload_n hc dL_law_522 rfl ?_
    refine j_aload_n hc dL_law_523 rfl ?_
    refine j_iload hc dL_law_524 rfl ?_
    refine j_iconst hc (v := 1) dL_law_526 (by decide) ?_
    refine j_iadd hc dL_law_527 ?_
    refine j_sld hc hX (nI_1 (3 * k)) (j := 3 * k + 1) ⟨by omega, hL⟩ dL_law_528 ?_
    refine j_aload_n hc dL_law_529 rfl ?_
    refine j_iload hc dL_law_530 rfl ?_
    refine j_iconst hc (v := 2) dL_law_532 (by decide) ?_
    refine j_iadd hc dL_law_533 ?_
    refine j_sld hc hX (nI_2 (3 * k)) (j := 3 * k + 2) ⟨by omega, hL⟩ dL_law_534 ?_
    refine j_callV' hc cm vc_L_112 rfl ⟨rfl, rfl, by decide, by decide⟩ 15 rfl rfl rfl (Nat.le_of_ble_eq_true rfl) ⟨by show _ ≤ 601024; omega, by show _ ≤ 7293034; omega⟩ dL_law_535 (fun _ h => by cases h) (fun _ => ?_)
    refine j_istore hc dL_law_538 rfl ?_
    refine j_aload_n hc dL_law_540 rfl ?_
    refine j_callV' hc (c_X5_thrown hl) vc_L_92 rfl ⟨rfl, rfl, by decide, by decide⟩ 15 rfl rfl rfl (Nat.le_of_ble_eq_true rfl) ⟨by show _ ≤ 601024; omega, by show _ ≤ 7293034; omega⟩ dL_law_541 (fun _ h => by cases h) (fun _ => ?_)
    refine j_iload hc dL_law_544 rfl ?_
    refine j_icmp_eq hc 551 dL_law_546 (by decide) (fun _ => ?_) (fun h => absurd r2 h)
    refine j_iload hc dL_law_551 rfl ?_
    refine j_if_ne hc 568 dL_law_553 (by decide) (fun _ => ?_) (fun h0 => ?_)
    · -- thrown
      refine j_goto hc 1581 dL_law_568 (by decide) ?_
      refine j_widen (k := 600 + 8 * (k + 1)) (n := 4000 + 64 * (k + 1)) (by omega) (by omega) ?_
      refine j_lv [(0, .ref b), (1, .ref (ad 0)), (2, .ref (ad 15)), (3, .ref (ad 32)), (4, .int (nI (3 * k)))] ⟨rfl, rfl, rfl, rfl, rfl, trivial⟩ ?_
      exact next _ _ _ _ _ r4
    refine j_aload_n hc dL_law_556 rfl ?_
    refine j_iconst hc (v := 0) dL_law_557 (by decide) ?_
    refine al_out hc (vp_in_nI (n := 0) (N := 1) (by decide) (by decide)) dL_law_558 ?_
    refine j_iload hc dL_law_559 rfl ?_
    refine j_i2l hc dL_law_561 ?_
    refine j_lcmp hc dL_law_562 ?_
    refine j_if_eq hc 568 dL_law_563 (by decide) (fun _ => ?_) (fun h => absurd (bl_cmp.mpr (r3 h0)) h)
    refine j_goto hc 1581 dL_law_568 (by decide) ?_
    refine j_widen (k := 600 + 8 * (k + 1)) (n := 4000 + 64 * (k + 1)) (by omega) (by omega) ?_
    refine j_lv [(0, .ref b), (1, .ref (ad 0)), (2, .ref (ad 15)), (3, .ref (ad 32)), (4, .int (nI (3 * k)))] ⟨rfl, rfl, rfl, rfl, rfl, trivial⟩ ?_
    exact next _ _ _ _ _ r4
  · have ht : thrs [xIO, xIA, xIS] (e_billT E (xs (3 * k + 1)) (xs (3 * k + 2))) := Or.inr ⟨x9, hx9, r1⟩
    have r3 : wc [xIO, xIA, xIS] x9 = 0 → o 0 = (m_bill S (xs (3 * k + 1)) (xs (3 * k + 2))).1.toInt64 := fun z => absurd z (wcn_5 x9 hx9)
    refine j_aload_n hc dL_law_503 rfl ?_
    refine j_aload_n hc dL_law_504 rfl ?_
    refine j_iload hc dL_law_505 rfl ?_
    refine j_iconst hc (v := 1) dL_law_507 (by decide) ?_
    refine j_iadd hc dL_law_508 ?_
    refine j_sld hc hX (nI_1 (3 * k)) (j := 3 * k + 1) ⟨by omega, hL⟩ dL_law_509 ?_
    refine j_aload_n hc dL_law_510 rfl ?_
    refine j_iload hc dL_law_511 rfl ?_
    refine j_iconst hc (v := 2) dL_law_513 (by decide) ?_
    refine j_iadd hc dL_law_514 ?_
    refine j_sld hc hX (nI_2 (3 * k)) (j := 3 * k + 2) ⟨by omega, hL⟩ dL_law_515 ?_
    refine j_aload_n hc dL_law_516 rfl ?_
    have ct := c_L_bill (D := D) (cs := cs) (sa := sa) (ad := ad) (S := S) (o := o) (k := (xs (3 * k + 1))) (f := (xs (3 * k + 2))) hl hE hn30 ht
    simp only [r1] at ct
    refine j_callSE hc ct sh_L_110 rfl ⟨rfl, rfl, by decide, by decide⟩ rfl (Nat.le_of_ble_eq_true rfl) ⟨by show _ ≤ 601024; omega, by show _ ≤ 7293034; omega⟩ dL_law_517 (fun z => ?_)
    refine j_istore hc dL_law_520 rfl ?_
    have cm : CM l D cs sa yX5_bill cX5_bill 4 (Option.some Jvm.ClassFile.FieldType.int) (RM 3 0 0) 0 0 [.ref (ad 15), .int (xs (3 * k + 1)), .int (xs (3 * k + 2))] (WD ad cs n E S o) (none, some (.int (m_bill S (xs (3 * k + 1)) (xs (3 * k + 2))).1), WD ad cs n E (m_bill S (xs (3 * k + 1)) (xs (3 * k + 2))).2 o) := c_X5_bill hl M
    generalize m_bill S (xs (3 * k + 1)) (xs (3 * k + 2)) = mv at cm r2 r3 r4
    refine j_aload_n hc dL_law_522 rfl ?_
    refine j_aload_n hc dL_law_523 rfl ?_
    refine j_iload hc dL_law_524 rfl ?_
    refine j_iconst hc (v := 1) dL_law_526 (by decide) ?_
    refine j_iadd hc dL_law_527 ?_
    refine j_sld hc hX (nI_1 (3 * k)) (j := 3 * k + 1) ⟨by omega, hL⟩ dL_law_528 ?_
    refine j_aload_n hc dL_law_529 rfl ?_
    refine j_iload hc dL_law_530 rfl ?_
    refine j_iconst hc (v := 2) dL_law_532 (by decide) ?_
    refine j_iadd hc dL_law_533 ?_
    refine j_sld hc hX (nI_2 (3 * k)) (j := 3 * k + 2) ⟨by omega, hL⟩ dL_law_534 ?_
    refine j_callV' hc cm vc_L_112 rfl ⟨rfl, rfl, by decide, by decide⟩ 15 rfl rfl rfl (Nat.le_of_ble_eq_true rfl) ⟨by show _ ≤ 601024; omega, by show _ ≤ 7293034; omega⟩ dL_law_535 (fun _ h => by cases h) (fun _ => ?_)
    refine j_istore hc dL_law_538 rfl ?_
    refine j_aload_n hc dL_law_540 rfl ?_
    refine j_callV' hc (c_X5_thrown hl) vc_L_92 rfl ⟨rfl, rfl, by decide, by decide⟩ 15 rfl rfl rfl (Nat.le_of_ble_eq_true rfl) ⟨by show _ ≤ 601024; omega, by show _ ≤ 7293034; omega⟩ dL_law_541 (fun _ h => by cases h) (fun _ => ?_)
    refine j_iload hc dL_law_544 rfl ?_
    refine j_icmp_eq hc 551 dL_law_546 (by decide) (fun _ => ?_) (fun h => absurd r2 h)
    refine j_iload hc dL_law_551 rfl ?_
    refine j_if_ne hc 568 dL_law_553 (by decide) (fun _ => ?_) (fun h0 => ?_)
    · -- thrown
      refine j_goto hc 1581 dL_law_568 (by decide) ?_
      refine j_widen (k := 600 + 8 * (k + 1)) (n := 4000 + 64 * (k + 1)) (by omega) (by omega) ?_
      refine j_lv [(0, .ref b), (1, .ref (ad 0)), (2, .ref (ad 15)), (3, .ref (ad 32)), (4, .int (nI (3 * k)))] ⟨rfl, rfl, rfl, rfl, rfl, trivial⟩ ?_
      exact next _ _ _ _ _ r4
    refine j_aload_n hc dL_law_556 rfl ?_
    refine j_iconst hc (v := 0) dL_law_557 (by decide) ?_
    refine al_out hc (vp_in_nI (n := 0) (N := 1) (by decide) (by decide)) dL_law_558 ?_
    refine j_iload hc dL_law_559 rfl ?_
    refine j_i2l hc dL_law_561 ?_
    refine j_lcmp hc dL_law_562 ?_
    refine j_if_eq hc 568 dL_law_563 (by decide) (fun _ => ?_) (fun h => absurd (bl_cmp.mpr (r3 h0)) h)
    refine j_goto hc 1581 dL_law_568 (by decide) ?_
    refine j_widen (k := 600 + 8 * (k + 1)) (n := 4000 + 64 * (k + 1)) (by omega) (by omega) ?_
    refine j_lv [(0, .ref b), (1, .ref (ad 0)), (2, .ref (ad 15)), (3, .ref (ad 32)), (4, .int (nI (3 * k)))] ⟨rfl, rfl, rfl, rfl, rfl, trivial⟩ ?_
    exact next _ _ _ _ _ r4
set_option maxRecDepth 100000 in
set_option maxHeartbeats 4000000 in
theorem op_6 {p : Program} {l : Launch} {e : Env} {s : State} {m : MethodId} {below : List Frame} {meth : Method} {c : Code} {D : va_G} {cs : Nat → ClassId} {sa : Nat → Nat} {A : Nat → Prop} {Q : State → Prop} {b L k n : Nat} {xs : Nat → Int32} {ad : Nat → Nat} {E : ES} {S : MS} {o : Nat → Int64} (hc : CX p l e room_1 s m #[Value.ref b] below meth c D cs sa A code 7 RL ret) (hX : va_X b L xs s s.heap ∧ b < s.heap.size ∧ ¬ A b) (hk : k < 512) (h3 : 3 * k + 3 ≤ L) (hL : L ≤ 1536) (I : Inv k n E S) (next : ∀ ad n E S o, Inv (k + 1) n E S → LPc p l e s m below meth c D cs A Q b k (k + 1) 1581 ad n E S o) : LPc p l e s m below meth c D cs A Q b k k 571 ad n E S o := by
  have hl := hc.2.2.2.2.2.2
  have I0 := I
  obtain ⟨h, Y, T, a1, a2, a3, H, M⟩ := I0
  have hn30 := M.2.1.2
  unfold LPc
  obtain ⟨r1, r2, r3, r4⟩ := simR_w (show SimR k n [xIO, xIA, xIS] E (e_outcome n E (xs (3 * k + 1)) (xs (3 * k + 2))) (m_outcome S (xs (3 * k + 1)) (xs (3 * k + 2))) from s_outcome I hk) o
  replace r3 := r3 wcn_5
  have ct : CH l D cs sa yL_outcome cL_outcome 5 (Option.some Jvm.ClassFile.FieldType.int) [((0 : Nat), (10 : Nat), (13 : Nat), (13 : Nat)), ((0 : Nat), (10 : Nat), (17 : Nat), (21 : Nat)), ((0 : Nat), (10 : Nat), (21 : Nat), (15 : Nat))] (RM 8 8 64) 8 64 [.ref (ad 0), .int (xs (3 * k + 1)), .int (xs (3 * k + 2)), .ref (ad 32)] (WD ad cs n E S o) (none, some (.int (wres (e_outcome n E (xs (3 * k + 1)) (xs (3 * k + 2))) [xIO, xIA, xIS] E o).1), WD ad cs n (wres (e_outcome n E (xs (3 * k + 1)) (xs (3 * k + 2))) [xIO, xIA, xIS] E o).2.1 S (wres (e_outcome n E (xs (3 * k + 1)) (xs (3 * k + 2))) [xIO, xIA, xIS] E o).2.2) := c_L_outcome hl hn30 r1
  clear r1
  generalize wres (e_outcome n E (xs (3 * k + 1)) (xs (3 * k + 2))) [xIO, xIA, xIS] E o = W at ct r2 r3 r4
  have cm : CM l D cs sa yX5_outcome cX5_outcome 3 (Option.some Jvm.ClassFile.FieldType.int) (RM 4 0 0) 0 0 [.ref (ad 15), .int (xs (3 * k + 1)), .int (xs (3 * k + 2))] (WD ad cs n W.2.1 S W.2.2) (none, some (.int (m_outcome S (xs (3 * k + 1)) (xs (3 * k + 2))).1), WD ad cs n W.2.1 (m_outcome S (xs (3 * k + 1)) (xs (3 * k + 2))).2 W.2.2) := c_X5_outcome hl M (by omega)
  generalize m_outcome S (xs (3 * k + 1)) (xs (3 * k + 2)) = mv at cm r2 r3 r4
  refine j_aload_n hc dL_law_571 rfl ?_
  refine j_aload_n hc dL_law_572 rfl ?_
  refine j_iload hc dL_law_573 rfl ?_
  refine j_iconst hc (v := 1) dL_law_575 (by decide) ?_
  refine j_iadd hc dL_law_576 ?_
  refine j_sld hc hX (nI_1 (3 * k)) (j := 3 * k + 1) ⟨by omega, hL⟩ dL_law_577 ?_
  refine j_aload_n hc dL_law_578 rfl ?_
  refine j_iload hc dL_law_579 rfl ?_
  refine j_iconst hc (v := 2) dL_law_581 (by decide) ?_
  refine j_iadd hc dL_law_582 ?_
  refine j_sld hc hX (nI_2 (3 * k)) (j := 3 * k + 2) ⟨by omega, hL⟩ dL_law_583 ?_
  refine j_aload_n hc dL_law_584 rfl ?_
  refine j_callSH hc (r := (some (.int W.1), WD ad cs n W.2.1 S W.2.2)) ct sh_L_113 rfl ⟨rfl, rfl, by decide, by decide⟩ rfl (Nat.le_of_ble_eq_true rfl) ⟨by show _ ≤ 601024; omega, by show _ ≤ 7293034; omega⟩ dL_law_585 ?_
  refine j_istore hc dL_law_588 rfl ?_
  refine j_aload_n hc dL_law_590 rfl ?_
  refine j_aload_n hc dL_law_591 rfl ?_
  refine j_iload hc dL_law_592 rfl ?_
  refine j_iconst hc (v := 1) dL_law_594 (by decide) ?_
  refine j_iadd hc dL_law_595 ?_
  refine j_sld hc hX (nI_1 (3 * k)) (j := 3 * k + 1) ⟨by omega, hL⟩ dL_law_596 ?_
  refine j_aload_n hc dL_law_597 rfl ?_
  refine j_iload hc dL_law_598 rfl ?_
  refine j_iconst hc (v := 2) dL_law_600 (by decide) ?_
  refine j_iadd hc dL_law_601 ?_
  refine j_sld hc hX (nI_2 (3 * k)) (j := 3 * k + 2) ⟨by omega, hL⟩ dL_law_602 ?_
  refine j_callV' hc cm vc_L_115 rfl ⟨rfl, rfl, by decide, by decide⟩ 15 rfl rfl rfl (Nat.le_of_ble_eq_true rfl) ⟨by show _ ≤ 601024; omega, by show _ ≤ 7293034; omega⟩ dL_law_603 (fun _ h => by cases h) (fun _ => ?_)
  refine j_istore hc dL_law_606 rfl ?_
  refine j_aload_n hc dL_law_608 rfl ?_
  refine j_callV' hc (c_X5_thrown hl) vc_L_92 rfl ⟨rfl, rfl, by decide, by decide⟩ 15 rfl rfl rfl (Nat.le_of_ble_eq_true rfl) ⟨by show _ ≤ 601024; omega, by show _ ≤ 7293034; omega⟩ dL_law_609 (fun _ h => by cases h) (fun _ => ?_)
  refine j_iload hc dL_law_612 rfl ?_
  refine j_icmp_eq hc 619 dL_law_614 (by decide) (fun _ => ?_) (fun h => absurd r2 h)
  refine j_iload hc dL_law_619 rfl ?_
  refine j_if_ne hc 636 dL_law_621 (by decide) (fun _ => ?_) (fun h0 => ?_)
  · -- thrown
    refine j_goto hc 1581 dL_law_636 (by decide) ?_
    refine j_widen (k := 600 + 8 * (k + 1)) (n := 4000 + 64 * (k + 1)) (by omega) (by omega) ?_
    refine j_lv [(0, .ref b), (1, .ref (ad 0)), (2, .ref (ad 15)), (3, .ref (ad 32)), (4, .int (nI (3 * k)))] ⟨rfl, rfl, rfl, rfl, rfl, trivial⟩ ?_
    exact next _ _ _ _ _ r4
  refine j_aload_n hc dL_law_624 rfl ?_
  refine j_iconst hc (v := 0) dL_law_625 (by decide) ?_
  refine al_out hc (vp_in_nI (n := 0) (N := 1) (by decide) (by decide)) dL_law_626 ?_
  refine j_iload hc dL_law_627 rfl ?_
  refine j_i2l hc dL_law_629 ?_
  refine j_lcmp hc dL_law_630 ?_
  refine j_if_eq hc 636 dL_law_631 (by decide) (fun _ => ?_) (fun h => absurd (bl_cmp.mpr (r3 h0)) h)
  refine j_goto hc 1581 dL_law_636 (by decide) ?_
  refine j_widen (k := 600 + 8 * (k + 1)) (n := 4000 + 64 * (k + 1)) (by omega) (by omega) ?_
  refine j_lv [(0, .ref b), (1, .ref (ad 0)), (2, .ref (ad 15)), (3, .ref (ad 32)), (4, .int (nI (3 * k)))] ⟨rfl, rfl, rfl, rfl, rfl, trivial⟩ ?_
  exact next _ _ _ _ _ r4
set_option maxRecDepth 100000 in
set_option maxHeartbeats 4000000 in
theorem op_7 {p : Program} {l : Launch} {e : Env} {s : State} {m : MethodId} {below : List Frame} {meth : Method} {c : Code} {D : va_G} {cs : Nat → ClassId} {sa : Nat → Nat} {A : Nat → Prop} {Q : State → Prop} {b L k n : Nat} {xs : Nat → Int32} {ad : Nat → Nat} {E : ES} {S : MS} {o : Nat → Int64} (hc : CX p l e room_1 s m #[Value.ref b] below meth c D cs sa A code 7 RL ret) (hX : va_X b L xs s s.heap ∧ b < s.heap.size ∧ ¬ A b) (hk : k < 512) (h3 : 3 * k + 3 ≤ L) (hL : L ≤ 1536) (I : Inv k n E S) (next : ∀ ad n E S o, Inv (k + 1) n E S → LPc p l e s m below meth c D cs A Q b k (k + 1) 1581 ad n E S o) : LPc p l e s m below meth c D cs A Q b k k 639 ad n E S o := by
  have hl := hc.2.2.2.2.2.2
  have I0 := I
  obtain ⟨h, Y, T, a1, a2, a3, H, M⟩ := I0
  have hn30 := M.2.1.2
  unfold LPc
  obtain ⟨r1, r2, r3, r4⟩ := simR_w (show SimR k n [xIO, xIA, xIS] E (e_pay n E (xs (3 * k + 1)) (xs (3 * k + 2))) (m_pay S (xs (3 * k + 1)) (xs (3 * k + 2))) from s_pay I hk) o
  replace r3 := r3 wcn_5
  have ct : CH l D cs sa yL_pay cL_pay 5 (Option.some Jvm.ClassFile.FieldType.int) [((0 : Nat), (10 : Nat), (13 : Nat), (13 : Nat)), ((0 : Nat), (10 : Nat), (17 : Nat), (21 : Nat)), ((0 : Nat), (10 : Nat), (21 : Nat), (15 : Nat))] (RM 8 8 64) 8 64 [.ref (ad 0), .int (xs (3 * k + 1)), .int (xs (3 * k + 2)), .ref (ad 32)] (WD ad cs n E S o) (none, some (.int (wres (e_pay n E (xs (3 * k + 1)) (xs (3 * k + 2))) [xIO, xIA, xIS] E o).1), WD ad cs n (wres (e_pay n E (xs (3 * k + 1)) (xs (3 * k + 2))) [xIO, xIA, xIS] E o).2.1 S (wres (e_pay n E (xs (3 * k + 1)) (xs (3 * k + 2))) [xIO, xIA, xIS] E o).2.2) := c_L_pay hl hn30 r1
  clear r1
  generalize wres (e_pay n E (xs (3 * k + 1)) (xs (3 * k + 2))) [xIO, xIA, xIS] E o = W at ct r2 r3 r4
  have cm : CM l D cs sa yX5_pay cX5_pay 3 (Option.some Jvm.ClassFile.FieldType.int) (RM 4 0 0) 0 0 [.ref (ad 15), .int (xs (3 * k + 1)), .int (xs (3 * k + 2))] (WD ad cs n W.2.1 S W.2.2) (none, some (.int (m_pay S (xs (3 * k + 1)) (xs (3 * k + 2))).1), WD ad cs n W.2.1 (m_pay S (xs (3 * k + 1)) (xs (3 * k + 2))).2 W.2.2) := c_X5_pay hl M
  generalize m_pay S (xs (3 * k + 1)) (xs (3 * k + 2)) = mv at cm r2 r3 r4
  refine j_aload_n hc dL_law_639 rfl ?_
  refine j_aload_n hc dL_law_640 rfl ?_
  refine j_iload hc dL_law_641 rfl ?_
  refine j_iconst hc (v := 1) dL_law_643 (by decide) ?_
  refine j_iadd hc dL_law_644 ?_
  refine j_sld hc hX (nI_1 (3 * k)) (j := 3 * k + 1) ⟨by omega, hL⟩ dL_law_645 ?_
  refine j_aload_n hc dL_law_646 rfl ?_
  refine j_iload hc dL_law_647 rfl ?_
  refine j_iconst hc (v := 2) dL_law_649 (by decide) ?_
  refine j_iadd hc dL_law_650 ?_
  refine j_sld hc hX (nI_2 (3 * k)) (j := 3 * k + 2) ⟨by omega, hL⟩ dL_law_651 ?_
  refine j_aload_n hc dL_law_652 rfl ?_
  refine j_callSH hc (r := (some (.int W.1), WD ad cs n W.2.1 S W.2.2)) ct sh_L_116 rfl ⟨rfl, rfl, by decide, by decide⟩ rfl (Nat.le_of_ble_eq_true rfl) ⟨by show _ ≤ 601024; omega, by show _ ≤ 7293034; omega⟩ dL_law_653 ?_
  refine j_istore hc dL_law_656 rfl ?_
  refine j_aload_n hc dL_law_658 rfl ?_
  refine j_aload_n hc dL_law_659 rfl ?_
  refine j_iload hc dL_law_660 rfl ?_
  refine j_iconst hc (v := 1) dL_law_662 (by decide) ?_
  refine j_iadd hc dL_law_663 ?_
  refine j_sld hc hX (nI_1 (3 * k)) (j := 3 * k + 1) ⟨by omega, hL⟩ dL_law_664 ?_
  refine j_aload_n hc dL_law_665 rfl ?_
  refine j_iload hc dL_law_666 rfl ?_
  refine j_iconst hc (v := 2) dL_law_668 (by decide) ?_
  refine j_iadd hc dL_law_669 ?_
  refine j_sld hc hX (nI_2 (3 * k)) (j := 3 * k + 2) ⟨by omega, hL⟩ dL_law_670 ?_
  refine j_callV' hc cm vc_L_118 rfl ⟨rfl, rfl, by decide, by decide⟩ 15 rfl rfl rfl (Nat.le_of_ble_eq_true rfl) ⟨by show _ ≤ 601024; omega, by show _ ≤ 7293034; omega⟩ dL_law_671 (fun _ h => by cases h) (fun _ => ?_)
  refine j_istore hc dL_law_674 rfl ?_
  refine j_aload_n hc dL_law_676 rfl ?_
  refine j_callV' hc (c_X5_thrown hl) vc_L_92 rfl ⟨rfl, rfl, by decide, by decide⟩ 15 rfl rfl rfl (Nat.le_of_ble_eq_true rfl) ⟨by show _ ≤ 601024; omega, by show _ ≤ 7293034; omega⟩ dL_law_677 (fun _ h => by cases h) (fun _ => ?_)
  refine j_iload hc dL_law_680 rfl ?_
  refine j_icmp_eq hc 687 dL_law_682 (by decide) (fun _ => ?_) (fun h => absurd r2 h)
  refine j_iload hc dL_law_687 rfl ?_
  refine j_if_ne hc 704 dL_law_689 (by decide) (fun _ => ?_) (fun h0 => ?_)
  · -- thrown
    refine j_goto hc 1581 dL_law_704 (by decide) ?_
    refine j_widen (k := 600 + 8 * (k + 1)) (n := 4000 + 64 * (k + 1)) (by omega) (by omega) ?_
    refine j_lv [(0, .ref b), (1, .ref (ad 0)), (2, .ref (ad 15)), (3, .ref (ad 32)), (4, .int (nI (3 * k)))] ⟨rfl, rfl, rfl, rfl, rfl, trivial⟩ ?_
    exact next _ _ _ _ _ r4
  refine j_aload_n hc dL_law_692 rfl ?_
  refine j_iconst hc (v := 0) dL_law_693 (by decide) ?_
  refine al_out hc (vp_in_nI (n := 0) (N := 1) (by decide) (by decide)) dL_law_694 ?_
  refine j_iload hc dL_law_695 rfl ?_
  refine j_i2l hc dL_law_697 ?_
  refine j_lcmp hc dL_law_698 ?_
  refine j_if_eq hc 704 dL_law_699 (by decide) (fun _ => ?_) (fun h => absurd (bl_cmp.mpr (r3 h0)) h)
  refine j_goto hc 1581 dL_law_704 (by decide) ?_
  refine j_widen (k := 600 + 8 * (k + 1)) (n := 4000 + 64 * (k + 1)) (by omega) (by omega) ?_
  refine j_lv [(0, .ref b), (1, .ref (ad 0)), (2, .ref (ad 15)), (3, .ref (ad 32)), (4, .int (nI (3 * k)))] ⟨rfl, rfl, rfl, rfl, rfl, trivial⟩ ?_
  exact next _ _ _ _ _ r4
set_option maxRecDepth 100000 in
set_option maxHeartbeats 4000000 in
theorem op_8 {p : Program} {l : Launch} {e : Env} {s : State} {m : MethodId} {below : List Frame} {meth : Method} {c : Code} {D : va_G} {cs : Nat → ClassId} {sa : Nat → Nat} {A : Nat → Prop} {Q : State → Prop} {b L k n : Nat} {xs : Nat → Int32} {ad : Nat → Nat} {E : ES} {S : MS} {o : Nat → Int64} (hc : CX p l e room_1 s m #[Value.ref b] below meth c D cs sa A code 7 RL ret) (hX : va_X b L xs s s.heap ∧ b < s.heap.size ∧ ¬ A b) (hk : k < 512) (h3 : 3 * k + 3 ≤ L) (hL : L ≤ 1536) (I : Inv k n E S) (next : ∀ ad n E S o, Inv (k + 1) n E S → LPc p l e s m below meth c D cs A Q b k (k + 1) 1581 ad n E S o) : LPc p l e s m below meth c D cs A Q b k k 707 ad n E S o := by
  have hl := hc.2.2.2.2.2.2
  have I0 := I
  obtain ⟨h, Y, T, a1, a2, a3, H, M⟩ := I0
  have hn30 := M.2.1.2
  unfold LPc
  obtain ⟨r1, r2, r3, r4⟩ := simR_w (show SimR k n [xIO, xIA, xIS] E (e_promise n E (xs (3 * k + 1)) (xs (3 * k + 2))) (m_promise S (xs (3 * k + 1)) (xs (3 * k + 2))) from s_promise I hk) o
  replace r3 := r3 wcn_5
  have ct : CH l D cs sa yL_promise cL_promise 5 (Option.some Jvm.ClassFile.FieldType.int) [((0 : Nat), (10 : Nat), (13 : Nat), (13 : Nat)), ((0 : Nat), (10 : Nat), (17 : Nat), (21 : Nat)), ((0 : Nat), (10 : Nat), (21 : Nat), (15 : Nat))] (RM 8 8 64) 8 64 [.ref (ad 0), .int (xs (3 * k + 1)), .int (xs (3 * k + 2)), .ref (ad 32)] (WD ad cs n E S o) (none, some (.int (wres (e_promise n E (xs (3 * k + 1)) (xs (3 * k + 2))) [xIO, xIA, xIS] E o).1), WD ad cs n (wres (e_promise n E (xs (3 * k + 1)) (xs (3 * k + 2))) [xIO, xIA, xIS] E o).2.1 S (wres (e_promise n E (xs (3 * k + 1)) (xs (3 * k + 2))) [xIO, xIA, xIS] E o).2.2) := c_L_promise hl hn30 r1
  clear r1
  generalize wres (e_promise n E (xs (3 * k + 1)) (xs (3 * k + 2))) [xIO, xIA, xIS] E o = W at ct r2 r3 r4
  have cm : CM l D cs sa yX5_promise cX5_promise 4 (Option.some Jvm.ClassFile.FieldType.int) (RM 4 0 0) 0 0 [.ref (ad 15), .int (xs (3 * k + 1)), .int (xs (3 * k + 2))] (WD ad cs n W.2.1 S W.2.2) (none, some (.int (m_promise S (xs (3 * k + 1)) (xs (3 * k + 2))).1), WD ad cs n W.2.1 (m_promise S (xs (3 * k + 1)) (xs (3 * k + 2))).2 W.2.2) := c_X5_promise hl M
  generalize m_promise S (xs (3 * k + 1)) (xs (3 * k + 2)) = mv at cm r2 r3 r4
  refine j_aload_n hc dL_law_707 rfl ?_
  refine j_aload_n hc dL_law_708 rfl ?_
  refine j_iload hc dL_law_709 rfl ?_
  refine j_iconst hc (v := 1) dL_law_711 (by decide) ?_
  refine j_iadd hc dL_law_712 ?_
  refine j_sld hc hX (nI_1 (3 * k)) (j := 3 * k + 1) ⟨by omega, hL⟩ dL_law_713 ?_
  refine j_aload_n hc dL_law_714 rfl ?_
  refine j_iload hc dL_law_715 rfl ?_
  refine j_iconst hc (v := 2) dL_law_717 (by decide) ?_
  refine j_iadd hc dL_law_718 ?_
  refine j_sld hc hX (nI_2 (3 * k)) (j := 3 * k + 2) ⟨by omega, hL⟩ dL_law_719 ?_
  refine j_aload_n hc dL_law_720 rfl ?_
  refine j_callSH hc (r := (some (.int W.1), WD ad cs n W.2.1 S W.2.2)) ct sh_L_119 rfl ⟨rfl, rfl, by decide, by decide⟩ rfl (Nat.le_of_ble_eq_true rfl) ⟨by show _ ≤ 601024; omega, by show _ ≤ 7293034; omega⟩ dL_law_721 ?_
  refine j_istore hc dL_law_724 rfl ?_
  refine j_aload_n hc dL_law_726 rfl ?_
  refine j_aload_n hc dL_law_727 rfl ?_
  refine j_iload hc dL_law_728 rfl ?_
  refine j_iconst hc (v := 1) dL_law_730 (by decide) ?_
  refine j_iadd hc dL_law_731 ?_
  refine j_sld hc hX (nI_1 (3 * k)) (j := 3 * k + 1) ⟨by omega, hL⟩ dL_law_732 ?_
  refine j_aload_n hc dL_law_733 rfl ?_
  refine j_iload hc dL_law_734 rfl ?_
  refine j_iconst hc (v := 2) dL_law_736 (by decide) ?_
  refine j_iadd hc dL_law_737 ?_
  refine j_sld hc hX (nI_2 (3 * k)) (j := 3 * k + 2) ⟨by omega, hL⟩ dL_law_738 ?_
  refine j_callV' hc cm vc_L_121 rfl ⟨rfl, rfl, by decide, by decide⟩ 15 rfl rfl rfl (Nat.le_of_ble_eq_true rfl) ⟨by show _ ≤ 601024; omega, by show _ ≤ 7293034; omega⟩ dL_law_739 (fun _ h => by cases h) (fun _ => ?_)
  refine j_istore hc dL_law_742 rfl ?_
  refine j_aload_n hc dL_law_744 rfl ?_
  refine j_callV' hc (c_X5_thrown hl) vc_L_92 rfl ⟨rfl, rfl, by decide, by decide⟩ 15 rfl rfl rfl (Nat.le_of_ble_eq_true rfl) ⟨by show _ ≤ 601024; omega, by show _ ≤ 7293034; omega⟩ dL_law_745 (fun _ h => by cases h) (fun _ => ?_)
  refine j_iload hc dL_law_748 rfl ?_
  refine j_icmp_eq hc 755 dL_law_750 (by decide) (fun _ => ?_) (fun h => absurd r2 h)
  refine j_iload hc dL_law_755 rfl ?_
  refine j_if_ne hc 772 dL_law_757 (by decide) (fun _ => ?_) (fun h0 => ?_)
  · -- thrown
    refine j_goto hc 1581 dL_law_772 (by decide) ?_
    refine j_widen (k := 600 + 8 * (k + 1)) (n := 4000 + 64 * (k + 1)) (by omega) (by omega) ?_
    refine j_lv [(0, .ref b), (1, .ref (ad 0)), (2, .ref (ad 15)), (3, .ref (ad 32)), (4, .int (nI (3 * k)))] ⟨rfl, rfl, rfl, rfl, rfl, trivial⟩ ?_
    exact next _ _ _ _ _ r4
  refine j_aload_n hc dL_law_760 rfl ?_
  refine j_iconst hc (v := 0) dL_law_761 (by decide) ?_
  refine al_out hc (vp_in_nI (n := 0) (N := 1) (by decide) (by decide)) dL_law_762 ?_
  refine j_iload hc dL_law_763 rfl ?_
  refine j_i2l hc dL_law_765 ?_
  refine j_lcmp hc dL_law_766 ?_
  refine j_if_eq hc 772 dL_law_767 (by decide) (fun _ => ?_) (fun h => absurd (bl_cmp.mpr (r3 h0)) h)
  refine j_goto hc 1581 dL_law_772 (by decide) ?_
  refine j_widen (k := 600 + 8 * (k + 1)) (n := 4000 + 64 * (k + 1)) (by omega) (by omega) ?_
  refine j_lv [(0, .ref b), (1, .ref (ad 0)), (2, .ref (ad 15)), (3, .ref (ad 32)), (4, .int (nI (3 * k)))] ⟨rfl, rfl, rfl, rfl, rfl, trivial⟩ ?_
  exact next _ _ _ _ _ r4
set_option maxRecDepth 100000 in
set_option maxHeartbeats 4000000 in
theorem op_9 {p : Program} {l : Launch} {e : Env} {s : State} {m : MethodId} {below : List Frame} {meth : Method} {c : Code} {D : va_G} {cs : Nat → ClassId} {sa : Nat → Nat} {A : Nat → Prop} {Q : State → Prop} {b L k n : Nat} {xs : Nat → Int32} {ad : Nat → Nat} {E : ES} {S : MS} {o : Nat → Int64} (hc : CX p l e room_1 s m #[Value.ref b] below meth c D cs sa A code 7 RL ret) (hX : va_X b L xs s s.heap ∧ b < s.heap.size ∧ ¬ A b) (hk : k < 512) (h3 : 3 * k + 3 ≤ L) (hL : L ≤ 1536) (I : Inv k n E S) (next : ∀ ad n E S o, Inv (k + 1) n E S → LPc p l e s m below meth c D cs A Q b k (k + 1) 1581 ad n E S o) : LPc p l e s m below meth c D cs A Q b k k 775 ad n E S o := by
  have hl := hc.2.2.2.2.2.2
  have I0 := I
  obtain ⟨h, Y, T, a1, a2, a3, H, M⟩ := I0
  have hn30 := M.2.1.2
  unfold LPc
  obtain ⟨r1, r2, r3, r4⟩ := simR_w (show SimR k n [xIA] E (e_pass n E (xs (3 * k + 1))) (m_pass n S (xs (3 * k + 1))) from s_pass I hk) o
  replace r3 := r3 wcn_2
  have ct : CH l D cs sa yL_pass cL_pass 4 (Option.some Jvm.ClassFile.FieldType.int) [((0 : Nat), (9 : Nat), (12 : Nat), (21 : Nat))] (RM 8 8 64) 8 64 [.ref (ad 0), .int (xs (3 * k + 1)), .ref (ad 32)] (WD ad cs n E S o) (none, some (.int (wres (e_pass n E (xs (3 * k + 1))) [xIA] E o).1), WD ad cs n (wres (e_pass n E (xs (3 * k + 1))) [xIA] E o).2.1 S (wres (e_pass n E (xs (3 * k + 1))) [xIA] E o).2.2) := c_L_pass hl hn30 r1
  clear r1
  generalize wres (e_pass n E (xs (3 * k + 1))) [xIA] E o = W at ct r2 r3 r4
  have cm : CM l D cs sa yX5_pass cX5_pass 4 (Option.some Jvm.ClassFile.FieldType.int) (RM 6 0 0) 0 0 [.ref (ad 15), .int (xs (3 * k + 1))] (WD ad cs n W.2.1 S W.2.2) (none, some (.int (m_pass n S (xs (3 * k + 1))).1), WD ad cs n W.2.1 (m_pass n S (xs (3 * k + 1))).2 W.2.2) := c_X5_pass hl M (by omega) (by omega)
  generalize m_pass n S (xs (3 * k + 1)) = mv at cm r2 r3 r4
  refine j_aload_n hc dL_law_775 rfl ?_
  refine j_aload_n hc dL_law_776 rfl ?_
  refine j_iload hc dL_law_777 rfl ?_
  refine j_iconst hc (v := 1) dL_law_779 (by decide) ?_
  refine j_iadd hc dL_law_780 ?_
  refine j_sld hc hX (nI_1 (3 * k)) (j := 3 * k + 1) ⟨by omega, hL⟩ dL_law_781 ?_
  refine j_aload_n hc dL_law_782 rfl ?_
  refine j_callSH hc (r := (some (.int W.1), WD ad cs n W.2.1 S W.2.2)) ct sh_L_122 rfl ⟨rfl, rfl, by decide, by decide⟩ rfl (Nat.le_of_ble_eq_true rfl) ⟨by show _ ≤ 601024; omega, by show _ ≤ 7293034; omega⟩ dL_law_783 ?_
  refine j_istore hc dL_law_786 rfl ?_
  refine j_aload_n hc dL_law_788 rfl ?_
  refine j_aload_n hc dL_law_789 rfl ?_
  refine j_iload hc dL_law_790 rfl ?_
  refine j_iconst hc (v := 1) dL_law_792 (by decide) ?_
  refine j_iadd hc dL_law_793 ?_
  refine j_sld hc hX (nI_1 (3 * k)) (j := 3 * k + 1) ⟨by omega, hL⟩ dL_law_794 ?_
  refine j_callV' hc cm vc_L_124 rfl ⟨rfl, rfl, by decide, by decide⟩ 15 rfl rfl rfl (Nat.le_of_ble_eq_true rfl) ⟨by show _ ≤ 601024; omega, by show _ ≤ 7293034; omega⟩ dL_law_795 (fun _ h => by cases h) (fun _ => ?_)
  refine j_istore hc dL_law_798 rfl ?_
  refine j_aload_n hc dL_law_800 rfl ?_
  refine j_callV' hc (c_X5_thrown hl) vc_L_92 rfl ⟨rfl, rfl, by decide, by decide⟩ 15 rfl rfl rfl (Nat.le_of_ble_eq_true rfl) ⟨by show _ ≤ 601024; omega, by show _ ≤ 7293034; omega⟩ dL_law_801 (fun _ h => by cases h) (fun _ => ?_)
  refine j_iload hc dL_law_804 rfl ?_
  refine j_icmp_eq hc 811 dL_law_806 (by decide) (fun _ => ?_) (fun h => absurd r2 h)
  refine j_iload hc dL_law_811 rfl ?_
  refine j_if_ne hc 828 dL_law_813 (by decide) (fun _ => ?_) (fun h0 => ?_)
  · -- thrown
    refine j_goto hc 1581 dL_law_828 (by decide) ?_
    refine j_widen (k := 600 + 8 * (k + 1)) (n := 4000 + 64 * (k + 1)) (by omega) (by omega) ?_
    refine j_lv [(0, .ref b), (1, .ref (ad 0)), (2, .ref (ad 15)), (3, .ref (ad 32)), (4, .int (nI (3 * k)))] ⟨rfl, rfl, rfl, rfl, rfl, trivial⟩ ?_
    exact next _ _ _ _ _ r4
  refine j_aload_n hc dL_law_816 rfl ?_
  refine j_iconst hc (v := 0) dL_law_817 (by decide) ?_
  refine al_out hc (vp_in_nI (n := 0) (N := 1) (by decide) (by decide)) dL_law_818 ?_
  refine j_iload hc dL_law_819 rfl ?_
  refine j_i2l hc dL_law_821 ?_
  refine j_lcmp hc dL_law_822 ?_
  refine j_if_eq hc 828 dL_law_823 (by decide) (fun _ => ?_) (fun h => absurd (bl_cmp.mpr (r3 h0)) h)
  refine j_goto hc 1581 dL_law_828 (by decide) ?_
  refine j_widen (k := 600 + 8 * (k + 1)) (n := 4000 + 64 * (k + 1)) (by omega) (by omega) ?_
  refine j_lv [(0, .ref b), (1, .ref (ad 0)), (2, .ref (ad 15)), (3, .ref (ad 32)), (4, .int (nI (3 * k)))] ⟨rfl, rfl, rfl, rfl, rfl, trivial⟩ ?_
  exact next _ _ _ _ _ r4
set_option maxRecDepth 100000 in
set_option maxHeartbeats 4000000 in
theorem op_10 {p : Program} {l : Launch} {e : Env} {s : State} {m : MethodId} {below : List Frame} {meth : Method} {c : Code} {D : va_G} {cs : Nat → ClassId} {sa : Nat → Nat} {A : Nat → Prop} {Q : State → Prop} {b L k n : Nat} {xs : Nat → Int32} {ad : Nat → Nat} {E : ES} {S : MS} {o : Nat → Int64} (hc : CX p l e room_1 s m #[Value.ref b] below meth c D cs sa A code 7 RL ret) (hX : va_X b L xs s s.heap ∧ b < s.heap.size ∧ ¬ A b) (hk : k < 512) (h3 : 3 * k + 3 ≤ L) (hL : L ≤ 1536) (I : Inv k n E S) (next : ∀ ad n E S o, Inv (k + 1) n E S → LPc p l e s m below meth c D cs A Q b k (k + 1) 1581 ad n E S o) : LPc p l e s m below meth c D cs A Q b k k 831 ad n E S o := by
  have hl := hc.2.2.2.2.2.2
  have I0 := I
  obtain ⟨h, Y, T, a1, a2, a3, H, M⟩ := I0
  have hn30 := M.2.1.2
  unfold LPc
  refine j_aload_n hc dL_law_831 rfl ?_
  refine j_callV' hc (c_X4_today hl) vc_L_125 rfl ⟨rfl, rfl, by decide, by decide⟩ 0 rfl rfl rfl (Nat.le_of_ble_eq_true rfl) ⟨by show _ ≤ 601024; omega, by show _ ≤ 7293034; omega⟩ dL_law_832 (fun _ h => by cases h) (fun _ => ?_)
  refine j_aload_n hc dL_law_835 rfl ?_
  refine j_callV' hc (c_X5_today hl) vc_L_128 rfl ⟨rfl, rfl, by decide, by decide⟩ 15 rfl rfl rfl (Nat.le_of_ble_eq_true rfl) ⟨by show _ ≤ 601024; omega, by show _ ≤ 7293034; omega⟩ dL_law_836 (fun _ h => by cases h) (fun _ => ?_)
  refine j_icmp_eq hc 1581 dL_law_839 (by decide) (fun _ => ?_) (fun h => absurd H.1.2.1 h)
  refine j_widen (k := 600 + 8 * (k + 1)) (n := 4000 + 64 * (k + 1)) (by omega) (by omega) ?_
  exact next _ _ _ _ _ (inv_1 I 0)
set_option maxRecDepth 100000 in
set_option maxHeartbeats 4000000 in
theorem op_11 {p : Program} {l : Launch} {e : Env} {s : State} {m : MethodId} {below : List Frame} {meth : Method} {c : Code} {D : va_G} {cs : Nat → ClassId} {sa : Nat → Nat} {A : Nat → Prop} {Q : State → Prop} {b L k n : Nat} {xs : Nat → Int32} {ad : Nat → Nat} {E : ES} {S : MS} {o : Nat → Int64} (hc : CX p l e room_1 s m #[Value.ref b] below meth c D cs sa A code 7 RL ret) (hX : va_X b L xs s s.heap ∧ b < s.heap.size ∧ ¬ A b) (hk : k < 512) (h3 : 3 * k + 3 ≤ L) (hL : L ≤ 1536) (I : Inv k n E S) (next : ∀ ad n E S o, Inv (k + 1) n E S → LPc p l e s m below meth c D cs A Q b k (k + 1) 1581 ad n E S o) : LPc p l e s m below meth c D cs A Q b k k 844 ad n E S o := by
  have hl := hc.2.2.2.2.2.2
  have I0 := I
  obtain ⟨h, Y, T, a1, a2, a3, H, M⟩ := I0
  have hn30 := M.2.1.2
  unfold LPc
  obtain ⟨r1, r2, r3, r4⟩ := simR_z (show SimR k n [xIA] E (e_isCharging E (xs (3 * k + 1))) (m_isCharging S (xs (3 * k + 1))) from s_isCharging I) o
  replace r3 := r3 wcn_2
  have ct : CH l D cs sa yL_isCharging cL_isCharging 4 (Option.some Jvm.ClassFile.FieldType.int) [((0 : Nat), (16 : Nat), (19 : Nat), (21 : Nat))] (RM 8 8 64) 8 64 [.ref (ad 0), .int (xs (3 * k + 1)), .ref (ad 32)] (WD ad cs n E S o) (none, some (.int (wresZ (e_isCharging E (xs (3 * k + 1))) [xIA] E o).1), WD ad cs n (wresZ (e_isCharging E (xs (3 * k + 1))) [xIA] E o).2.1 S (wresZ (e_isCharging E (xs (3 * k + 1))) [xIA] E o).2.2) := c_L_isCharging hl r1
  clear r1
  generalize wresZ (e_isCharging E (xs (3 * k + 1))) [xIA] E o = W at ct r2 r3 r4
  have cm : CM l D cs sa yX5_isCharging cX5_isCharging 2 (Option.some Jvm.ClassFile.FieldType.boolean) (RM 2 0 0) 0 0 [.ref (ad 15), .int (xs (3 * k + 1))] (WD ad cs n W.2.1 S W.2.2) (none, some (.int (m_isCharging S (xs (3 * k + 1))).1), WD ad cs n W.2.1 (m_isCharging S (xs (3 * k + 1))).2 W.2.2) := c_X5_isCharging hl M
  generalize m_isCharging S (xs (3 * k + 1)) = mv at cm r2 r3 r4
  refine j_aload_n hc dL_law_844 rfl ?_
  refine j_aload_n hc dL_law_845 rfl ?_
  refine j_iload hc dL_law_846 rfl ?_
  refine j_iconst hc (v := 1) dL_law_848 (by decide) ?_
  refine j_iadd hc dL_law_849 ?_
  refine j_sld hc hX (nI_1 (3 * k)) (j := 3 * k + 1) ⟨by omega, hL⟩ dL_law_850 ?_
  refine j_aload_n hc dL_law_851 rfl ?_
  refine j_callSH hc (r := (some (.int W.1), WD ad cs n W.2.1 S W.2.2)) ct sh_L_129 rfl ⟨rfl, rfl, by decide, by decide⟩ rfl (Nat.le_of_ble_eq_true rfl) ⟨by show _ ≤ 601024; omega, by show _ ≤ 7293034; omega⟩ dL_law_852 ?_
  refine j_istore hc dL_law_855 rfl ?_
  refine j_aload_n hc dL_law_857 rfl ?_
  refine j_aload_n hc dL_law_858 rfl ?_
  refine j_iload hc dL_law_859 rfl ?_
  refine j_iconst hc (v := 1) dL_law_861 (by decide) ?_
  refine j_iadd hc dL_law_862 ?_
  refine j_sld hc hX (nI_1 (3 * k)) (j := 3 * k + 1) ⟨by omega, hL⟩ dL_law_863 ?_
  refine j_callV' hc cm vc_L_131 rfl ⟨rfl, rfl, by decide, by decide⟩ 15 rfl rfl rfl (Nat.le_of_ble_eq_true rfl) ⟨by show _ ≤ 601024; omega, by show _ ≤ 7293034; omega⟩ dL_law_864 (fun _ h => by cases h) (fun _ => ?_)
  refine j_istore hc dL_law_867 rfl ?_
  refine j_aload_n hc dL_law_869 rfl ?_
  refine j_callV' hc (c_X5_thrown hl) vc_L_92 rfl ⟨rfl, rfl, by decide, by decide⟩ 15 rfl rfl rfl (Nat.le_of_ble_eq_true rfl) ⟨by show _ ≤ 601024; omega, by show _ ≤ 7293034; omega⟩ dL_law_870 (fun _ h => by cases h) (fun _ => ?_)
  refine j_iload hc dL_law_873 rfl ?_
  refine j_icmp_eq hc 880 dL_law_875 (by decide) (fun _ => ?_) (fun h => absurd r2 h)
  refine j_iload hc dL_law_880 rfl ?_
  refine j_if_ne hc 904 dL_law_882 (by decide) (fun _ => ?_) (fun h0 => ?_)
  · -- thrown
    refine j_goto hc 1581 dL_law_904 (by decide) ?_
    refine j_widen (k := 600 + 8 * (k + 1)) (n := 4000 + 64 * (k + 1)) (by omega) (by omega) ?_
    refine j_lv [(0, .ref b), (1, .ref (ad 0)), (2, .ref (ad 15)), (3, .ref (ad 32)), (4, .int (nI (3 * k)))] ⟨rfl, rfl, rfl, rfl, rfl, trivial⟩ ?_
    exact next _ _ _ _ _ r4
  refine j_aload_n hc dL_law_885 rfl ?_
  refine j_iconst hc (v := 0) dL_law_886 (by decide) ?_
  refine al_out hc (vp_in_nI (n := 0) (N := 1) (by decide) (by decide)) dL_law_887 ?_
  refine j_iload hc dL_law_888 rfl ?_
  refine j_if_eq hc 897 dL_law_890 (by decide) (fun hq => ?_) (fun hq => ?_)
  · -- no
    refine j_lconst hc (v := 0) dL_law_897 (by decide) ?_
    refine j_lcmp hc dL_law_898 ?_
    refine j_if_eq hc 904 dL_law_899 (by decide) (fun _ => ?_) (fun h => absurd (bl_cmp.mpr ((r3 h0).trans (if_pos hq))) h)
    refine j_goto hc 1581 dL_law_904 (by decide) ?_
    refine j_widen (k := 600 + 8 * (k + 1)) (n := 4000 + 64 * (k + 1)) (by omega) (by omega) ?_
    refine j_lv [(0, .ref b), (1, .ref (ad 0)), (2, .ref (ad 15)), (3, .ref (ad 32)), (4, .int (nI (3 * k)))] ⟨rfl, rfl, rfl, rfl, rfl, trivial⟩ ?_
    exact next _ _ _ _ _ r4
  · -- yes
    refine j_lconst hc (v := 1) dL_law_893 (by decide) ?_
    refine j_goto hc 898 dL_law_894 (by decide) ?_
    refine j_lcmp hc dL_law_898 ?_
    refine j_if_eq hc 904 dL_law_899 (by decide) (fun _ => ?_) (fun h => absurd (bl_cmp.mpr ((r3 h0).trans (if_neg hq))) h)
    refine j_goto hc 1581 dL_law_904 (by decide) ?_
    refine j_widen (k := 600 + 8 * (k + 1)) (n := 4000 + 64 * (k + 1)) (by omega) (by omega) ?_
    refine j_lv [(0, .ref b), (1, .ref (ad 0)), (2, .ref (ad 15)), (3, .ref (ad 32)), (4, .int (nI (3 * k)))] ⟨rfl, rfl, rfl, rfl, rfl, trivial⟩ ?_
    exact next _ _ _ _ _ r4
set_option maxRecDepth 100000 in
set_option maxHeartbeats 4000000 in
theorem op_12 {p : Program} {l : Launch} {e : Env} {s : State} {m : MethodId} {below : List Frame} {meth : Method} {c : Code} {D : va_G} {cs : Nat → ClassId} {sa : Nat → Nat} {A : Nat → Prop} {Q : State → Prop} {b L k n : Nat} {xs : Nat → Int32} {ad : Nat → Nat} {E : ES} {S : MS} {o : Nat → Int64} (hc : CX p l e room_1 s m #[Value.ref b] below meth c D cs sa A code 7 RL ret) (hX : va_X b L xs s s.heap ∧ b < s.heap.size ∧ ¬ A b) (hk : k < 512) (h3 : 3 * k + 3 ≤ L) (hL : L ≤ 1536) (I : Inv k n E S) (next : ∀ ad n E S o, Inv (k + 1) n E S → LPc p l e s m below meth c D cs A Q b k (k + 1) 1581 ad n E S o) : LPc p l e s m below meth c D cs A Q b k k 907 ad n E S o := by
  have hl := hc.2.2.2.2.2.2
  have I0 := I
  obtain ⟨h, Y, T, a1, a2, a3, H, M⟩ := I0
  have hn30 := M.2.1.2
  unfold LPc
  refine j_aload_n hc dL_law_907 rfl ?_
  refine j_callV' hc (c_X4_bills hl) vc_L_132 rfl ⟨rfl, rfl, by decide, by decide⟩ 0 rfl rfl rfl (Nat.le_of_ble_eq_true rfl) ⟨by show _ ≤ 601024; omega, by show _ ≤ 7293034; omega⟩ dL_law_908 (fun _ h => by cases h) (fun _ => ?_)
  refine j_aload_n hc dL_law_911 rfl ?_
  refine j_callV' hc (c_X5_bills hl) vc_L_135 rfl ⟨rfl, rfl, by decide, by decide⟩ 15 rfl rfl rfl (Nat.le_of_ble_eq_true rfl) ⟨by show _ ≤ 601024; omega, by show _ ≤ 7293034; omega⟩ dL_law_912 (fun _ h => by cases h) (fun _ => ?_)
  refine j_icmp_eq hc 1581 dL_law_915 (by decide) (fun _ => ?_) (fun h => absurd H.1.1 h)
  refine j_widen (k := 600 + 8 * (k + 1)) (n := 4000 + 64 * (k + 1)) (by omega) (by omega) ?_
  exact next _ _ _ _ _ (inv_1 I 0)
set_option maxRecDepth 100000 in
set_option maxHeartbeats 4000000 in
theorem op_13 {p : Program} {l : Launch} {e : Env} {s : State} {m : MethodId} {below : List Frame} {meth : Method} {c : Code} {D : va_G} {cs : Nat → ClassId} {sa : Nat → Nat} {A : Nat → Prop} {Q : State → Prop} {b L k n : Nat} {xs : Nat → Int32} {ad : Nat → Nat} {E : ES} {S : MS} {o : Nat → Int64} (hc : CX p l e room_1 s m #[Value.ref b] below meth c D cs sa A code 7 RL ret) (hX : va_X b L xs s s.heap ∧ b < s.heap.size ∧ ¬ A b) (hk : k < 512) (h3 : 3 * k + 3 ≤ L) (hL : L ≤ 1536) (I : Inv k n E S) (next : ∀ ad n E S o, Inv (k + 1) n E S → LPc p l e s m below meth c D cs A Q b k (k + 1) 1581 ad n E S o) : LPc p l e s m below meth c D cs A Q b k k 920 ad n E S o := by
  have hl := hc.2.2.2.2.2.2
  have I0 := I
  obtain ⟨h, Y, T, a1, a2, a3, H, M⟩ := I0
  have hn30 := M.2.1.2
  unfold LPc
  obtain ⟨r1, r2, r3, r4⟩ := simR_w (show SimR k n [xIO] E (e_bf n E 4 (xs (3 * k + 1))) (m_bf S 12 (xs (3 * k + 1))) from s_stateOf I) o
  replace r3 := r3 wcn_1
  have ct : CH l D cs sa yL_stateOf cL_stateOf 4 (Option.some Jvm.ClassFile.FieldType.int) [((0 : Nat), (9 : Nat), (12 : Nat), (13 : Nat))] (RM 8 8 64) 8 64 [.ref (ad 0), .int (xs (3 * k + 1)), .ref (ad 32)] (WD ad cs n E S o) (none, some (.int (wres (e_bf n E 4 (xs (3 * k + 1))) [xIO] E o).1), WD ad cs n (wres (e_bf n E 4 (xs (3 * k + 1))) [xIO] E o).2.1 S (wres (e_bf n E 4 (xs (3 * k + 1))) [xIO] E o).2.2) := c_L_stateOf hl hn30 r1
  clear r1
  generalize wres (e_bf n E 4 (xs (3 * k + 1))) [xIO] E o = W at ct r2 r3 r4
  have cm : CM l D cs sa yX5_stateOf cX5_stateOf 2 (Option.some Jvm.ClassFile.FieldType.int) (RM 2 0 0) 0 0 [.ref (ad 15), .int (xs (3 * k + 1))] (WD ad cs n W.2.1 S W.2.2) (none, some (.int (m_bf S 12 (xs (3 * k + 1))).1), WD ad cs n W.2.1 (m_bf S 12 (xs (3 * k + 1))).2 W.2.2) := c_X5_stateOf hl M
  generalize m_bf S 12 (xs (3 * k + 1)) = mv at cm r2 r3 r4
  refine j_aload_n hc dL_law_920 rfl ?_
  refine j_aload_n hc dL_law_921 rfl ?_
  refine j_iload hc dL_law_922 rfl ?_
  refine j_iconst hc (v := 1) dL_law_924 (by decide) ?_
  refine j_iadd hc dL_law_925 ?_
  refine j_sld hc hX (nI_1 (3 * k)) (j := 3 * k + 1) ⟨by omega, hL⟩ dL_law_926 ?_
  refine j_aload_n hc dL_law_927 rfl ?_
  refine j_callSH hc (r := (some (.int W.1), WD ad cs n W.2.1 S W.2.2)) ct sh_L_136 rfl ⟨rfl, rfl, by decide, by decide⟩ rfl (Nat.le_of_ble_eq_true rfl) ⟨by show _ ≤ 601024; omega, by show _ ≤ 7293034; omega⟩ dL_law_928 ?_
  refine j_istore hc dL_law_931 rfl ?_
  refine j_aload_n hc dL_law_933 rfl ?_
  refine j_aload_n hc dL_law_934 rfl ?_
  refine j_iload hc dL_law_935 rfl ?_
  refine j_iconst hc (v := 1) dL_law_937 (by decide) ?_
  refine j_iadd hc dL_law_938 ?_
  refine j_sld hc hX (nI_1 (3 * k)) (j := 3 * k + 1) ⟨by omega, hL⟩ dL_law_939 ?_
  refine j_callV' hc cm vc_L_138 rfl ⟨rfl, rfl, by decide, by decide⟩ 15 rfl rfl rfl (Nat.le_of_ble_eq_true rfl) ⟨by show _ ≤ 601024; omega, by show _ ≤ 7293034; omega⟩ dL_law_940 (fun _ h => by cases h) (fun _ => ?_)
  refine j_istore hc dL_law_943 rfl ?_
  refine j_aload_n hc dL_law_945 rfl ?_
  refine j_callV' hc (c_X5_thrown hl) vc_L_92 rfl ⟨rfl, rfl, by decide, by decide⟩ 15 rfl rfl rfl (Nat.le_of_ble_eq_true rfl) ⟨by show _ ≤ 601024; omega, by show _ ≤ 7293034; omega⟩ dL_law_946 (fun _ h => by cases h) (fun _ => ?_)
  refine j_iload hc dL_law_949 rfl ?_
  refine j_icmp_eq hc 956 dL_law_951 (by decide) (fun _ => ?_) (fun h => absurd r2 h)
  refine j_iload hc dL_law_956 rfl ?_
  refine j_if_ne hc 973 dL_law_958 (by decide) (fun _ => ?_) (fun h0 => ?_)
  · -- thrown
    refine j_goto hc 1581 dL_law_973 (by decide) ?_
    refine j_widen (k := 600 + 8 * (k + 1)) (n := 4000 + 64 * (k + 1)) (by omega) (by omega) ?_
    refine j_lv [(0, .ref b), (1, .ref (ad 0)), (2, .ref (ad 15)), (3, .ref (ad 32)), (4, .int (nI (3 * k)))] ⟨rfl, rfl, rfl, rfl, rfl, trivial⟩ ?_
    exact next _ _ _ _ _ r4
  refine j_aload_n hc dL_law_961 rfl ?_
  refine j_iconst hc (v := 0) dL_law_962 (by decide) ?_
  refine al_out hc (vp_in_nI (n := 0) (N := 1) (by decide) (by decide)) dL_law_963 ?_
  refine j_iload hc dL_law_964 rfl ?_
  refine j_i2l hc dL_law_966 ?_
  refine j_lcmp hc dL_law_967 ?_
  refine j_if_eq hc 973 dL_law_968 (by decide) (fun _ => ?_) (fun h => absurd (bl_cmp.mpr (r3 h0)) h)
  refine j_goto hc 1581 dL_law_973 (by decide) ?_
  refine j_widen (k := 600 + 8 * (k + 1)) (n := 4000 + 64 * (k + 1)) (by omega) (by omega) ?_
  refine j_lv [(0, .ref b), (1, .ref (ad 0)), (2, .ref (ad 15)), (3, .ref (ad 32)), (4, .int (nI (3 * k)))] ⟨rfl, rfl, rfl, rfl, rfl, trivial⟩ ?_
  exact next _ _ _ _ _ r4
set_option maxRecDepth 100000 in
set_option maxHeartbeats 4000000 in
theorem op_14 {p : Program} {l : Launch} {e : Env} {s : State} {m : MethodId} {below : List Frame} {meth : Method} {c : Code} {D : va_G} {cs : Nat → ClassId} {sa : Nat → Nat} {A : Nat → Prop} {Q : State → Prop} {b L k n : Nat} {xs : Nat → Int32} {ad : Nat → Nat} {E : ES} {S : MS} {o : Nat → Int64} (hc : CX p l e room_1 s m #[Value.ref b] below meth c D cs sa A code 7 RL ret) (hX : va_X b L xs s s.heap ∧ b < s.heap.size ∧ ¬ A b) (hk : k < 512) (h3 : 3 * k + 3 ≤ L) (hL : L ≤ 1536) (I : Inv k n E S) (next : ∀ ad n E S o, Inv (k + 1) n E S → LPc p l e s m below meth c D cs A Q b k (k + 1) 1581 ad n E S o) : LPc p l e s m below meth c D cs A Q b k k 976 ad n E S o := by
  have hl := hc.2.2.2.2.2.2
  have I0 := I
  obtain ⟨h, Y, T, a1, a2, a3, H, M⟩ := I0
  have hn30 := M.2.1.2
  unfold LPc
  obtain ⟨r1, r2, r3, r4⟩ := simR_w (show SimR k n [xIO] E (e_bf n E 3 (xs (3 * k + 1))) (m_bf S 11 (xs (3 * k + 1))) from s_left I) o
  replace r3 := r3 wcn_1
  have ct : CH l D cs sa yL_left cL_left 4 (Option.some Jvm.ClassFile.FieldType.int) [((0 : Nat), (9 : Nat), (12 : Nat), (13 : Nat))] (RM 8 8 64) 8 64 [.ref (ad 0), .int (xs (3 * k + 1)), .ref (ad 32)] (WD ad cs n E S o) (none, some (.int (wres (e_bf n E 3 (xs (3 * k + 1))) [xIO] E o).1), WD ad cs n (wres (e_bf n E 3 (xs (3 * k + 1))) [xIO] E o).2.1 S (wres (e_bf n E 3 (xs (3 * k + 1))) [xIO] E o).2.2) := c_L_left hl hn30 r1
  clear r1
  generalize wres (e_bf n E 3 (xs (3 * k + 1))) [xIO] E o = W at ct r2 r3 r4
  have cm : CM l D cs sa yX5_left cX5_left 2 (Option.some Jvm.ClassFile.FieldType.int) (RM 2 0 0) 0 0 [.ref (ad 15), .int (xs (3 * k + 1))] (WD ad cs n W.2.1 S W.2.2) (none, some (.int (m_bf S 11 (xs (3 * k + 1))).1), WD ad cs n W.2.1 (m_bf S 11 (xs (3 * k + 1))).2 W.2.2) := c_X5_left hl M
  generalize m_bf S 11 (xs (3 * k + 1)) = mv at cm r2 r3 r4
  refine j_aload_n hc dL_law_976 rfl ?_
  refine j_aload_n hc dL_law_977 rfl ?_
  refine j_iload hc dL_law_978 rfl ?_
  refine j_iconst hc (v := 1) dL_law_980 (by decide) ?_
  refine j_iadd hc dL_law_981 ?_
  refine j_sld hc hX (nI_1 (3 * k)) (j := 3 * k + 1) ⟨by omega, hL⟩ dL_law_982 ?_
  refine j_aload_n hc dL_law_983 rfl ?_
  refine j_callSH hc (r := (some (.int W.1), WD ad cs n W.2.1 S W.2.2)) ct sh_L_139 rfl ⟨rfl, rfl, by decide, by decide⟩ rfl (Nat.le_of_ble_eq_true rfl) ⟨by show _ ≤ 601024; omega, by show _ ≤ 7293034; omega⟩ dL_law_984 ?_
  refine j_istore hc dL_law_987 rfl ?_
  refine j_aload_n hc dL_law_989 rfl ?_
  refine j_aload_n hc dL_law_990 rfl ?_
  refine j_iload hc dL_law_991 rfl ?_
  refine j_iconst hc (v := 1) dL_law_993 (by decide) ?_
  refine j_iadd hc dL_law_994 ?_
  refine j_sld hc hX (nI_1 (3 * k)) (j := 3 * k + 1) ⟨by omega, hL⟩ dL_law_995 ?_
  refine j_callV' hc cm vc_L_141 rfl ⟨rfl, rfl, by decide, by decide⟩ 15 rfl rfl rfl (Nat.le_of_ble_eq_true rfl) ⟨by show _ ≤ 601024; omega, by show _ ≤ 7293034; omega⟩ dL_law_996 (fun _ h => by cases h) (fun _ => ?_)
  refine j_istore hc dL_law_999 rfl ?_
  refine j_aload_n hc dL_law_1001 rfl ?_
  refine j_callV' hc (c_X5_thrown hl) vc_L_92 rfl ⟨rfl, rfl, by decide, by decide⟩ 15 rfl rfl rfl (Nat.le_of_ble_eq_true rfl) ⟨by show _ ≤ 601024; omega, by show _ ≤ 7293034; omega⟩ dL_law_1002 (fun _ h => by cases h) (fun _ => ?_)
  refine j_iload hc dL_law_1005 rfl ?_
  refine j_icmp_eq hc 1012 dL_law_1007 (by decide) (fun _ => ?_) (fun h => absurd r2 h)
  refine j_iload hc dL_law_1012 rfl ?_
  refine j_if_ne hc 1029 dL_law_1014 (by decide) (fun _ => ?_) (fun h0 => ?_)
  · -- thrown
    refine j_goto hc 1581 dL_law_1029 (by decide) ?_
    refine j_widen (k := 600 + 8 * (k + 1)) (n := 4000 + 64 * (k + 1)) (by omega) (by omega) ?_
    refine j_lv [(0, .ref b), (1, .ref (ad 0)), (2, .ref (ad 15)), (3, .ref (ad 32)), (4, .int (nI (3 * k)))] ⟨rfl, rfl, rfl, rfl, rfl, trivial⟩ ?_
    exact next _ _ _ _ _ r4
  refine j_aload_n hc dL_law_1017 rfl ?_
  refine j_iconst hc (v := 0) dL_law_1018 (by decide) ?_
  refine al_out hc (vp_in_nI (n := 0) (N := 1) (by decide) (by decide)) dL_law_1019 ?_
  refine j_iload hc dL_law_1020 rfl ?_
  refine j_i2l hc dL_law_1022 ?_
  refine j_lcmp hc dL_law_1023 ?_
  refine j_if_eq hc 1029 dL_law_1024 (by decide) (fun _ => ?_) (fun h => absurd (bl_cmp.mpr (r3 h0)) h)
  refine j_goto hc 1581 dL_law_1029 (by decide) ?_
  refine j_widen (k := 600 + 8 * (k + 1)) (n := 4000 + 64 * (k + 1)) (by omega) (by omega) ?_
  refine j_lv [(0, .ref b), (1, .ref (ad 0)), (2, .ref (ad 15)), (3, .ref (ad 32)), (4, .int (nI (3 * k)))] ⟨rfl, rfl, rfl, rfl, rfl, trivial⟩ ?_
  exact next _ _ _ _ _ r4
set_option maxRecDepth 100000 in
set_option maxHeartbeats 4000000 in
theorem op_15 {p : Program} {l : Launch} {e : Env} {s : State} {m : MethodId} {below : List Frame} {meth : Method} {c : Code} {D : va_G} {cs : Nat → ClassId} {sa : Nat → Nat} {A : Nat → Prop} {Q : State → Prop} {b L k n : Nat} {xs : Nat → Int32} {ad : Nat → Nat} {E : ES} {S : MS} {o : Nat → Int64} (hc : CX p l e room_1 s m #[Value.ref b] below meth c D cs sa A code 7 RL ret) (hX : va_X b L xs s s.heap ∧ b < s.heap.size ∧ ¬ A b) (hk : k < 512) (h3 : 3 * k + 3 ≤ L) (hL : L ≤ 1536) (I : Inv k n E S) (next : ∀ ad n E S o, Inv (k + 1) n E S → LPc p l e s m below meth c D cs A Q b k (k + 1) 1581 ad n E S o) : LPc p l e s m below meth c D cs A Q b k k 1032 ad n E S o := by
  have hl := hc.2.2.2.2.2.2
  have I0 := I
  obtain ⟨h, Y, T, a1, a2, a3, H, M⟩ := I0
  have hn30 := M.2.1.2
  unfold LPc
  obtain ⟨r1, r2, r3, r4⟩ := simR_w (show SimR k n [xIO] E (e_bf n E 6 (xs (3 * k + 1))) (m_bf S 14 (xs (3 * k + 1))) from s_tries I) o
  replace r3 := r3 wcn_1
  have ct : CH l D cs sa yL_tries cL_tries 4 (Option.some Jvm.ClassFile.FieldType.int) [((0 : Nat), (9 : Nat), (12 : Nat), (13 : Nat))] (RM 8 8 64) 8 64 [.ref (ad 0), .int (xs (3 * k + 1)), .ref (ad 32)] (WD ad cs n E S o) (none, some (.int (wres (e_bf n E 6 (xs (3 * k + 1))) [xIO] E o).1), WD ad cs n (wres (e_bf n E 6 (xs (3 * k + 1))) [xIO] E o).2.1 S (wres (e_bf n E 6 (xs (3 * k + 1))) [xIO] E o).2.2) := c_L_tries hl hn30 r1
  clear r1
  generalize wres (e_bf n E 6 (xs (3 * k + 1))) [xIO] E o = W at ct r2 r3 r4
  have cm : CM l D cs sa yX5_tries cX5_tries 2 (Option.some Jvm.ClassFile.FieldType.int) (RM 2 0 0) 0 0 [.ref (ad 15), .int (xs (3 * k + 1))] (WD ad cs n W.2.1 S W.2.2) (none, some (.int (m_bf S 14 (xs (3 * k + 1))).1), WD ad cs n W.2.1 (m_bf S 14 (xs (3 * k + 1))).2 W.2.2) := c_X5_tries hl M
  generalize m_bf S 14 (xs (3 * k + 1)) = mv at cm r2 r3 r4
  refine j_aload_n hc dL_law_1032 rfl ?_
  refine j_aload_n hc dL_law_1033 rfl ?_
  refine j_iload hc dL_law_1034 rfl ?_
  refine j_iconst hc (v := 1) dL_law_1036 (by decide) ?_
  refine j_iadd hc dL_law_1037 ?_
  refine j_sld hc hX (nI_1 (3 * k)) (j := 3 * k + 1) ⟨by omega, hL⟩ dL_law_1038 ?_
  refine j_aload_n hc dL_law_1039 rfl ?_
  refine j_callSH hc (r := (some (.int W.1), WD ad cs n W.2.1 S W.2.2)) ct sh_L_142 rfl ⟨rfl, rfl, by decide, by decide⟩ rfl (Nat.le_of_ble_eq_true rfl) ⟨by show _ ≤ 601024; omega, by show _ ≤ 7293034; omega⟩ dL_law_1040 ?_
  refine j_istore hc dL_law_1043 rfl ?_
  refine j_aload_n hc dL_law_1045 rfl ?_
  refine j_aload_n hc dL_law_1046 rfl ?_
  refine j_iload hc dL_law_1047 rfl ?_
  refine j_iconst hc (v := 1) dL_law_1049 (by decide) ?_
  refine j_iadd hc dL_law_1050 ?_
  refine j_sld hc hX (nI_1 (3 * k)) (j := 3 * k + 1) ⟨by omega, hL⟩ dL_law_1051 ?_
  refine j_callV' hc cm vc_L_144 rfl ⟨rfl, rfl, by decide, by decide⟩ 15 rfl rfl rfl (Nat.le_of_ble_eq_true rfl) ⟨by show _ ≤ 601024; omega, by show _ ≤ 7293034; omega⟩ dL_law_1052 (fun _ h => by cases h) (fun _ => ?_)
  refine j_istore hc dL_law_1055 rfl ?_
  refine j_aload_n hc dL_law_1057 rfl ?_
  refine j_callV' hc (c_X5_thrown hl) vc_L_92 rfl ⟨rfl, rfl, by decide, by decide⟩ 15 rfl rfl rfl (Nat.le_of_ble_eq_true rfl) ⟨by show _ ≤ 601024; omega, by show _ ≤ 7293034; omega⟩ dL_law_1058 (fun _ h => by cases h) (fun _ => ?_)
  refine j_iload hc dL_law_1061 rfl ?_
  refine j_icmp_eq hc 1068 dL_law_1063 (by decide) (fun _ => ?_) (fun h => absurd r2 h)
  refine j_iload hc dL_law_1068 rfl ?_
  refine j_if_ne hc 1085 dL_law_1070 (by decide) (fun _ => ?_) (fun h0 => ?_)
  · -- thrown
    refine j_goto hc 1581 dL_law_1085 (by decide) ?_
    refine j_widen (k := 600 + 8 * (k + 1)) (n := 4000 + 64 * (k + 1)) (by omega) (by omega) ?_
    refine j_lv [(0, .ref b), (1, .ref (ad 0)), (2, .ref (ad 15)), (3, .ref (ad 32)), (4, .int (nI (3 * k)))] ⟨rfl, rfl, rfl, rfl, rfl, trivial⟩ ?_
    exact next _ _ _ _ _ r4
  refine j_aload_n hc dL_law_1073 rfl ?_
  refine j_iconst hc (v := 0) dL_law_1074 (by decide) ?_
  refine al_out hc (vp_in_nI (n := 0) (N := 1) (by decide) (by decide)) dL_law_1075 ?_
  refine j_iload hc dL_law_1076 rfl ?_
  refine j_i2l hc dL_law_1078 ?_
  refine j_lcmp hc dL_law_1079 ?_
  refine j_if_eq hc 1085 dL_law_1080 (by decide) (fun _ => ?_) (fun h => absurd (bl_cmp.mpr (r3 h0)) h)
  refine j_goto hc 1581 dL_law_1085 (by decide) ?_
  refine j_widen (k := 600 + 8 * (k + 1)) (n := 4000 + 64 * (k + 1)) (by omega) (by omega) ?_
  refine j_lv [(0, .ref b), (1, .ref (ad 0)), (2, .ref (ad 15)), (3, .ref (ad 32)), (4, .int (nI (3 * k)))] ⟨rfl, rfl, rfl, rfl, rfl, trivial⟩ ?_
  exact next _ _ _ _ _ r4
set_option maxRecDepth 100000 in
set_option maxHeartbeats 4000000 in
theorem op_16 {p : Program} {l : Launch} {e : Env} {s : State} {m : MethodId} {below : List Frame} {meth : Method} {c : Code} {D : va_G} {cs : Nat → ClassId} {sa : Nat → Nat} {A : Nat → Prop} {Q : State → Prop} {b L k n : Nat} {xs : Nat → Int32} {ad : Nat → Nat} {E : ES} {S : MS} {o : Nat → Int64} (hc : CX p l e room_1 s m #[Value.ref b] below meth c D cs sa A code 7 RL ret) (hX : va_X b L xs s s.heap ∧ b < s.heap.size ∧ ¬ A b) (hk : k < 512) (h3 : 3 * k + 3 ≤ L) (hL : L ≤ 1536) (I : Inv k n E S) (next : ∀ ad n E S o, Inv (k + 1) n E S → LPc p l e s m below meth c D cs A Q b k (k + 1) 1581 ad n E S o) : LPc p l e s m below meth c D cs A Q b k k 1088 ad n E S o := by
  have hl := hc.2.2.2.2.2.2
  have I0 := I
  obtain ⟨h, Y, T, a1, a2, a3, H, M⟩ := I0
  have hn30 := M.2.1.2
  unfold LPc
  obtain ⟨r1, r2, r3, r4⟩ := simR_w (show SimR k n [xIO] E (e_failures n E (xs (3 * k + 1)) (xs (3 * k + 2))) (m_failures S (xs (3 * k + 1)) (xs (3 * k + 2))) from s_failures I) o
  replace r3 := r3 wcn_1
  have ct : CH l D cs sa yL_failures cL_failures 5 (Option.some Jvm.ClassFile.FieldType.int) [((0 : Nat), (10 : Nat), (13 : Nat), (13 : Nat))] (RM 8 8 64) 8 64 [.ref (ad 0), .int (xs (3 * k + 1)), .int (xs (3 * k + 2)), .ref (ad 32)] (WD ad cs n E S o) (none, some (.int (wres (e_failures n E (xs (3 * k + 1)) (xs (3 * k + 2))) [xIO] E o).1), WD ad cs n (wres (e_failures n E (xs (3 * k + 1)) (xs (3 * k + 2))) [xIO] E o).2.1 S (wres (e_failures n E (xs (3 * k + 1)) (xs (3 * k + 2))) [xIO] E o).2.2) := c_L_failures hl hn30 r1
  clear r1
  generalize wres (e_failures n E (xs (3 * k + 1)) (xs (3 * k + 2))) [xIO] E o = W at ct r2 r3 r4
  have cm : CM l D cs sa yX5_failures cX5_failures 3 (Option.some Jvm.ClassFile.FieldType.int) (RM 2 0 0) 0 0 [.ref (ad 15), .int (xs (3 * k + 1)), .int (xs (3 * k + 2))] (WD ad cs n W.2.1 S W.2.2) (none, some (.int (m_failures S (xs (3 * k + 1)) (xs (3 * k + 2))).1), WD ad cs n W.2.1 (m_failures S (xs (3 * k + 1)) (xs (3 * k + 2))).2 W.2.2) := c_X5_failures hl M
  generalize m_failures S (xs (3 * k + 1)) (xs (3 * k + 2)) = mv at cm r2 r3 r4
  refine j_aload_n hc dL_law_1088 rfl ?_
  refine j_aload_n hc dL_law_1089 rfl ?_
  refine j_iload hc dL_law_1090 rfl ?_
  refine j_iconst hc (v := 1) dL_law_1092 (by decide) ?_
  refine j_iadd hc dL_law_1093 ?_
  refine j_sld hc hX (nI_1 (3 * k)) (j := 3 * k + 1) ⟨by omega, hL⟩ dL_law_1094 ?_
  refine j_aload_n hc dL_law_1095 rfl ?_
  refine j_iload hc dL_law_1096 rfl ?_
  refine j_iconst hc (v := 2) dL_law_1098 (by decide) ?_
  refine j_iadd hc dL_law_1099 ?_
  refine j_sld hc hX (nI_2 (3 * k)) (j := 3 * k + 2) ⟨by omega, hL⟩ dL_law_1100 ?_
  refine j_aload_n hc dL_law_1101 rfl ?_
  refine j_callSH hc (r := (some (.int W.1), WD ad cs n W.2.1 S W.2.2)) ct sh_L_145 rfl ⟨rfl, rfl, by decide, by decide⟩ rfl (Nat.le_of_ble_eq_true rfl) ⟨by show _ ≤ 601024; omega, by show _ ≤ 7293034; omega⟩ dL_law_1102 ?_
  refine j_istore hc dL_law_1105 rfl ?_
  refine j_aload_n hc dL_law_1107 rfl ?_
  refine j_aload_n hc dL_law_1108 rfl ?_
  refine j_iload hc dL_law_1109 rfl ?_
  refine j_iconst hc (v := 1) dL_law_1111 (by decide) ?_
  refine j_iadd hc dL_law_1112 ?_
  refine j_sld hc hX (nI_1 (3 * k)) (j := 3 * k + 1) ⟨by omega, hL⟩ dL_law_1113 ?_
  refine j_aload_n hc dL_law_1114 rfl ?_
  refine j_iload hc dL_law_1115 rfl ?_
  refine j_iconst hc (v := 2) dL_law_1117 (by decide) ?_
  refine j_iadd hc dL_law_1118 ?_
  refine j_sld hc hX (nI_2 (3 * k)) (j := 3 * k + 2) ⟨by omega, hL⟩ dL_law_1119 ?_
  refine j_callV' hc cm vc_L_147 rfl ⟨rfl, rfl, by decide, by decide⟩ 15 rfl rfl rfl (Nat.le_of_ble_eq_true rfl) ⟨by show _ ≤ 601024; omega, by show _ ≤ 7293034; omega⟩ dL_law_1120 (fun _ h => by cases h) (fun _ => ?_)
  refine j_istore hc dL_law_1123 rfl ?_
  refine j_aload_n hc dL_law_1125 rfl ?_
  refine j_callV' hc (c_X5_thrown hl) vc_L_92 rfl ⟨rfl, rfl, by decide, by decide⟩ 15 rfl rfl rfl (Nat.le_of_ble_eq_true rfl) ⟨by show _ ≤ 601024; omega, by show _ ≤ 7293034; omega⟩ dL_law_1126 (fun _ h => by cases h) (fun _ => ?_)
  refine j_iload hc dL_law_1129 rfl ?_
  refine j_icmp_eq hc 1136 dL_law_1131 (by decide) (fun _ => ?_) (fun h => absurd r2 h)
  refine j_iload hc dL_law_1136 rfl ?_
  refine j_if_ne hc 1153 dL_law_1138 (by decide) (fun _ => ?_) (fun h0 => ?_)
  · -- thrown
    refine j_goto hc 1581 dL_law_1153 (by decide) ?_
    refine j_widen (k := 600 + 8 * (k + 1)) (n := 4000 + 64 * (k + 1)) (by omega) (by omega) ?_
    refine j_lv [(0, .ref b), (1, .ref (ad 0)), (2, .ref (ad 15)), (3, .ref (ad 32)), (4, .int (nI (3 * k)))] ⟨rfl, rfl, rfl, rfl, rfl, trivial⟩ ?_
    exact next _ _ _ _ _ r4
  refine j_aload_n hc dL_law_1141 rfl ?_
  refine j_iconst hc (v := 0) dL_law_1142 (by decide) ?_
  refine al_out hc (vp_in_nI (n := 0) (N := 1) (by decide) (by decide)) dL_law_1143 ?_
  refine j_iload hc dL_law_1144 rfl ?_
  refine j_i2l hc dL_law_1146 ?_
  refine j_lcmp hc dL_law_1147 ?_
  refine j_if_eq hc 1153 dL_law_1148 (by decide) (fun _ => ?_) (fun h => absurd (bl_cmp.mpr (r3 h0)) h)
  refine j_goto hc 1581 dL_law_1153 (by decide) ?_
  refine j_widen (k := 600 + 8 * (k + 1)) (n := 4000 + 64 * (k + 1)) (by omega) (by omega) ?_
  refine j_lv [(0, .ref b), (1, .ref (ad 0)), (2, .ref (ad 15)), (3, .ref (ad 32)), (4, .int (nI (3 * k)))] ⟨rfl, rfl, rfl, rfl, rfl, trivial⟩ ?_
  exact next _ _ _ _ _ r4
set_option maxRecDepth 100000 in
set_option maxHeartbeats 4000000 in
theorem op_17 {p : Program} {l : Launch} {e : Env} {s : State} {m : MethodId} {below : List Frame} {meth : Method} {c : Code} {D : va_G} {cs : Nat → ClassId} {sa : Nat → Nat} {A : Nat → Prop} {Q : State → Prop} {b L k n : Nat} {xs : Nat → Int32} {ad : Nat → Nat} {E : ES} {S : MS} {o : Nat → Int64} (hc : CX p l e room_1 s m #[Value.ref b] below meth c D cs sa A code 7 RL ret) (hX : va_X b L xs s s.heap ∧ b < s.heap.size ∧ ¬ A b) (hk : k < 512) (h3 : 3 * k + 3 ≤ L) (hL : L ≤ 1536) (I : Inv k n E S) (next : ∀ ad n E S o, Inv (k + 1) n E S → LPc p l e s m below meth c D cs A Q b k (k + 1) 1581 ad n E S o) : LPc p l e s m below meth c D cs A Q b k k 1156 ad n E S o := by
  have hl := hc.2.2.2.2.2.2
  have I0 := I
  obtain ⟨h, Y, T, a1, a2, a3, H, M⟩ := I0
  have hn30 := M.2.1.2
  unfold LPc
  obtain ⟨r1, r2, r3, r4⟩ := simR_w (show SimR k n [xIO] E (e_bf n E 5 (xs (3 * k + 1))) (m_waitsFor S (xs (3 * k + 1))) from s_waitsFor I) o
  replace r3 := r3 wcn_1
  have ct : CH l D cs sa yL_waitsFor cL_waitsFor 4 (Option.some Jvm.ClassFile.FieldType.int) [((0 : Nat), (9 : Nat), (12 : Nat), (13 : Nat))] (RM 8 8 64) 8 64 [.ref (ad 0), .int (xs (3 * k + 1)), .ref (ad 32)] (WD ad cs n E S o) (none, some (.int (wres (e_bf n E 5 (xs (3 * k + 1))) [xIO] E o).1), WD ad cs n (wres (e_bf n E 5 (xs (3 * k + 1))) [xIO] E o).2.1 S (wres (e_bf n E 5 (xs (3 * k + 1))) [xIO] E o).2.2) := c_L_waitsFor hl hn30 r1
  clear r1
  generalize wres (e_bf n E 5 (xs (3 * k + 1))) [xIO] E o = W at ct r2 r3 r4
  have cm : CM l D cs sa yX5_waitsFor cX5_waitsFor 2 (Option.some Jvm.ClassFile.FieldType.int) (RM 2 0 0) 0 0 [.ref (ad 15), .int (xs (3 * k + 1))] (WD ad cs n W.2.1 S W.2.2) (none, some (.int (m_waitsFor S (xs (3 * k + 1))).1), WD ad cs n W.2.1 (m_waitsFor S (xs (3 * k + 1))).2 W.2.2) := c_X5_waitsFor hl M
  generalize m_waitsFor S (xs (3 * k + 1)) = mv at cm r2 r3 r4
  refine j_aload_n hc dL_law_1156 rfl ?_
  refine j_aload_n hc dL_law_1157 rfl ?_
  refine j_iload hc dL_law_1158 rfl ?_
  refine j_iconst hc (v := 1) dL_law_1160 (by decide) ?_
  refine j_iadd hc dL_law_1161 ?_
  refine j_sld hc hX (nI_1 (3 * k)) (j := 3 * k + 1) ⟨by omega, hL⟩ dL_law_1162 ?_
  refine j_aload_n hc dL_law_1163 rfl ?_
  refine j_callSH hc (r := (some (.int W.1), WD ad cs n W.2.1 S W.2.2)) ct sh_L_148 rfl ⟨rfl, rfl, by decide, by decide⟩ rfl (Nat.le_of_ble_eq_true rfl) ⟨by show _ ≤ 601024; omega, by show _ ≤ 7293034; omega⟩ dL_law_1164 ?_
  refine j_istore hc dL_law_1167 rfl ?_
  refine j_aload_n hc dL_law_1169 rfl ?_
  refine j_aload_n hc dL_law_1170 rfl ?_
  refine j_iload hc dL_law_1171 rfl ?_
  refine j_iconst hc (v := 1) dL_law_1173 (by decide) ?_
  refine j_iadd hc dL_law_1174 ?_
  refine j_sld hc hX (nI_1 (3 * k)) (j := 3 * k + 1) ⟨by omega, hL⟩ dL_law_1175 ?_
  refine j_callV' hc cm vc_L_150 rfl ⟨rfl, rfl, by decide, by decide⟩ 15 rfl rfl rfl (Nat.le_of_ble_eq_true rfl) ⟨by show _ ≤ 601024; omega, by show _ ≤ 7293034; omega⟩ dL_law_1176 (fun _ h => by cases h) (fun _ => ?_)
  refine j_istore hc dL_law_1179 rfl ?_
  refine j_aload_n hc dL_law_1181 rfl ?_
  refine j_callV' hc (c_X5_thrown hl) vc_L_92 rfl ⟨rfl, rfl, by decide, by decide⟩ 15 rfl rfl rfl (Nat.le_of_ble_eq_true rfl) ⟨by show _ ≤ 601024; omega, by show _ ≤ 7293034; omega⟩ dL_law_1182 (fun _ h => by cases h) (fun _ => ?_)
  refine j_iload hc dL_law_1185 rfl ?_
  refine j_icmp_eq hc 1192 dL_law_1187 (by decide) (fun _ => ?_) (fun h => absurd r2 h)
  refine j_iload hc dL_law_1192 rfl ?_
  refine j_if_ne hc 1209 dL_law_1194 (by decide) (fun _ => ?_) (fun h0 => ?_)
  · -- thrown
    refine j_goto hc 1581 dL_law_1209 (by decide) ?_
    refine j_widen (k := 600 + 8 * (k + 1)) (n := 4000 + 64 * (k + 1)) (by omega) (by omega) ?_
    refine j_lv [(0, .ref b), (1, .ref (ad 0)), (2, .ref (ad 15)), (3, .ref (ad 32)), (4, .int (nI (3 * k)))] ⟨rfl, rfl, rfl, rfl, rfl, trivial⟩ ?_
    exact next _ _ _ _ _ r4
  refine j_aload_n hc dL_law_1197 rfl ?_
  refine j_iconst hc (v := 0) dL_law_1198 (by decide) ?_
  refine al_out hc (vp_in_nI (n := 0) (N := 1) (by decide) (by decide)) dL_law_1199 ?_
  refine j_iload hc dL_law_1200 rfl ?_
  refine j_i2l hc dL_law_1202 ?_
  refine j_lcmp hc dL_law_1203 ?_
  refine j_if_eq hc 1209 dL_law_1204 (by decide) (fun _ => ?_) (fun h => absurd (bl_cmp.mpr (r3 h0)) h)
  refine j_goto hc 1581 dL_law_1209 (by decide) ?_
  refine j_widen (k := 600 + 8 * (k + 1)) (n := 4000 + 64 * (k + 1)) (by omega) (by omega) ?_
  refine j_lv [(0, .ref b), (1, .ref (ad 0)), (2, .ref (ad 15)), (3, .ref (ad 32)), (4, .int (nI (3 * k)))] ⟨rfl, rfl, rfl, rfl, rfl, trivial⟩ ?_
  exact next _ _ _ _ _ r4
set_option maxRecDepth 100000 in
set_option maxHeartbeats 4000000 in
theorem op_18 {p : Program} {l : Launch} {e : Env} {s : State} {m : MethodId} {below : List Frame} {meth : Method} {c : Code} {D : va_G} {cs : Nat → ClassId} {sa : Nat → Nat} {A : Nat → Prop} {Q : State → Prop} {b L k n : Nat} {xs : Nat → Int32} {ad : Nat → Nat} {E : ES} {S : MS} {o : Nat → Int64} (hc : CX p l e room_1 s m #[Value.ref b] below meth c D cs sa A code 7 RL ret) (hX : va_X b L xs s s.heap ∧ b < s.heap.size ∧ ¬ A b) (hk : k < 512) (h3 : 3 * k + 3 ≤ L) (hL : L ≤ 1536) (I : Inv k n E S) (next : ∀ ad n E S o, Inv (k + 1) n E S → LPc p l e s m below meth c D cs A Q b k (k + 1) 1581 ad n E S o) : LPc p l e s m below meth c D cs A Q b k k 1212 ad n E S o := by
  have hl := hc.2.2.2.2.2.2
  have I0 := I
  obtain ⟨h, Y, T, a1, a2, a3, H, M⟩ := I0
  have hn30 := M.2.1.2
  unfold LPc
  obtain ⟨r1, r2, r3, r4⟩ := simR_w (show SimR k n [xIO] E (e_bf n E 8 (xs (3 * k + 1))) (m_bf S 17 (xs (3 * k + 1))) from s_broken I) o
  replace r3 := r3 wcn_1
  have ct : CH l D cs sa yL_broken cL_broken 4 (Option.some Jvm.ClassFile.FieldType.int) [((0 : Nat), (9 : Nat), (12 : Nat), (13 : Nat))] (RM 8 8 64) 8 64 [.ref (ad 0), .int (xs (3 * k + 1)), .ref (ad 32)] (WD ad cs n E S o) (none, some (.int (wres (e_bf n E 8 (xs (3 * k + 1))) [xIO] E o).1), WD ad cs n (wres (e_bf n E 8 (xs (3 * k + 1))) [xIO] E o).2.1 S (wres (e_bf n E 8 (xs (3 * k + 1))) [xIO] E o).2.2) := c_L_broken hl hn30 r1
  clear r1
  generalize wres (e_bf n E 8 (xs (3 * k + 1))) [xIO] E o = W at ct r2 r3 r4
  have cm : CM l D cs sa yX5_broken cX5_broken 2 (Option.some Jvm.ClassFile.FieldType.int) (RM 2 0 0) 0 0 [.ref (ad 15), .int (xs (3 * k + 1))] (WD ad cs n W.2.1 S W.2.2) (none, some (.int (m_bf S 17 (xs (3 * k + 1))).1), WD ad cs n W.2.1 (m_bf S 17 (xs (3 * k + 1))).2 W.2.2) := c_X5_broken hl M
  generalize m_bf S 17 (xs (3 * k + 1)) = mv at cm r2 r3 r4
  refine j_aload_n hc dL_law_1212 rfl ?_
  refine j_aload_n hc dL_law_1213 rfl ?_
  refine j_iload hc dL_law_1214 rfl ?_
  refine j_iconst hc (v := 1) dL_law_1216 (by decide) ?_
  refine j_iadd hc dL_law_1217 ?_
  refine j_sld hc hX (nI_1 (3 * k)) (j := 3 * k + 1) ⟨by omega, hL⟩ dL_law_1218 ?_
  refine j_aload_n hc dL_law_1219 rfl ?_
  refine j_callSH hc (r := (some (.int W.1), WD ad cs n W.2.1 S W.2.2)) ct sh_L_151 rfl ⟨rfl, rfl, by decide, by decide⟩ rfl (Nat.le_of_ble_eq_true rfl) ⟨by show _ ≤ 601024; omega, by show _ ≤ 7293034; omega⟩ dL_law_1220 ?_
  refine j_istore hc dL_law_1223 rfl ?_
  refine j_aload_n hc dL_law_1225 rfl ?_
  refine j_aload_n hc dL_law_1226 rfl ?_
  refine j_iload hc dL_law_1227 rfl ?_
  refine j_iconst hc (v := 1) dL_law_1229 (by decide) ?_
  refine j_iadd hc dL_law_1230 ?_
  refine j_sld hc hX (nI_1 (3 * k)) (j := 3 * k + 1) ⟨by omega, hL⟩ dL_law_1231 ?_
  refine j_callV' hc cm vc_L_153 rfl ⟨rfl, rfl, by decide, by decide⟩ 15 rfl rfl rfl (Nat.le_of_ble_eq_true rfl) ⟨by show _ ≤ 601024; omega, by show _ ≤ 7293034; omega⟩ dL_law_1232 (fun _ h => by cases h) (fun _ => ?_)
  refine j_istore hc dL_law_1235 rfl ?_
  refine j_aload_n hc dL_law_1237 rfl ?_
  refine j_callV' hc (c_X5_thrown hl) vc_L_92 rfl ⟨rfl, rfl, by decide, by decide⟩ 15 rfl rfl rfl (Nat.le_of_ble_eq_true rfl) ⟨by show _ ≤ 601024; omega, by show _ ≤ 7293034; omega⟩ dL_law_1238 (fun _ h => by cases h) (fun _ => ?_)
  refine j_iload hc dL_law_1241 rfl ?_
  refine j_icmp_eq hc 1248 dL_law_1243 (by decide) (fun _ => ?_) (fun h => absurd r2 h)
  refine j_iload hc dL_law_1248 rfl ?_
  refine j_if_ne hc 1265 dL_law_1250 (by decide) (fun _ => ?_) (fun h0 => ?_)
  · -- thrown
    refine j_goto hc 1581 dL_law_1265 (by decide) ?_
    refine j_widen (k := 600 + 8 * (k + 1)) (n := 4000 + 64 * (k + 1)) (by omega) (by omega) ?_
    refine j_lv [(0, .ref b), (1, .ref (ad 0)), (2, .ref (ad 15)), (3, .ref (ad 32)), (4, .int (nI (3 * k)))] ⟨rfl, rfl, rfl, rfl, rfl, trivial⟩ ?_
    exact next _ _ _ _ _ r4
  refine j_aload_n hc dL_law_1253 rfl ?_
  refine j_iconst hc (v := 0) dL_law_1254 (by decide) ?_
  refine al_out hc (vp_in_nI (n := 0) (N := 1) (by decide) (by decide)) dL_law_1255 ?_
  refine j_iload hc dL_law_1256 rfl ?_
  refine j_i2l hc dL_law_1258 ?_
  refine j_lcmp hc dL_law_1259 ?_
  refine j_if_eq hc 1265 dL_law_1260 (by decide) (fun _ => ?_) (fun h => absurd (bl_cmp.mpr (r3 h0)) h)
  refine j_goto hc 1581 dL_law_1265 (by decide) ?_
  refine j_widen (k := 600 + 8 * (k + 1)) (n := 4000 + 64 * (k + 1)) (by omega) (by omega) ?_
  refine j_lv [(0, .ref b), (1, .ref (ad 0)), (2, .ref (ad 15)), (3, .ref (ad 32)), (4, .int (nI (3 * k)))] ⟨rfl, rfl, rfl, rfl, rfl, trivial⟩ ?_
  exact next _ _ _ _ _ r4
set_option maxRecDepth 100000 in
set_option maxHeartbeats 4000000 in
theorem op_19 {p : Program} {l : Launch} {e : Env} {s : State} {m : MethodId} {below : List Frame} {meth : Method} {c : Code} {D : va_G} {cs : Nat → ClassId} {sa : Nat → Nat} {A : Nat → Prop} {Q : State → Prop} {b L k n : Nat} {xs : Nat → Int32} {ad : Nat → Nat} {E : ES} {S : MS} {o : Nat → Int64} (hc : CX p l e room_1 s m #[Value.ref b] below meth c D cs sa A code 7 RL ret) (hX : va_X b L xs s s.heap ∧ b < s.heap.size ∧ ¬ A b) (hk : k < 512) (h3 : 3 * k + 3 ≤ L) (hL : L ≤ 1536) (I : Inv k n E S) (next : ∀ ad n E S o, Inv (k + 1) n E S → LPc p l e s m below meth c D cs A Q b k (k + 1) 1581 ad n E S o) : LPc p l e s m below meth c D cs A Q b k k 1268 ad n E S o := by
  have hl := hc.2.2.2.2.2.2
  have I0 := I
  obtain ⟨h, Y, T, a1, a2, a3, H, M⟩ := I0
  have hn30 := M.2.1.2
  unfold LPc
  obtain ⟨r1, r2, r3, r4⟩ := simR_w (show SimR k n [xIO] E (e_service n E (xs (3 * k + 1))) (m_service n S (xs (3 * k + 1))) from s_service I) o
  replace r3 := r3 wcn_1
  have ct : CH l D cs sa yL_service cL_service 4 (Option.some Jvm.ClassFile.FieldType.int) [((0 : Nat), (9 : Nat), (12 : Nat), (13 : Nat))] (RM 8 8 64) 8 64 [.ref (ad 0), .int (xs (3 * k + 1)), .ref (ad 32)] (WD ad cs n E S o) (none, some (.int (wres (e_service n E (xs (3 * k + 1))) [xIO] E o).1), WD ad cs n (wres (e_service n E (xs (3 * k + 1))) [xIO] E o).2.1 S (wres (e_service n E (xs (3 * k + 1))) [xIO] E o).2.2) := c_L_service hl hn30 r1
  clear r1
  generalize wres (e_service n E (xs (3 * k + 1))) [xIO] E o = W at ct r2 r3 r4
  have cm : CM l D cs sa yX5_service cX5_service 7 (Option.some Jvm.ClassFile.FieldType.int) (RM 1 0 0) 0 0 [.ref (ad 15), .int (xs (3 * k + 1))] (WD ad cs n W.2.1 S W.2.2) (none, some (.int (m_service n S (xs (3 * k + 1))).1), WD ad cs n W.2.1 (m_service n S (xs (3 * k + 1))).2 W.2.2) := c_X5_service hl M
  generalize m_service n S (xs (3 * k + 1)) = mv at cm r2 r3 r4
  refine j_aload_n hc dL_law_1268 rfl ?_
  refine j_aload_n hc dL_law_1269 rfl ?_
  refine j_iload hc dL_law_1270 rfl ?_
  refine j_iconst hc (v := 1) dL_law_1272 (by decide) ?_
  refine j_iadd hc dL_law_1273 ?_
  refine j_sld hc hX (nI_1 (3 * k)) (j := 3 * k + 1) ⟨by omega, hL⟩ dL_law_1274 ?_
  refine j_aload_n hc dL_law_1275 rfl ?_
  refine j_callSH hc (r := (some (.int W.1), WD ad cs n W.2.1 S W.2.2)) ct sh_L_154 rfl ⟨rfl, rfl, by decide, by decide⟩ rfl (Nat.le_of_ble_eq_true rfl) ⟨by show _ ≤ 601024; omega, by show _ ≤ 7293034; omega⟩ dL_law_1276 ?_
  refine j_istore hc dL_law_1279 rfl ?_
  refine j_aload_n hc dL_law_1281 rfl ?_
  refine j_aload_n hc dL_law_1282 rfl ?_
  refine j_iload hc dL_law_1283 rfl ?_
  refine j_iconst hc (v := 1) dL_law_1285 (by decide) ?_
  refine j_iadd hc dL_law_1286 ?_
  refine j_sld hc hX (nI_1 (3 * k)) (j := 3 * k + 1) ⟨by omega, hL⟩ dL_law_1287 ?_
  refine j_callV' hc cm vc_L_156 rfl ⟨rfl, rfl, by decide, by decide⟩ 15 rfl rfl rfl (Nat.le_of_ble_eq_true rfl) ⟨by show _ ≤ 601024; omega, by show _ ≤ 7293034; omega⟩ dL_law_1288 (fun _ h => by cases h) (fun _ => ?_)
  refine j_istore hc dL_law_1291 rfl ?_
  refine j_aload_n hc dL_law_1293 rfl ?_
  refine j_callV' hc (c_X5_thrown hl) vc_L_92 rfl ⟨rfl, rfl, by decide, by decide⟩ 15 rfl rfl rfl (Nat.le_of_ble_eq_true rfl) ⟨by show _ ≤ 601024; omega, by show _ ≤ 7293034; omega⟩ dL_law_1294 (fun _ h => by cases h) (fun _ => ?_)
  refine j_iload hc dL_law_1297 rfl ?_
  refine j_icmp_eq hc 1304 dL_law_1299 (by decide) (fun _ => ?_) (fun h => absurd r2 h)
  refine j_iload hc dL_law_1304 rfl ?_
  refine j_if_ne hc 1321 dL_law_1306 (by decide) (fun _ => ?_) (fun h0 => ?_)
  · -- thrown
    refine j_goto hc 1581 dL_law_1321 (by decide) ?_
    refine j_widen (k := 600 + 8 * (k + 1)) (n := 4000 + 64 * (k + 1)) (by omega) (by omega) ?_
    refine j_lv [(0, .ref b), (1, .ref (ad 0)), (2, .ref (ad 15)), (3, .ref (ad 32)), (4, .int (nI (3 * k)))] ⟨rfl, rfl, rfl, rfl, rfl, trivial⟩ ?_
    exact next _ _ _ _ _ r4
  refine j_aload_n hc dL_law_1309 rfl ?_
  refine j_iconst hc (v := 0) dL_law_1310 (by decide) ?_
  refine al_out hc (vp_in_nI (n := 0) (N := 1) (by decide) (by decide)) dL_law_1311 ?_
  refine j_iload hc dL_law_1312 rfl ?_
  refine j_i2l hc dL_law_1314 ?_
  refine j_lcmp hc dL_law_1315 ?_
  refine j_if_eq hc 1321 dL_law_1316 (by decide) (fun _ => ?_) (fun h => absurd (bl_cmp.mpr (r3 h0)) h)
  refine j_goto hc 1581 dL_law_1321 (by decide) ?_
  refine j_widen (k := 600 + 8 * (k + 1)) (n := 4000 + 64 * (k + 1)) (by omega) (by omega) ?_
  refine j_lv [(0, .ref b), (1, .ref (ad 0)), (2, .ref (ad 15)), (3, .ref (ad 32)), (4, .int (nI (3 * k)))] ⟨rfl, rfl, rfl, rfl, rfl, trivial⟩ ?_
  exact next _ _ _ _ _ r4
set_option maxRecDepth 100000 in
set_option maxHeartbeats 4000000 in
theorem op_20 {p : Program} {l : Launch} {e : Env} {s : State} {m : MethodId} {below : List Frame} {meth : Method} {c : Code} {D : va_G} {cs : Nat → ClassId} {sa : Nat → Nat} {A : Nat → Prop} {Q : State → Prop} {b L k n : Nat} {xs : Nat → Int32} {ad : Nat → Nat} {E : ES} {S : MS} {o : Nat → Int64} (hc : CX p l e room_1 s m #[Value.ref b] below meth c D cs sa A code 7 RL ret) (hX : va_X b L xs s s.heap ∧ b < s.heap.size ∧ ¬ A b) (hk : k < 512) (h3 : 3 * k + 3 ≤ L) (hL : L ≤ 1536) (I : Inv k n E S) (next : ∀ ad n E S o, Inv (k + 1) n E S → LPc p l e s m below meth c D cs A Q b k (k + 1) 1581 ad n E S o) : LPc p l e s m below meth c D cs A Q b k k 1324 ad n E S o := by
  have hl := hc.2.2.2.2.2.2
  have I0 := I
  obtain ⟨h, Y, T, a1, a2, a3, H, M⟩ := I0
  have hn30 := M.2.1.2
  unfold LPc
  refine j_aload_n hc dL_law_1324 rfl ?_
  refine j_callV' hc (c_X4_billed hl) vc_L_157 rfl ⟨rfl, rfl, by decide, by decide⟩ 0 rfl rfl rfl (Nat.le_of_ble_eq_true rfl) ⟨by show _ ≤ 601024; omega, by show _ ≤ 7293034; omega⟩ dL_law_1325 (fun _ h => by cases h) (fun _ => ?_)
  refine j_aload_n hc dL_law_1328 rfl ?_
  refine j_callV' hc (c_X5_billed hl M) vc_L_160 rfl ⟨rfl, rfl, by decide, by decide⟩ 15 rfl rfl rfl (Nat.le_of_ble_eq_true rfl) ⟨by show _ ≤ 601024; omega, by show _ ≤ 7293034; omega⟩ dL_law_1329 (fun _ h => by cases h) (fun _ => ?_)
  refine j_icmp_eq hc 1581 dL_law_1332 (by decide) (fun _ => ?_) (fun h => absurd (H.1.2.2.2.2.1.trans (m_bl_eq (mG S 25 0) n 0 0).symm) h)
  refine j_widen (k := 600 + 8 * (k + 1)) (n := 4000 + 64 * (k + 1)) (by omega) (by omega) ?_
  exact next _ _ _ _ _ (inv_1 I 0)
set_option maxRecDepth 100000 in
set_option maxHeartbeats 4000000 in
theorem op_21 {p : Program} {l : Launch} {e : Env} {s : State} {m : MethodId} {below : List Frame} {meth : Method} {c : Code} {D : va_G} {cs : Nat → ClassId} {sa : Nat → Nat} {A : Nat → Prop} {Q : State → Prop} {b L k n : Nat} {xs : Nat → Int32} {ad : Nat → Nat} {E : ES} {S : MS} {o : Nat → Int64} (hc : CX p l e room_1 s m #[Value.ref b] below meth c D cs sa A code 7 RL ret) (hX : va_X b L xs s s.heap ∧ b < s.heap.size ∧ ¬ A b) (hk : k < 512) (h3 : 3 * k + 3 ≤ L) (hL : L ≤ 1536) (I : Inv k n E S) (next : ∀ ad n E S o, Inv (k + 1) n E S → LPc p l e s m below meth c D cs A Q b k (k + 1) 1581 ad n E S o) : LPc p l e s m below meth c D cs A Q b k k 1337 ad n E S o := by
  have hl := hc.2.2.2.2.2.2
  have I0 := I
  obtain ⟨h, Y, T, a1, a2, a3, H, M⟩ := I0
  have hn30 := M.2.1.2
  unfold LPc
  refine j_aload_n hc dL_law_1337 rfl ?_
  refine j_callV' hc (c_X4_paid hl) vc_L_161 rfl ⟨rfl, rfl, by decide, by decide⟩ 0 rfl rfl rfl (Nat.le_of_ble_eq_true rfl) ⟨by show _ ≤ 601024; omega, by show _ ≤ 7293034; omega⟩ dL_law_1338 (fun _ h => by cases h) (fun _ => ?_)
  refine j_aload_n hc dL_law_1341 rfl ?_
  refine j_callV' hc (c_X5_paid hl) vc_L_164 rfl ⟨rfl, rfl, by decide, by decide⟩ 15 rfl rfl rfl (Nat.le_of_ble_eq_true rfl) ⟨by show _ ≤ 601024; omega, by show _ ≤ 7293034; omega⟩ dL_law_1342 (fun _ h => by cases h) (fun _ => ?_)
  refine j_icmp_eq hc 1581 dL_law_1345 (by decide) (fun _ => ?_) (fun h => absurd H.1.2.2.2.2.2.1 h)
  refine j_widen (k := 600 + 8 * (k + 1)) (n := 4000 + 64 * (k + 1)) (by omega) (by omega) ?_
  exact next _ _ _ _ _ (inv_1 I 0)
set_option maxRecDepth 100000 in
set_option maxHeartbeats 4000000 in
theorem op_22 {p : Program} {l : Launch} {e : Env} {s : State} {m : MethodId} {below : List Frame} {meth : Method} {c : Code} {D : va_G} {cs : Nat → ClassId} {sa : Nat → Nat} {A : Nat → Prop} {Q : State → Prop} {b L k n : Nat} {xs : Nat → Int32} {ad : Nat → Nat} {E : ES} {S : MS} {o : Nat → Int64} (hc : CX p l e room_1 s m #[Value.ref b] below meth c D cs sa A code 7 RL ret) (hX : va_X b L xs s s.heap ∧ b < s.heap.size ∧ ¬ A b) (hk : k < 512) (h3 : 3 * k + 3 ≤ L) (hL : L ≤ 1536) (I : Inv k n E S) (next : ∀ ad n E S o, Inv (k + 1) n E S → LPc p l e s m below meth c D cs A Q b k (k + 1) 1581 ad n E S o) : LPc p l e s m below meth c D cs A Q b k k 1350 ad n E S o := by
  have hl := hc.2.2.2.2.2.2
  have I0 := I
  obtain ⟨h, Y, T, a1, a2, a3, H, M⟩ := I0
  have hn30 := M.2.1.2
  unfold LPc
  refine j_aload_n hc dL_law_1350 rfl ?_
  refine j_callV' hc (c_X4_writtenOff hl) vc_L_165 rfl ⟨rfl, rfl, by decide, by decide⟩ 0 rfl rfl rfl (Nat.le_of_ble_eq_true rfl) ⟨by show _ ≤ 601024; omega, by show _ ≤ 7293034; omega⟩ dL_law_1351 (fun _ h => by cases h) (fun _ => ?_)
  refine j_aload_n hc dL_law_1354 rfl ?_
  refine j_callV' hc (c_X5_writtenOff hl) vc_L_168 rfl ⟨rfl, rfl, by decide, by decide⟩ 15 rfl rfl rfl (Nat.le_of_ble_eq_true rfl) ⟨by show _ ≤ 601024; omega, by show _ ≤ 7293034; omega⟩ dL_law_1355 (fun _ h => by cases h) (fun _ => ?_)
  refine j_icmp_eq hc 1581 dL_law_1358 (by decide) (fun _ => ?_) (fun h => absurd H.1.2.2.2.2.2.2.1 h)
  refine j_widen (k := 600 + 8 * (k + 1)) (n := 4000 + 64 * (k + 1)) (by omega) (by omega) ?_
  exact next _ _ _ _ _ (inv_1 I 0)
set_option maxRecDepth 100000 in
set_option maxHeartbeats 4000000 in
theorem op_23 {p : Program} {l : Launch} {e : Env} {s : State} {m : MethodId} {below : List Frame} {meth : Method} {c : Code} {D : va_G} {cs : Nat → ClassId} {sa : Nat → Nat} {A : Nat → Prop} {Q : State → Prop} {b L k n : Nat} {xs : Nat → Int32} {ad : Nat → Nat} {E : ES} {S : MS} {o : Nat → Int64} (hc : CX p l e room_1 s m #[Value.ref b] below meth c D cs sa A code 7 RL ret) (hX : va_X b L xs s s.heap ∧ b < s.heap.size ∧ ¬ A b) (hk : k < 512) (h3 : 3 * k + 3 ≤ L) (hL : L ≤ 1536) (I : Inv k n E S) (next : ∀ ad n E S o, Inv (k + 1) n E S → LPc p l e s m below meth c D cs A Q b k (k + 1) 1581 ad n E S o) : LPc p l e s m below meth c D cs A Q b k k 1363 ad n E S o := by
  have hl := hc.2.2.2.2.2.2
  have I0 := I
  obtain ⟨h, Y, T, a1, a2, a3, H, M⟩ := I0
  have hn30 := M.2.1.2
  unfold LPc
  refine j_aload_n hc dL_law_1363 rfl ?_
  refine j_callV' hc (c_X4_broughtBack hl) vc_L_169 rfl ⟨rfl, rfl, by decide, by decide⟩ 0 rfl rfl rfl (Nat.le_of_ble_eq_true rfl) ⟨by show _ ≤ 601024; omega, by show _ ≤ 7293034; omega⟩ dL_law_1364 (fun _ h => by cases h) (fun _ => ?_)
  refine j_aload_n hc dL_law_1367 rfl ?_
  refine j_callV' hc (c_X5_broughtBack hl) vc_L_172 rfl ⟨rfl, rfl, by decide, by decide⟩ 15 rfl rfl rfl (Nat.le_of_ble_eq_true rfl) ⟨by show _ ≤ 601024; omega, by show _ ≤ 7293034; omega⟩ dL_law_1368 (fun _ h => by cases h) (fun _ => ?_)
  refine j_icmp_eq hc 1581 dL_law_1371 (by decide) (fun _ => ?_) (fun h => absurd H.1.2.2.2.2.2.2.2.1 h)
  refine j_widen (k := 600 + 8 * (k + 1)) (n := 4000 + 64 * (k + 1)) (by omega) (by omega) ?_
  exact next _ _ _ _ _ (inv_1 I 0)
set_option maxRecDepth 100000 in
set_option maxHeartbeats 4000000 in
theorem op_24 {p : Program} {l : Launch} {e : Env} {s : State} {m : MethodId} {below : List Frame} {meth : Method} {c : Code} {D : va_G} {cs : Nat → ClassId} {sa : Nat → Nat} {A : Nat → Prop} {Q : State → Prop} {b L k n : Nat} {xs : Nat → Int32} {ad : Nat → Nat} {E : ES} {S : MS} {o : Nat → Int64} (hc : CX p l e room_1 s m #[Value.ref b] below meth c D cs sa A code 7 RL ret) (hX : va_X b L xs s s.heap ∧ b < s.heap.size ∧ ¬ A b) (hk : k < 512) (h3 : 3 * k + 3 ≤ L) (hL : L ≤ 1536) (I : Inv k n E S) (next : ∀ ad n E S o, Inv (k + 1) n E S → LPc p l e s m below meth c D cs A Q b k (k + 1) 1581 ad n E S o) : LPc p l e s m below meth c D cs A Q b k k 1376 ad n E S o := by
  have hl := hc.2.2.2.2.2.2
  have I0 := I
  obtain ⟨h, Y, T, a1, a2, a3, H, M⟩ := I0
  have hn30 := M.2.1.2
  unfold LPc
  obtain ⟨r1, r2, r3, r4⟩ := simR_w (show SimR k n [xIO, xIA] E (e_leftIn n E (xs (3 * k + 1)) (xs (3 * k + 2))) (m_leftIn n S (xs (3 * k + 1)) (xs (3 * k + 2))) from s_leftIn I) o
  replace r3 := r3 wcn_4
  have ct : CH l D cs sa yL_leftIn cL_leftIn 5 (Option.some Jvm.ClassFile.FieldType.int) [((0 : Nat), (10 : Nat), (13 : Nat), (13 : Nat)), ((0 : Nat), (10 : Nat), (17 : Nat), (21 : Nat))] (RM 8 8 64) 8 64 [.ref (ad 0), .int (xs (3 * k + 1)), .int (xs (3 * k + 2)), .ref (ad 32)] (WD ad cs n E S o) (none, some (.int (wres (e_leftIn n E (xs (3 * k + 1)) (xs (3 * k + 2))) [xIO, xIA] E o).1), WD ad cs n (wres (e_leftIn n E (xs (3 * k + 1)) (xs (3 * k + 2))) [xIO, xIA] E o).2.1 S (wres (e_leftIn n E (xs (3 * k + 1)) (xs (3 * k + 2))) [xIO, xIA] E o).2.2) := c_L_leftIn hl hn30 r1
  clear r1
  generalize wres (e_leftIn n E (xs (3 * k + 1)) (xs (3 * k + 2))) [xIO, xIA] E o = W at ct r2 r3 r4
  have cm : CM l D cs sa yX5_leftIn cX5_leftIn 5 (Option.some Jvm.ClassFile.FieldType.int) (RM 1 0 0) 0 0 [.ref (ad 15), .int (xs (3 * k + 1)), .int (xs (3 * k + 2))] (WD ad cs n W.2.1 S W.2.2) (none, some (.int (m_leftIn n S (xs (3 * k + 1)) (xs (3 * k + 2))).1), WD ad cs n W.2.1 (m_leftIn n S (xs (3 * k + 1)) (xs (3 * k + 2))).2 W.2.2) := c_X5_leftIn hl M
  generalize m_leftIn n S (xs (3 * k + 1)) (xs (3 * k + 2)) = mv at cm r2 r3 r4
  refine j_aload_n hc dL_law_1376 rfl ?_
  refine j_aload_n hc dL_law_1377 rfl ?_
  refine j_iload hc dL_law_1378 rfl ?_
  refine j_iconst hc (v := 1) dL_law_1380 (by decide) ?_
  refine j_iadd hc dL_law_1381 ?_
  refine j_sld hc hX (nI_1 (3 * k)) (j := 3 * k + 1) ⟨by omega, hL⟩ dL_law_1382 ?_
  refine j_aload_n hc dL_law_1383 rfl ?_
  refine j_iload hc dL_law_1384 rfl ?_
  refine j_iconst hc (v := 2) dL_law_1386 (by decide) ?_
  refine j_iadd hc dL_law_1387 ?_
  refine j_sld hc hX (nI_2 (3 * k)) (j := 3 * k + 2) ⟨by omega, hL⟩ dL_law_1388 ?_
  refine j_aload_n hc dL_law_1389 rfl ?_
  refine j_callSH hc (r := (some (.int W.1), WD ad cs n W.2.1 S W.2.2)) ct sh_L_173 rfl ⟨rfl, rfl, by decide, by decide⟩ rfl (Nat.le_of_ble_eq_true rfl) ⟨by show _ ≤ 601024; omega, by show _ ≤ 7293034; omega⟩ dL_law_1390 ?_
  refine j_istore hc dL_law_1393 rfl ?_
  refine j_aload_n hc dL_law_1395 rfl ?_
  refine j_aload_n hc dL_law_1396 rfl ?_
  refine j_iload hc dL_law_1397 rfl ?_
  refine j_iconst hc (v := 1) dL_law_1399 (by decide) ?_
  refine j_iadd hc dL_law_1400 ?_
  refine j_sld hc hX (nI_1 (3 * k)) (j := 3 * k + 1) ⟨by omega, hL⟩ dL_law_1401 ?_
  refine j_aload_n hc dL_law_1402 rfl ?_
  refine j_iload hc dL_law_1403 rfl ?_
  refine j_iconst hc (v := 2) dL_law_1405 (by decide) ?_
  refine j_iadd hc dL_law_1406 ?_
  refine j_sld hc hX (nI_2 (3 * k)) (j := 3 * k + 2) ⟨by omega, hL⟩ dL_law_1407 ?_
  refine j_callV' hc cm vc_L_175 rfl ⟨rfl, rfl, by decide, by decide⟩ 15 rfl rfl rfl (Nat.le_of_ble_eq_true rfl) ⟨by show _ ≤ 601024; omega, by show _ ≤ 7293034; omega⟩ dL_law_1408 (fun _ h => by cases h) (fun _ => ?_)
  refine j_istore hc dL_law_1411 rfl ?_
  refine j_aload_n hc dL_law_1413 rfl ?_
  refine j_callV' hc (c_X5_thrown hl) vc_L_92 rfl ⟨rfl, rfl, by decide, by decide⟩ 15 rfl rfl rfl (Nat.le_of_ble_eq_true rfl) ⟨by show _ ≤ 601024; omega, by show _ ≤ 7293034; omega⟩ dL_law_1414 (fun _ h => by cases h) (fun _ => ?_)
  refine j_iload hc dL_law_1417 rfl ?_
  refine j_icmp_eq hc 1424 dL_law_1419 (by decide) (fun _ => ?_) (fun h => absurd r2 h)
  refine j_iload hc dL_law_1424 rfl ?_
  refine j_if_ne hc 1441 dL_law_1426 (by decide) (fun _ => ?_) (fun h0 => ?_)
  · -- thrown
    refine j_goto hc 1581 dL_law_1441 (by decide) ?_
    refine j_widen (k := 600 + 8 * (k + 1)) (n := 4000 + 64 * (k + 1)) (by omega) (by omega) ?_
    refine j_lv [(0, .ref b), (1, .ref (ad 0)), (2, .ref (ad 15)), (3, .ref (ad 32)), (4, .int (nI (3 * k)))] ⟨rfl, rfl, rfl, rfl, rfl, trivial⟩ ?_
    exact next _ _ _ _ _ r4
  refine j_aload_n hc dL_law_1429 rfl ?_
  refine j_iconst hc (v := 0) dL_law_1430 (by decide) ?_
  refine al_out hc (vp_in_nI (n := 0) (N := 1) (by decide) (by decide)) dL_law_1431 ?_
  refine j_iload hc dL_law_1432 rfl ?_
  refine j_i2l hc dL_law_1434 ?_
  refine j_lcmp hc dL_law_1435 ?_
  refine j_if_eq hc 1441 dL_law_1436 (by decide) (fun _ => ?_) (fun h => absurd (bl_cmp.mpr (r3 h0)) h)
  refine j_goto hc 1581 dL_law_1441 (by decide) ?_
  refine j_widen (k := 600 + 8 * (k + 1)) (n := 4000 + 64 * (k + 1)) (by omega) (by omega) ?_
  refine j_lv [(0, .ref b), (1, .ref (ad 0)), (2, .ref (ad 15)), (3, .ref (ad 32)), (4, .int (nI (3 * k)))] ⟨rfl, rfl, rfl, rfl, rfl, trivial⟩ ?_
  exact next _ _ _ _ _ r4
set_option maxRecDepth 100000 in
set_option maxHeartbeats 4000000 in
theorem op_25 {p : Program} {l : Launch} {e : Env} {s : State} {m : MethodId} {below : List Frame} {meth : Method} {c : Code} {D : va_G} {cs : Nat → ClassId} {sa : Nat → Nat} {A : Nat → Prop} {Q : State → Prop} {b L k n : Nat} {xs : Nat → Int32} {ad : Nat → Nat} {E : ES} {S : MS} {o : Nat → Int64} (hc : CX p l e room_1 s m #[Value.ref b] below meth c D cs sa A code 7 RL ret) (hX : va_X b L xs s s.heap ∧ b < s.heap.size ∧ ¬ A b) (hk : k < 512) (h3 : 3 * k + 3 ≤ L) (hL : L ≤ 1536) (I : Inv k n E S) (next : ∀ ad n E S o, Inv (k + 1) n E S → LPc p l e s m below meth c D cs A Q b k (k + 1) 1581 ad n E S o) : LPc p l e s m below meth c D cs A Q b k k 1444 ad n E S o := by
  have hl := hc.2.2.2.2.2.2
  have I0 := I
  obtain ⟨h, Y, T, a1, a2, a3, H, M⟩ := I0
  have hn30 := M.2.1.2
  unfold LPc
  refine j_aload_n hc dL_law_1444 rfl ?_
  refine j_callV' hc (c_X4_events hl) vc_L_176 rfl ⟨rfl, rfl, by decide, by decide⟩ 0 rfl rfl rfl (Nat.le_of_ble_eq_true rfl) ⟨by show _ ≤ 601024; omega, by show _ ≤ 7293034; omega⟩ dL_law_1445 (fun _ h => by cases h) (fun _ => ?_)
  refine j_aload_n hc dL_law_1448 rfl ?_
  refine j_callV' hc (c_X5_events hl) vc_L_179 rfl ⟨rfl, rfl, by decide, by decide⟩ 15 rfl rfl rfl (Nat.le_of_ble_eq_true rfl) ⟨by show _ ≤ 601024; omega, by show _ ≤ 7293034; omega⟩ dL_law_1449 (fun _ h => by cases h) (fun _ => ?_)
  refine j_icmp_eq hc 1581 dL_law_1452 (by decide) (fun _ => ?_) (fun h => absurd H.1.2.2.2.2.2.2.2.2.1 h)
  refine j_widen (k := 600 + 8 * (k + 1)) (n := 4000 + 64 * (k + 1)) (by omega) (by omega) ?_
  exact next _ _ _ _ _ (inv_1 I 0)
set_option maxRecDepth 100000 in
set_option maxHeartbeats 4000000 in
theorem op_26 {p : Program} {l : Launch} {e : Env} {s : State} {m : MethodId} {below : List Frame} {meth : Method} {c : Code} {D : va_G} {cs : Nat → ClassId} {sa : Nat → Nat} {A : Nat → Prop} {Q : State → Prop} {b L k n : Nat} {xs : Nat → Int32} {ad : Nat → Nat} {E : ES} {S : MS} {o : Nat → Int64} (hc : CX p l e room_1 s m #[Value.ref b] below meth c D cs sa A code 7 RL ret) (hX : va_X b L xs s s.heap ∧ b < s.heap.size ∧ ¬ A b) (hk : k < 512) (h3 : 3 * k + 3 ≤ L) (hL : L ≤ 1536) (I : Inv k n E S) (next : ∀ ad n E S o, Inv (k + 1) n E S → LPc p l e s m below meth c D cs A Q b k (k + 1) 1581 ad n E S o) : LPc p l e s m below meth c D cs A Q b k k 1457 ad n E S o := by
  have hl := hc.2.2.2.2.2.2
  have I0 := I
  obtain ⟨h, Y, T, a1, a2, a3, H, M⟩ := I0
  have hn30 := M.2.1.2
  unfold LPc
  obtain ⟨r1, r2, r3, r4⟩ := simR_w (show SimR k n [xIO] E (e_event E (xs (3 * k + 1))) (m_event S (xs (3 * k + 1))) from s_event I) o
  replace r3 := r3 wcn_1
  have ct : CH l D cs sa yL_event cL_event 4 (Option.some Jvm.ClassFile.FieldType.int) [((0 : Nat), (9 : Nat), (12 : Nat), (13 : Nat))] (RM 8 8 64) 8 64 [.ref (ad 0), .int (xs (3 * k + 1)), .ref (ad 32)] (WD ad cs n E S o) (none, some (.int (wres (e_event E (xs (3 * k + 1))) [xIO] E o).1), WD ad cs n (wres (e_event E (xs (3 * k + 1))) [xIO] E o).2.1 S (wres (e_event E (xs (3 * k + 1))) [xIO] E o).2.2) := c_L_event hl r1
  clear r1
  generalize wres (e_event E (xs (3 * k + 1))) [xIO] E o = W at ct r2 r3 r4
  have cm : CM l D cs sa yX5_event cX5_event 2 (Option.some Jvm.ClassFile.FieldType.int) (RM 1 0 0) 0 0 [.ref (ad 15), .int (xs (3 * k + 1))] (WD ad cs n W.2.1 S W.2.2) (none, some (.int (m_event S (xs (3 * k + 1))).1), WD ad cs n W.2.1 (m_event S (xs (3 * k + 1))).2 W.2.2) := c_X5_event hl 
  generalize m_event S (xs (3 * k + 1)) = mv at cm r2 r3 r4
  refine j_aload_n hc dL_law_1457 rfl ?_
  refine j_aload_n hc dL_law_1458 rfl ?_
  refine j_iload hc dL_law_1459 rfl ?_
  refine j_iconst hc (v := 1) dL_law_1461 (by decide) ?_
  refine j_iadd hc dL_law_1462 ?_
  refine j_sld hc hX (nI_1 (3 * k)) (j := 3 * k + 1) ⟨by omega, hL⟩ dL_law_1463 ?_
  refine j_aload_n hc dL_law_1464 rfl ?_
  refine j_callSH hc (r := (some (.int W.1), WD ad cs n W.2.1 S W.2.2)) ct sh_L_180 rfl ⟨rfl, rfl, by decide, by decide⟩ rfl (Nat.le_of_ble_eq_true rfl) ⟨by show _ ≤ 601024; omega, by show _ ≤ 7293034; omega⟩ dL_law_1465 ?_
  refine j_istore hc dL_law_1468 rfl ?_
  refine j_aload_n hc dL_law_1470 rfl ?_
  refine j_aload_n hc dL_law_1471 rfl ?_
  refine j_iload hc dL_law_1472 rfl ?_
  refine j_iconst hc (v := 1) dL_law_1474 (by decide) ?_
  refine j_iadd hc dL_law_1475 ?_
  refine j_sld hc hX (nI_1 (3 * k)) (j := 3 * k + 1) ⟨by omega, hL⟩ dL_law_1476 ?_
  refine j_callV' hc cm vc_L_182 rfl ⟨rfl, rfl, by decide, by decide⟩ 15 rfl rfl rfl (Nat.le_of_ble_eq_true rfl) ⟨by show _ ≤ 601024; omega, by show _ ≤ 7293034; omega⟩ dL_law_1477 (fun _ h => by cases h) (fun _ => ?_)
  refine j_istore hc dL_law_1480 rfl ?_
  refine j_aload_n hc dL_law_1482 rfl ?_
  refine j_callV' hc (c_X5_thrown hl) vc_L_92 rfl ⟨rfl, rfl, by decide, by decide⟩ 15 rfl rfl rfl (Nat.le_of_ble_eq_true rfl) ⟨by show _ ≤ 601024; omega, by show _ ≤ 7293034; omega⟩ dL_law_1483 (fun _ h => by cases h) (fun _ => ?_)
  refine j_iload hc dL_law_1486 rfl ?_
  refine j_icmp_eq hc 1493 dL_law_1488 (by decide) (fun _ => ?_) (fun h => absurd r2 h)
  refine j_iload hc dL_law_1493 rfl ?_
  refine j_if_ne hc 1510 dL_law_1495 (by decide) (fun _ => ?_) (fun h0 => ?_)
  · -- thrown
    refine j_goto hc 1581 dL_law_1510 (by decide) ?_
    refine j_widen (k := 600 + 8 * (k + 1)) (n := 4000 + 64 * (k + 1)) (by omega) (by omega) ?_
    refine j_lv [(0, .ref b), (1, .ref (ad 0)), (2, .ref (ad 15)), (3, .ref (ad 32)), (4, .int (nI (3 * k)))] ⟨rfl, rfl, rfl, rfl, rfl, trivial⟩ ?_
    exact next _ _ _ _ _ r4
  refine j_aload_n hc dL_law_1498 rfl ?_
  refine j_iconst hc (v := 0) dL_law_1499 (by decide) ?_
  refine al_out hc (vp_in_nI (n := 0) (N := 1) (by decide) (by decide)) dL_law_1500 ?_
  refine j_iload hc dL_law_1501 rfl ?_
  refine j_i2l hc dL_law_1503 ?_
  refine j_lcmp hc dL_law_1504 ?_
  refine j_if_eq hc 1510 dL_law_1505 (by decide) (fun _ => ?_) (fun h => absurd (bl_cmp.mpr (r3 h0)) h)
  refine j_goto hc 1581 dL_law_1510 (by decide) ?_
  refine j_widen (k := 600 + 8 * (k + 1)) (n := 4000 + 64 * (k + 1)) (by omega) (by omega) ?_
  refine j_lv [(0, .ref b), (1, .ref (ad 0)), (2, .ref (ad 15)), (3, .ref (ad 32)), (4, .int (nI (3 * k)))] ⟨rfl, rfl, rfl, rfl, rfl, trivial⟩ ?_
  exact next _ _ _ _ _ r4
set_option maxRecDepth 100000 in
set_option maxHeartbeats 4000000 in
theorem op_27 {p : Program} {l : Launch} {e : Env} {s : State} {m : MethodId} {below : List Frame} {meth : Method} {c : Code} {D : va_G} {cs : Nat → ClassId} {sa : Nat → Nat} {A : Nat → Prop} {Q : State → Prop} {b L k n : Nat} {xs : Nat → Int32} {ad : Nat → Nat} {E : ES} {S : MS} {o : Nat → Int64} (hc : CX p l e room_1 s m #[Value.ref b] below meth c D cs sa A code 7 RL ret) (hX : va_X b L xs s s.heap ∧ b < s.heap.size ∧ ¬ A b) (hk : k < 512) (h3 : 3 * k + 3 ≤ L) (hL : L ≤ 1536) (I : Inv k n E S) (next : ∀ ad n E S o, Inv (k + 1) n E S → LPc p l e s m below meth c D cs A Q b k (k + 1) 1581 ad n E S o) : LPc p l e s m below meth c D cs A Q b k k 1513 ad n E S o := by
  have hl := hc.2.2.2.2.2.2
  have I0 := I
  obtain ⟨h, Y, T, a1, a2, a3, H, M⟩ := I0
  have hn30 := M.2.1.2
  unfold LPc
  obtain ⟨r1, r2, r3, r4⟩ := simR_w (show SimR k n [xIO, xIA] E (e_stateAt n E (xs (3 * k + 1)) (xs (3 * k + 2))) (m_stateAt S (xs (3 * k + 1)) (xs (3 * k + 2))) from s_stateAt I) o
  replace r3 := r3 wcn_4
  have ct : CH l D cs sa yL_stateAt cL_stateAt 5 (Option.some Jvm.ClassFile.FieldType.int) [((0 : Nat), (10 : Nat), (13 : Nat), (13 : Nat)), ((0 : Nat), (10 : Nat), (17 : Nat), (21 : Nat))] (RM 8 8 64) 8 64 [.ref (ad 0), .int (xs (3 * k + 1)), .int (xs (3 * k + 2)), .ref (ad 32)] (WD ad cs n E S o) (none, some (.int (wres (e_stateAt n E (xs (3 * k + 1)) (xs (3 * k + 2))) [xIO, xIA] E o).1), WD ad cs n (wres (e_stateAt n E (xs (3 * k + 1)) (xs (3 * k + 2))) [xIO, xIA] E o).2.1 S (wres (e_stateAt n E (xs (3 * k + 1)) (xs (3 * k + 2))) [xIO, xIA] E o).2.2) := c_L_stateAt hl hn30 (told_nn I) r1
  clear r1
  generalize wres (e_stateAt n E (xs (3 * k + 1)) (xs (3 * k + 2))) [xIO, xIA] E o = W at ct r2 r3 r4
  have cm : CM l D cs sa yX5_stateAt cX5_stateAt 5 (Option.some Jvm.ClassFile.FieldType.int) (RM 2 0 0) 0 0 [.ref (ad 15), .int (xs (3 * k + 1)), .int (xs (3 * k + 2))] (WD ad cs n W.2.1 S W.2.2) (none, some (.int (m_stateAt S (xs (3 * k + 1)) (xs (3 * k + 2))).1), WD ad cs n W.2.1 (m_stateAt S (xs (3 * k + 1)) (xs (3 * k + 2))).2 W.2.2) := c_X5_stateAt hl 
  generalize m_stateAt S (xs (3 * k + 1)) (xs (3 * k + 2)) = mv at cm r2 r3 r4
  refine j_aload_n hc dL_law_1513 rfl ?_
  refine j_aload_n hc dL_law_1514 rfl ?_
  refine j_iload hc dL_law_1515 rfl ?_
  refine j_iconst hc (v := 1) dL_law_1517 (by decide) ?_
  refine j_iadd hc dL_law_1518 ?_
  refine j_sld hc hX (nI_1 (3 * k)) (j := 3 * k + 1) ⟨by omega, hL⟩ dL_law_1519 ?_
  refine j_aload_n hc dL_law_1520 rfl ?_
  refine j_iload hc dL_law_1521 rfl ?_
  refine j_iconst hc (v := 2) dL_law_1523 (by decide) ?_
  refine j_iadd hc dL_law_1524 ?_
  refine j_sld hc hX (nI_2 (3 * k)) (j := 3 * k + 2) ⟨by omega, hL⟩ dL_law_1525 ?_
  refine j_aload_n hc dL_law_1526 rfl ?_
  refine j_callSH hc (r := (some (.int W.1), WD ad cs n W.2.1 S W.2.2)) ct sh_L_183 rfl ⟨rfl, rfl, by decide, by decide⟩ rfl (Nat.le_of_ble_eq_true rfl) ⟨by show _ ≤ 601024; omega, by show _ ≤ 7293034; omega⟩ dL_law_1527 ?_
  refine j_istore hc dL_law_1530 rfl ?_
  refine j_aload_n hc dL_law_1532 rfl ?_
  refine j_aload_n hc dL_law_1533 rfl ?_
  refine j_iload hc dL_law_1534 rfl ?_
  refine j_iconst hc (v := 1) dL_law_1536 (by decide) ?_
  refine j_iadd hc dL_law_1537 ?_
  refine j_sld hc hX (nI_1 (3 * k)) (j := 3 * k + 1) ⟨by omega, hL⟩ dL_law_1538 ?_
  refine j_aload_n hc dL_law_1539 rfl ?_
  refine j_iload hc dL_law_1540 rfl ?_
  refine j_iconst hc (v := 2) dL_law_1542 (by decide) ?_
  refine j_iadd hc dL_law_1543 ?_
  refine j_sld hc hX (nI_2 (3 * k)) (j := 3 * k + 2) ⟨by omega, hL⟩ dL_law_1544 ?_
  refine j_callV' hc cm vc_L_185 rfl ⟨rfl, rfl, by decide, by decide⟩ 15 rfl rfl rfl (Nat.le_of_ble_eq_true rfl) ⟨by show _ ≤ 601024; omega, by show _ ≤ 7293034; omega⟩ dL_law_1545 (fun _ h => by cases h) (fun _ => ?_)
  refine j_istore hc dL_law_1548 rfl ?_
  refine j_aload_n hc dL_law_1550 rfl ?_
  refine j_callV' hc (c_X5_thrown hl) vc_L_92 rfl ⟨rfl, rfl, by decide, by decide⟩ 15 rfl rfl rfl (Nat.le_of_ble_eq_true rfl) ⟨by show _ ≤ 601024; omega, by show _ ≤ 7293034; omega⟩ dL_law_1551 (fun _ h => by cases h) (fun _ => ?_)
  refine j_iload hc dL_law_1554 rfl ?_
  refine j_icmp_eq hc 1561 dL_law_1556 (by decide) (fun _ => ?_) (fun h => absurd r2 h)
  refine j_iload hc dL_law_1561 rfl ?_
  refine j_if_ne hc 1578 dL_law_1563 (by decide) (fun _ => ?_) (fun h0 => ?_)
  · -- thrown
    refine j_goto hc 1581 dL_law_1578 (by decide) ?_
    refine j_widen (k := 600 + 8 * (k + 1)) (n := 4000 + 64 * (k + 1)) (by omega) (by omega) ?_
    refine j_lv [(0, .ref b), (1, .ref (ad 0)), (2, .ref (ad 15)), (3, .ref (ad 32)), (4, .int (nI (3 * k)))] ⟨rfl, rfl, rfl, rfl, rfl, trivial⟩ ?_
    exact next _ _ _ _ _ r4
  refine j_aload_n hc dL_law_1566 rfl ?_
  refine j_iconst hc (v := 0) dL_law_1567 (by decide) ?_
  refine al_out hc (vp_in_nI (n := 0) (N := 1) (by decide) (by decide)) dL_law_1568 ?_
  refine j_iload hc dL_law_1569 rfl ?_
  refine j_i2l hc dL_law_1571 ?_
  refine j_lcmp hc dL_law_1572 ?_
  refine j_if_eq hc 1578 dL_law_1573 (by decide) (fun _ => ?_) (fun h => absurd (bl_cmp.mpr (r3 h0)) h)
  refine j_goto hc 1581 dL_law_1578 (by decide) ?_
  refine j_widen (k := 600 + 8 * (k + 1)) (n := 4000 + 64 * (k + 1)) (by omega) (by omega) ?_
  refine j_lv [(0, .ref b), (1, .ref (ad 0)), (2, .ref (ad 15)), (3, .ref (ad 32)), (4, .int (nI (3 * k)))] ⟨rfl, rfl, rfl, rfl, rfl, trivial⟩ ?_
  exact next _ _ _ _ _ r4
