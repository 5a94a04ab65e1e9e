def R_law : String := "CollectionsEngineLaw"
def lw_P (b : Addr) (xs : List Int32) (args : Array Value) (s : State) : Prop := args = #[.ref b] ∧ s.IntsAt b xs ∧ xs.length ≤ 1536 ∧ (Jvm.Cond.and given_1 narrow_1).before args s = true
def lw_Q (_ : Array Value) (s : State) (o : Outcome) (t : State) : Prop := o = .returned (some (.int 1)) ∧ Framed s o t [] 601024 7293034
def lw_Z (below : List Frame) (a : Array Value) (s : State) : State → Prop := fun t => ∃ o, t.status = .running ∧ Ended t below o ∧ lw_Q a s o t
/-- the law's own end, with 1 on the stack, nothing written that was there before, its room as the claim has it -/
theorem lw_ret {p : Program} {l : Launch} {e : Env} {s : State} {m : MethodId} {below : List Frame} {meth : Method} {c : Code} {b : Nat} (hx : p.tables.exec = Jvm.exec) (hb : c.code = code) (hr : meth.sig.returnType = ret) (hlocks : meth.locks = false) {pc : Nat} {H : Heap} {ls : Array Slot} (hdg : decode code pc = .ok (.ireturn, 1)) : W p l e room_1 s m #[Value.ref b] below meth c H [] 601024 7293034 (lw_Z below #[Value.ref b] s) (F0 m pc ls [.int 1]) := by
  intro T hT X
  obtain ⟨fs, hret, hrun, hended, hW, hframe⟩ := X.leave (v := some (.int 1)) (hlocks := hlocks) (fun h => by rw [hr] at h; cases h)
  have hmeth' : T.vm.method? m = some meth := X.method'
  refine ⟨T.setFrames fs, ?_, .returned (some (.int 1)), hrun, hended, rfl, ⟨_, rfl⟩, hW, hframe⟩
  jvm_step X.here [X.here.top, hx, hb, hdg, hmeth', hr, ret, narrow_b1]
  (try refine ⟨rfl, ?_⟩); (try refine ⟨rfl, ?_⟩)
  first | (intro acts; rw [hret _ acts rfl rfl rfl]) | rw [hret _ _ rfl rfl rfl]
  exact Steps.refl _
/-- what holds at the law's entry: the machine, the code, the tables' words (any of lw_tbl by 'hts w (by decide +kernel)'), the script of L ints xs at the cell b, what the Statement gives of the start (any of its parts by flat_of_before) -/
def lw_At (p : Program) (s : State) (m : MethodId) (meth : Method) (c : Code) (b L : Nat) (xs : Nat → Int32) : Prop :=
  p.tables.exec = Jvm.exec ∧ c.code = code ∧ meth.sig.returnType = ret ∧ c.maxLocals = 7 ∧ s.vm.findClass R_law = some m.cls ∧ (∀ w ∈ lw_tbl, w.before #[Value.ref b] s = true) ∧ va_X b L xs s s.heap ∧ b < s.heap.size ∧ meth.locks = false ∧ (Jvm.Cond.and given_1 narrow_1).before #[Value.ref b] s = true
def adJ (x y : Nat → Nat) (q k : Nat) : Nat := if k < 15 then x k else if k < 32 then y k else q
theorem gpf_j (x y : Nat → Nat) (q : Nat) : gpf (adJ x y q) = gpf x := funext fun i => by
  unfold gpf
  by_cases h : i < 4
  · rw [if_pos h, if_pos h, adJ, if_pos (by omega)]
  · rw [if_neg h, if_neg h]
theorem el_j (x y : Nat → Nat) (q : Nat) (cs : Nat → ClassId) (E : ES) : EL (adJ x y q) cs 0 E = EL x cs 0 E := by
  unfold EL
  rw [gpf_j, ← brf0, ← brf0]
  rfl
theorem wd_j (x y : Nat → Nat) (q : Nat) (cs : Nat → ClassId) (E : ES) (S : MS) (o : Nat → Int64) : (EL x cs 0 E ++ ML y cs S) ++ [(q, .inl (cs 1, 1, .inr (.inl o)))] = WD (adJ x y q) cs 0 E S o := by
  unfold WD PL
  rw [List.append_nil, fx_eq, el_j]
  rfl
section LAW
variable {p : Program} {l : Launch} {e : Env} {s : State} {m : MethodId} {below : List Frame} {meth : Method} {c : Code} {D : va_G} {cs : Nat → ClassId} {sa : Nat → Nat} {A : Nat → Prop} {b L : Nat} {xs : Nat → Int32}
theorem j_lend (hc : CX p l e room_1 s m #[Value.ref b] below meth c D cs sa A code 7 RL ret) (hA : ∀ q, A q → s.heap.size ≤ q) {cells slots pc : Nat} {w : va_W} {lv : List (Nat × Value)} (h1 : cells ≤ 601024) (h2 : slots ≤ 7293034) (hdg : decode code pc = .ok (.ireturn, 1)) : J p l e room_1 s m #[Value.ref b] below meth c D A 7 cells slots (lw_Z below #[Value.ref b] s) w pc lv [.int 1] := fun H locs ls hP hD hS hl =>
  va_forget (fun q h => hA _ (hS.2.2 q h)) (W.widen h1 h2 (lw_ret hc.1.1 hc.1.2.1 hc.2.1 hc.2.2.1 hdg))
set_option maxRecDepth 100000 in
set_option maxHeartbeats 4000000 in
theorem law_loop (hc : CX p l e room_1 s m #[Value.ref b] below meth c D cs sa A code 7 RL ret) (hA : ∀ q, A q → s.heap.size ≤ q) (hX : va_X b L xs s s.heap ∧ b < s.heap.size ∧ ¬ A b) (hL : L ≤ 1536) : ∀ (t k : Nat), k + t = 513 → ∀ (ad : Nat → Nat) (n : Nat) (E : ES) (S : MS) (o : Nat → Int64), Inv k n E S → LPc p l e s m below meth c D cs A (lw_Z below #[Value.ref b] s) b k k 23 ad n E S o := by
  intro t
  induction t with
  | zero =>
    intro k hk ad n E S o I
    have e3 : (3 : Int32).toInt = 3 := by decide
    have eL : (nI L - 3).toInt = (L : Int) - 3 := by
      rw [i32_sub (by rw [nI_toInt (by omega), e3]; omega) (by rw [nI_toInt (by omega), e3]; omega), nI_toInt (by omega), e3]
    have ek : (nI (3 * k)).toInt = (3 * k : Nat) := nI_toInt (by omega)
    unfold LPc
    refine j_iload hc dL_law_23 rfl ?_
    refine j_aload_n hc dL_law_25 rfl ?_
    refine j_slen hc hX dL_law_26 ?_
    refine j_iconst hc (v := 3) dL_law_27 (by decide) ?_
    refine j_isub hc dL_law_28 ?_
    refine j_icmp_gt hc 1587 dL_law_29 (by decide) (fun _ => ?_) (fun h => absurd (by rw [i32_lt, eL, ek]; omega) h)
    refine j_iconst hc (v := 1) dL_law_1587 (by decide) ?_
    exact j_lend hc hA (by omega) (by omega) dL_law_1588
  | succ t ih =>
    intro k hk ad n E S o I
    have e3 : (3 : Int32).toInt = 3 := by decide
    have eL : (nI L - 3).toInt = (L : Int) - 3 := by
      rw [i32_sub (by rw [nI_toInt (by omega), e3]; omega) (by rw [nI_toInt (by omega), e3]; omega), nI_toInt (by omega), e3]
    have ek : (nI (3 * k)).toInt = (3 * k : Nat) := nI_toInt (by omega)
    unfold LPc
    refine j_iload hc dL_law_23 rfl ?_
    refine j_aload_n hc dL_law_25 rfl ?_
    refine j_slen hc hX dL_law_26 ?_
    refine j_iconst hc (v := 3) dL_law_27 (by decide) ?_
    refine j_isub hc dL_law_28 ?_
    refine j_icmp_gt hc 1587 dL_law_29 (by decide) (fun _ => ?_) (fun h => ?_)
    · refine j_iconst hc (v := 1) dL_law_1587 (by decide) ?_
      exact j_lend hc hA (by omega) (by omega) dL_law_1588
    have h3 : 3 * k + 3 ≤ L := by
      rw [i32_lt, eL, ek] at h
      omega
    have hk5 : k < 512 := by omega
    have next : ∀ ad n E S o, Inv (k + 1) n E S → LPc p l e s m below meth c D cs A (lw_Z below #[Value.ref b] s) b k (k + 1) 1581 ad n E S o := by
      intro ad n E S o I
      unfold LPc
      refine j_inc hc dL_law_1581 rfl (z := 3) (by decide) rfl ?_
      refine j_goto hc 23 dL_law_1584 (by decide) ?_
      refine j_lv [(0, .ref b), (1, .ref (ad 0)), (2, .ref (ad 15)), (3, .ref (ad 32)), (4, .int (nI (3 * k) + 3))] ⟨rfl, rfl, rfl, rfl, rfl, trivial⟩ ?_
      rw [show nI (3 * k) + 3 = nI (3 * (k + 1)) from nI_add (3 * k) 3]
      exact ih (k + 1) (by omega) ad n E S o I
    refine j_aload_n hc dL_law_32 rfl ?_
    refine j_iload hc dL_law_33 rfl ?_
    refine j_sld hc hX (v := nI (3 * k)) (j := 3 * k) rfl ⟨by omega, hL⟩ dL_law_35 ?_
    refine j_bipush hc (v := 31) dL_law_36 (by decide) ?_
    refine j_iand hc dL_law_38 ?_
    obtain ⟨z, hz, ez⟩ : ∃ z, z < 32 ∧ xs (3 * k) &&& 31 = nI z := ⟨_, Nat.mod_lt _ (by decide), pk_and (xs (3 * k)) 5 (by decide)⟩
    rw [ez]
    match z, hz with
    | 0, _ =>
      refine j_tabIn hc 164 dL_law_39 (by decide) (by decide) (off := 125) (by decide) (by decide) ?_
      exact op_0 hc hX hk5 h3 hL I next
    | 1, _ =>
      refine j_tabIn hc 248 dL_law_39 (by decide) (by decide) (off := 209) (by decide) (by decide) ?_
      exact op_1 hc hX hk5 h3 hL I next
    | 2, _ =>
      refine j_tabIn hc 311 dL_law_39 (by decide) (by decide) (off := 272) (by decide) (by decide) ?_
      exact op_2 hc hX hk5 h3 hL I next
    | 3, _ =>
      refine j_tabIn hc 379 dL_law_39 (by decide) (by decide) (off := 340) (by decide) (by decide) ?_
      exact op_3 hc hX hk5 h3 hL I next
    | 4, _ =>
      refine j_tabIn hc 435 dL_law_39 (by decide) (by decide) (off := 396) (by decide) (by decide) ?_
      exact op_4 hc hX hk5 h3 hL I next
    | 5, _ =>
      refine j_tabIn hc 503 dL_law_39 (by decide) (by decide) (off := 464) (by decide) (by decide) ?_
      exact op_5 hc hX hk5 h3 hL I next
    | 6, _ =>
      refine j_tabIn hc 571 dL_law_39 (by decide) (by decide) (off := 532) (by decide) (by decide) ?_
      exact op_6 hc hX hk5 h3 hL I next
    | 7, _ =>
      refine j_tabIn hc 639 dL_law_39 (by decide) (by decide) (off := 600) (by decide) (by decide) ?_
      exact op_7 hc hX hk5 h3 hL I next
    | 8, _ =>
      refine j_tabIn hc 707 dL_law_39 (by decide) (by decide) (off := 668) (by decide) (by decide) ?_
      exact op_8 hc hX hk5 h3 hL I next
    | 9, _ =>
      refine j_tabIn hc 775 dL_law_39 (by decide) (by decide) (off := 736) (by decide) (by decide) ?_
      exact op_9 hc hX hk5 h3 hL I next
    | 10, _ =>
      refine j_tabIn hc 831 dL_law_39 (by decide) (by decide) (off := 792) (by decide) (by decide) ?_
      exact op_10 hc hX hk5 h3 hL I next
    | 11, _ =>
      refine j_tabIn hc 844 dL_law_39 (by decide) (by decide) (off := 805) (by decide) (by decide) ?_
      exact op_11 hc hX hk5 h3 hL I next
    | 12, _ =>
      refine j_tabIn hc 907 dL_law_39 (by decide) (by decide) (off := 868) (by decide) (by decide) ?_
      exact op_12 hc hX hk5 h3 hL I next
    | 13, _ =>
      refine j_tabIn hc 920 dL_law_39 (by decide) (by decide) (off := 881) (by decide) (by decide) ?_
      exact op_13 hc hX hk5 h3 hL I next
    | 14, _ =>
      refine j_tabIn hc 976 dL_law_39 (by decide) (by decide) (off := 937) (by decide) (by decide) ?_
      exact op_14 hc hX hk5 h3 hL I next
    | 15, _ =>
      refine j_tabIn hc 1032 dL_law_39 (by decide) (by decide) (off := 993) (by decide) (by decide) ?_
      exact op_15 hc hX hk5 h3 hL I next
    | 16, _ =>
      refine j_tabIn hc 1088 dL_law_39 (by decide) (by decide) (off := 1049) (by decide) (by decide) ?_
      exact op_16 hc hX hk5 h3 hL I next
    | 17, _ =>
      refine j_tabIn hc 1156 dL_law_39 (by decide) (by decide) (off := 1117) (by decide) (by decide) ?_
      exact op_17 hc hX hk5 h3 hL I next
    | 18, _ =>
      refine j_tabIn hc 1212 dL_law_39 (by decide) (by decide) (off := 1173) (by decide) (by decide) ?_
      exact op_18 hc hX hk5 h3 hL I next
    | 19, _ =>
      refine j_tabIn hc 1268 dL_law_39 (by decide) (by decide) (off := 1229) (by decide) (by decide) ?_
      exact op_19 hc hX hk5 h3 hL I next
    | 20, _ =>
      refine j_tabIn hc 1324 dL_law_39 (by decide) (by decide) (off := 1285) (by decide) (by decide) ?_
      exact op_20 hc hX hk5 h3 hL I next
    | 21, _ =>
      refine j_tabIn hc 1337 dL_law_39 (by decide) (by decide) (off := 1298) (by decide) (by decide) ?_
      exact op_21 hc hX hk5 h3 hL I next
    | 22, _ =>
      refine j_tabIn hc 1350 dL_law_39 (by decide) (by decide) (off := 1311) (by decide) (by decide) ?_
      exact op_22 hc hX hk5 h3 hL I next
    | 23, _ =>
      refine j_tabIn hc 1363 dL_law_39 (by decide) (by decide) (off := 1324) (by decide) (by decide) ?_
      exact op_23 hc hX hk5 h3 hL I next
    | 24, _ =>
      refine j_tabIn hc 1376 dL_law_39 (by decide) (by decide) (off := 1337) (by decide) (by decide) ?_
      exact op_24 hc hX hk5 h3 hL I next
    | 25, _ =>
      refine j_tabIn hc 1444 dL_law_39 (by decide) (by decide) (off := 1405) (by decide) (by decide) ?_
      exact op_25 hc hX hk5 h3 hL I next
    | 26, _ =>
      refine j_tabIn hc 1457 dL_law_39 (by decide) (by decide) (off := 1418) (by decide) (by decide) ?_
      exact op_26 hc hX hk5 h3 hL I next
    | 27, _ =>
      refine j_tabIn hc 1513 dL_law_39 (by decide) (by decide) (off := 1474) (by decide) (by decide) ?_
      exact op_27 hc hX hk5 h3 hL I next
    | z + 28, hz =>
      refine j_tabOut hc 1581 dL_law_39 (Or.inr (by rw [nI_toInt (by omega)]; omega)) (by decide) ?_
      refine j_widen (k := 600 + 8 * (k + 1)) (n := 4000 + 64 * (k + 1)) (by omega) (by omega) ?_
      exact next ad n E S o (inv_q I)
set_option maxRecDepth 100000 in
set_option maxHeartbeats 4000000 in
theorem law_main (hc : CX p l e room_1 s m #[Value.ref b] below meth c D cs sa A code 7 RL ret) (hA : ∀ q, A q → s.heap.size ≤ q) {tt : Nat → Nat} (hE : EST tt A s s.heap) (hX : va_X b L xs s s.heap ∧ b < s.heap.size ∧ ¬ A b) (hL : L ≤ 1536) : J p l e room_1 s m #[Value.ref b] below meth c D A 7 0 0 (lw_Z below #[Value.ref b] s) [] 0 [(0, .ref b)] [] := by
  have hl := hc.2.2.2.2.2.2
  refine j_new hc (K := RX4) (T := TX4) (N := 12) (ci := 4) uw4 tyX4 tyX4_ok wt_15 wt_16 wt_1 rfl (fs := [.null, .null, .null, .null, .int 0, .int 0, .int 0, .int 0, .int 0, .int 0, .int 0, .int 0]) (fun j hj => by match j, hj with | 0, _ => rfl | 1, _ => rfl | 2, _ => rfl | 3, _ => rfl | 4, _ => rfl | 5, _ => rfl | 6, _ => rfl | 7, _ => rfl | 8, _ => rfl | 9, _ => rfl | 10, _ => rfl | 11, _ => rfl | j + 12, h => exact absurd h (by omega)) (Nat.le_of_ble_eq_true rfl) (Nat.le_of_ble_eq_true rfl) dL_law_0 (fun q0 => ?_)
  refine j_dup hc dL_law_3 rfl ?_
  refine j_callI hc (w := [(q0, .inr (4, [.null, .null, .null, .null, .int 0, .int 0, .int 0, .int 0, .int 0, .int 0, .int 0, .int 0]))]) [] (c_X4_init hl) ic_L_82 (EST_ok tt) hE rfl ⟨rfl, rfl, by decide, by decide⟩ rfl rfl (Nat.le_of_ble_eq_true rfl) ⟨by decide, by decide⟩ dL_law_4 (fun x => ?_)
  obtain ⟨x, rfl⟩ := x
  refine j_astore_n hc dL_law_7 rfl ?_
  refine j_w (w' := EL x cs 0 E0) rfl ?_
  refine j_new hc (K := RX5) (T := TX5) (N := 26) (ci := 5) uw5 tyX5 tyX5_ok wt_556 wt_557 wt_5 rfl (fs := [.int 0, .null, .null, .int 0, .null, .null, .int 0, .int 0, .int 0, .null, .null, .null, .null, .null, .null, .null, .null, .null, .null, .null, .int 0, .int 0, .int 0, .null, .int 0, .int 0]) (fun j hj => by match j, hj with | 0, _ => rfl | 1, _ => rfl | 2, _ => rfl | 3, _ => rfl | 4, _ => rfl | 5, _ => rfl | 6, _ => rfl | 7, _ => rfl | 8, _ => rfl | 9, _ => rfl | 10, _ => rfl | 11, _ => rfl | 12, _ => rfl | 13, _ => rfl | 14, _ => rfl | 15, _ => rfl | 16, _ => rfl | 17, _ => rfl | 18, _ => rfl | 19, _ => rfl | 20, _ => rfl | 21, _ => rfl | 22, _ => rfl | 23, _ => rfl | 24, _ => rfl | 25, _ => rfl | j + 26, h => exact absurd h (by omega)) (Nat.le_of_ble_eq_true rfl) (Nat.le_of_ble_eq_true rfl) dL_law_8 (fun q8 => ?_)
  refine j_dup hc dL_law_11 rfl ?_
  refine j_callI hc (EL x cs 0 E0) (c_X5_init hl) ic_L_85 P2n_ok trivial rfl ⟨rfl, rfl, by decide, by decide⟩ rfl rfl (Nat.le_of_ble_eq_true rfl) ⟨by decide, by decide⟩ dL_law_12 (fun y => ?_)
  obtain ⟨y, rfl⟩ := y
  refine j_astore_n hc dL_law_15 rfl ?_
  refine j_iconst hc (v := 1) dL_law_16 (by decide) ?_
  refine j_newaJ hc (N := 1) (by decide) rfl (Nat.le_of_ble_eq_true rfl) (Nat.le_of_ble_eq_true rfl) (Nat.le_of_ble_eq_true rfl) dL_law_17 (fun q => ?_)
  refine j_w (w' := WD (adJ x y q) cs 0 E0 S0 (fun _ => 0)) (wd_j x y q cs E0 S0 _) ?_
  refine j_astore_n hc dL_law_19 rfl ?_
  refine j_iconst hc (v := 0) dL_law_20 (by decide) ?_
  refine j_istore hc dL_law_21 rfl ?_
  refine j_widen (k := 600 + 8 * 0) (n := 4000 + 64 * 0) (by decide) (by decide) ?_
  refine j_lv [(0, .ref b), (1, .ref (adJ x y q 0)), (2, .ref (adJ x y q 15)), (3, .ref (adJ x y q 32)), (4, .int (nI (3 * 0)))] ⟨rfl, rfl, rfl, rfl, rfl, trivial⟩ ?_
  exact law_loop hc hA hX hL 513 0 rfl _ 0 E0 S0 _ inv_0
end LAW
theorem whole_start {p : Program} {e : Env} {s : State} {m : MethodId} {below : List Frame} {meth : Method} {c : Code} (l : Launch) (hflags : l.flags = flags0) {b L : Nat} {xs : Nat → Int32} (hL : L ≤ 1536) (C0 : lw_At p s m meth c b L xs) : W p l e room_1 s m #[Value.ref b] below meth c s.heap [] 0 0 (lw_Z below #[Value.ref b] s) (entryFrame m ([Value.ref b] : List Value).toArray 7) := by
  obtain ⟨hx, hb, hr, hml, hown, hts, hX, hbl, hlocks, hgv⟩ := C0
  have hl : l.stackTraces = false := by
    unfold Launch.stackTraces
    rw [hflags]
    decide
  have hA0 : ∀ q : Nat, q < s.heap.size → ¬ s.heap.size ≤ q := fun q h => by omega
  obtain ⟨D, cs, hK⟩ := en_K hts
  obtain ⟨sa, hST⟩ := en_ST (A := fun q => s.heap.size ≤ q) hA0 hts hgv
  obtain ⟨tt, hE⟩ := en_E (A := fun q => s.heap.size ≤ q) hA0 hts hgv
  have hc : CX p l e room_1 s m #[Value.ref b] below meth c D cs sa (fun q => s.heap.size ≤ q) code 7 RL ret := ⟨⟨hx, hb, hml, hown, fun w hw => hts w (wt_sub w hw)⟩, hr, hlocks, hK, fun q h => h, hST, hl⟩
  rw [lg_entry_eq]
  exact law_main hc (fun q h => h) hE ⟨hX, hbl, hA0 b hbl⟩ hL s.heap [] _ (fun k q h => (by cases h)) ⟨fun i j p q h => (by cases h), fun k q h => (by cases h)⟩ va_S.rf (lv_entry [.ref b] (n := 7) (Nat.le_of_ble_eq_true rfl))
