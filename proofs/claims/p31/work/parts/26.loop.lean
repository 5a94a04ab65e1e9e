def R_law : String := "CollectionsEngineLaw"
def lw_P (b : Addr) (xs : List Int32) (args : Array Value) (s : State) : Prop := args = #[.ref b] ∧ s.IntsAt b xs ∧ xs.length ≤ 260 ∧ (Jvm.Cond.and given_1 narrow_1).before args s = true
def lw_Q (_ : Array Value) (s : State) (o : Outcome) (t : State) : Prop := o = .returned (some (.int 1)) ∧ Framed s o t [] 600172 7300668
def lw_Z (below : List Frame) (a : Array Value) (s : State) : State → Prop := fun t => ∃ o, t.status = .running ∧ Ended t below o ∧ lw_Q a s o t
/-- the law's own end, with 1 on the stack, nothing written that was there before, its room as the claim has it -/
theorem lw_ret {p : Program} {l : Launch} {e : Env} {s : State} {m : MethodId} {below : List Frame} {meth : Method} {c : Code} {b : Nat} (hx : p.tables.exec = Jvm.exec) (hb : c.code = code) (hr : meth.sig.returnType = ret) (hlocks : meth.locks = false) {pc : Nat} {H : Heap} {ls : Array Slot} (hdg : decode code pc = .ok (.ireturn, 1)) : W p l e room_1 s m #[Value.ref b] below meth c H [] 600172 7300668 (lw_Z below #[Value.ref b] s) (F0 m pc ls [.int 1]) := by
  intro T hT X
  obtain ⟨fs, hret, hrun, hended, hW, hframe⟩ := X.leave (v := some (.int 1)) (hlocks := hlocks) (fun h => by rw [hr] at h; cases h)
  have hmeth' : T.vm.method? m = some meth := X.method'
  refine ⟨T.setFrames fs, ?_, .returned (some (.int 1)), hrun, hended, rfl, ⟨_, rfl⟩, hW, hframe⟩
  jvm_step X.here [X.here.top, hx, hb, hdg, hmeth', hr, ret, narrow_b1]
  (try refine ⟨rfl, ?_⟩); (try refine ⟨rfl, ?_⟩)
  first | (intro acts; rw [hret _ acts rfl rfl rfl]) | rw [hret _ _ rfl rfl rfl]
  exact Steps.refl _
/-- what holds at the law's entry: the machine, the code, the tables' words (any of lw_tbl by 'hts w (by decide +kernel)'), the script of L ints xs at the cell b, what the Statement gives of the start (any of its parts by flat_of_before) -/
def lw_At (p : Program) (s : State) (m : MethodId) (meth : Method) (c : Code) (b L : Nat) (xs : Nat → Int32) : Prop :=
  p.tables.exec = Jvm.exec ∧ c.code = code ∧ meth.sig.returnType = ret ∧ c.maxLocals = 21 ∧ s.vm.findClass R_law = some m.cls ∧ (∀ w ∈ lw_tbl, w.before #[Value.ref b] s = true) ∧ va_X b L xs s s.heap ∧ b < s.heap.size ∧ meth.locks = false ∧ (Jvm.Cond.and given_1 narrow_1).before #[Value.ref b] s = true
def adJ (x qs : Nat → Nat) (k : Nat) : Nat := if k < 15 then x k else qs (k - 15)
theorem gpf_j (x qs : Nat → Nat) : gpf (adJ x qs) = gpf x := funext fun i => by
  unfold gpf
  by_cases h : i < 4
  · rw [if_pos h, if_pos h, adJ, if_pos (by omega)]
  · rw [if_neg h, if_neg h]
theorem el_j (x qs : Nat → Nat) (cs : Nat → ClassId) (E : ES) : EL (adJ x qs) cs 0 E = EL x cs 0 E := by
  unfold EL
  rw [gpf_j, ← brf0, ← brf0]
  rfl
theorem wd_j (x qs : Nat → Nat) (cs : Nat → ClassId) (E : ES) (o : Nat → Int64) : (((((((((EL x cs 0 E ++ ([(qs 0, .inl (cs 0, 9, .inl (fun _ => 0)))] : va_W)) ++ ([(qs 1, .inl (cs 0, 64, .inl (fun _ => 0)))] : va_W)) ++ ([(qs 2, .inl (cs 0, 30, .inl (fun _ => 0)))] : va_W)) ++ ([(qs 3, .inl (cs 0, 5, .inl (fun _ => 0)))] : va_W)) ++ ([(qs 4, .inl (cs 0, 36, .inl (fun _ => 0)))] : va_W)) ++ ([(qs 5, .inl (cs 0, 48, .inl (fun _ => 0)))] : va_W)) ++ ([(qs 6, .inl (cs 0, 60, .inl (fun _ => 0)))] : va_W)) ++ ([(qs 7, .inl (cs 0, 36, .inl (fun _ => 0)))] : va_W)) ++ ([(qs 8, .inl (cs 0, 60, .inl (fun _ => 0)))] : va_W)) = WD (adJ x qs) cs 0 E Z0 o := by
  unfold WD PL
  rw [List.append_nil, fx_eq, el_j]
  rfl
theorem and_x (v : Int32) : ∃ X, X < 2 ^ 31 ∧ v &&& 2147483647 = nI X := ⟨_, Nat.mod_lt _ (by decide), pk_and v 31 (by decide)⟩
section LAW
variable {p : Program} {l : Launch} {e : Env} {s : State} {m : MethodId} {below : List Frame} {meth : Method} {c : Code} {D : va_G} {cs : Nat → ClassId} {sa : Nat → Nat} {A : Nat → Prop} {bb L : Nat} {xs : Nat → Int32}
theorem j_lend (hc : CX p l e room_1 s m #[Value.ref bb] below meth c D cs sa A code 21 RL ret) (hA : ∀ q, A q → s.heap.size ≤ q) {cells slots pc : Nat} {w : va_W} {lv : List (Nat × Value)} (h1 : cells ≤ 600172) (h2 : slots ≤ 7300668) (hdg : decode code pc = .ok (.ireturn, 1)) : J p l e room_1 s m #[Value.ref bb] below meth c D A 21 cells slots (lw_Z below #[Value.ref bb] s) w pc lv [.int 1] := fun H locs ls hP hD hS hl =>
  va_forget (fun q h => hA _ (hS.2.2 q h)) (W.widen h1 h2 (lw_ret hc.1.1 hc.1.2.1 hc.2.1 hc.2.2.1 hdg))
set_option maxRecDepth 100000 in
set_option maxHeartbeats 4000000 in
theorem law_loop (hc : CX p l e room_1 s m #[Value.ref bb] below meth c D cs sa A code 21 RL ret) (hA : ∀ q, A q → s.heap.size ≤ q) (hX : va_X bb L xs s s.heap ∧ bb < s.heap.size ∧ ¬ A bb) (hL : L ≤ 260) (o : Nat → Int64) : ∀ (k t : Nat), t + k = 110 → ∀ (ad : Nat → Nat) (n h N Y : Nat) (E : ES) (S : MS), Rel h n N Y E S → N ≤ 1500 * t → Y ≤ 60 * t → J p l e room_1 s m #[Value.ref bb] below meth c D A 21 (2000 + 1700 * t) (16000 + 14000 * t) (lw_Z below #[Value.ref bb] s) (WD ad cs n E S o) 159 [(0, .ref bb), (1, .ref (ad 0)), (2, .ref (ad 15)), (3, .ref (ad 16)), (4, .ref (ad 17)), (5, .ref (ad 18)), (6, .ref (ad 19)), (7, .ref (ad 20)), (8, .ref (ad 21)), (9, .ref (ad 22)), (10, .ref (ad 23)), (11, .int (nI 1)), (12, .int (nI t))] [] := by
  have hl := hc.2.2.2.2.2.2
  intro k
  induction k with
  | zero =>
    intro t ht ad n h N Y E S H hN hY
    refine j_iload hc dL_law_159 rfl ?_
    refine j_bipush hc (v := nI 110) dL_law_161 (by decide) ?_
    refine j_icmp_ge hc 1464 dL_law_163 (by decide) (fun h163 => ?_) (fun h163 => by exact absurd (nI_le (a := 110) (by omega) (by omega)) h163)
    refine j_iload hc dL_law_1464 rfl ?_
    exact j_lend hc hA (by omega) (by omega) dL_law_1466
  | succ k ih =>
    intro t ht ad n h N Y E S H hN hY
    have G := H.1
    have n12 := G.n12
    have hh60' := G.h60
    have next : ∀ y, y < 2 ^ 31 → ∀ (ad : Nat → Nat) (n h N Y : Nat) (E : ES) (S : MS), Rel h n N Y E S → N ≤ 1500 * (t + 1) → Y ≤ 60 * (t + 1) → J p l e room_1 s m #[Value.ref bb] below meth c D A 21 (2000 + 1700 * t + 8) (16000 + 14000 * t + 64) (lw_Z below #[Value.ref bb] s) (WD ad cs n E S o) 1425 [(0, .ref bb), (1, .ref (ad 0)), (2, .ref (ad 15)), (3, .ref (ad 16)), (4, .ref (ad 17)), (5, .ref (ad 18)), (6, .ref (ad 19)), (7, .ref (ad 20)), (8, .ref (ad 21)), (9, .ref (ad 22)), (10, .ref (ad 23)), (11, .int (nI 1)), (12, .int (nI t)), (15, .int (nI y))] [] := by
      intro y hy ad n h N Y E S H hN hY
      refine j_iload hc dL_law_1425 rfl ?_
      refine j_if_eq hc 1455 dL_law_1427 (by decide) (fun h1427 => by exact absurd (show (nI 1) = (0 : Int32) from h1427) (by decide)) (fun h1427 => ?_)
      refine j_aload_n hc dL_law_1430 rfl ?_
      refine j_aload_n hc dL_law_1431 rfl ?_
      refine j_aload_n hc dL_law_1432 rfl ?_
      refine j_aload hc dL_law_1433 rfl ?_
      refine j_aload hc dL_law_1435 rfl ?_
      refine j_aload hc dL_law_1437 rfl ?_
      refine j_aload hc dL_law_1439 rfl ?_
      refine j_aload hc dL_law_1441 rfl ?_
      refine j_iload hc dL_law_1443 rfl ?_
      refine j_callS' hc (c_L_isEngine hl (X := y) H (by omega) (by omega) hy) sc_L_104 rfl ⟨rfl, rfl, by decide, by decide⟩ rfl (Nat.le_of_ble_eq_true rfl) ⟨by show _ ≤ 600172; omega, by show _ ≤ 7300668; omega⟩ dL_law_1445 (fun _ h9 => by cases h9) (fun _ => ?_)
      refine j_if_eq hc 1455 dL_law_1448 (by decide) (fun h1448 => by exact absurd h1448 (by decide)) (fun h1448 => ?_)
      refine j_iconst hc (v := nI 1) dL_law_1451 (by decide) ?_
      refine j_goto hc 1456 dL_law_1452 (by decide) ?_
      refine j_istore hc dL_law_1456 rfl ?_
      refine j_incE hc dL_law_1458 rfl (v := nI (t + 1)) (nI_1 _) rfl ?_
      refine j_goto hc 159 dL_law_1461 (by decide) ?_
      refine j_lv [(0, .ref bb), (1, .ref (ad 0)), (2, .ref (ad 15)), (3, .ref (ad 16)), (4, .ref (ad 17)), (5, .ref (ad 18)), (6, .ref (ad 19)), (7, .ref (ad 20)), (8, .ref (ad 21)), (9, .ref (ad 22)), (10, .ref (ad 23)), (11, .int (nI 1)), (12, .int (nI (t + 1)))] ⟨rfl, rfl, rfl, rfl, rfl, rfl, rfl, rfl, rfl, rfl, rfl, rfl, rfl, trivial⟩ ?_
      refine j_widen (k := 2000 + 1700 * (t + 1)) (n := 16000 + 14000 * (t + 1)) (by omega) (by omega) ?_
      exact ih (t + 1) (by omega) ad n h N Y E S H hN hY
    have k252 : ∀ X κ β, X < 2 ^ 31 → κ < 17 → (0 < n → β < n) → J p l e room_1 s m #[Value.ref bb] below meth c D A 21 (2000 + 1700 * t) (16000 + 14000 * t) (lw_Z below #[Value.ref bb] s) (WD ad cs n E S o) 254 [(0, .ref bb), (1, .ref (ad 0)), (2, .ref (ad 15)), (3, .ref (ad 16)), (4, .ref (ad 17)), (5, .ref (ad 18)), (6, .ref (ad 19)), (7, .ref (ad 20)), (8, .ref (ad 21)), (9, .ref (ad 22)), (10, .ref (ad 23)), (11, .int (nI 1)), (12, .int (nI t)), (14, .int (nI κ)), (15, .int (nI (X / 17))), (16, .int (nI β))] [] := by
      intro X κ β hX31 hκ hβ
      refine j_iload hc dL_law_254 rfl ?_
      refine j_iconst hc (v := nI 2) dL_law_256 (by decide) ?_
      refine j_icmp_ge hc 389 dL_law_257 (by decide) (fun h257 => ?_) (fun h257 => ?_)
      · -- taken
        refine j_iload hc dL_law_389 rfl ?_
        refine j_bipush hc (v := nI 6) dL_law_391 (by decide) ?_
        refine j_icmp_ge hc 573 dL_law_393 (by decide) (fun h393 => ?_) (fun h393 => ?_)
        · -- taken
          refine j_iload hc dL_law_573 rfl ?_
          refine j_bipush hc (v := nI 6) dL_law_575 (by decide) ?_
          refine j_icmp_ne hc 683 dL_law_577 (by decide) (fun h577 => ?_) (fun h577 => ?_)
          · -- taken
            refine j_iload hc dL_law_683 rfl ?_
            refine j_bipush hc (v := nI 9) dL_law_685 (by decide) ?_
            refine j_icmp_ge hc 857 dL_law_687 (by decide) (fun h687 => ?_) (fun h687 => ?_)
            · -- taken
              refine j_iload hc dL_law_857 rfl ?_
              refine j_bipush hc (v := nI 9) dL_law_859 (by decide) ?_
              refine j_icmp_ne hc 985 dL_law_861 (by decide) (fun h861 => ?_) (fun h861 => ?_)
              · -- taken
                refine j_iload hc dL_law_985 rfl ?_
                refine j_bipush hc (v := nI 10) dL_law_987 (by decide) ?_
                refine j_icmp_ne hc 1125 dL_law_989 (by decide) (fun h989 => ?_) (fun h989 => ?_)
                · -- taken
                  refine j_iload hc dL_law_1125 rfl ?_
                  refine j_bipush hc (v := nI 11) dL_law_1127 (by decide) ?_
                  refine j_icmp_ne hc 1273 dL_law_1129 (by decide) (fun h1129 => ?_) (fun h1129 => ?_)
                  · -- taken
                    refine j_iload hc dL_law_1273 rfl ?_
                    refine j_bipush hc (v := nI 12) dL_law_1275 (by decide) ?_
                    refine j_icmp_ne hc 1343 dL_law_1277 (by decide) (fun h1277 => ?_) (fun h1277 => ?_)
                    · -- taken
                      refine j_lv [(0, .ref bb), (1, .ref (ad 0)), (2, .ref (ad 15)), (3, .ref (ad 16)), (4, .ref (ad 17)), (5, .ref (ad 18)), (6, .ref (ad 19)), (7, .ref (ad 20)), (8, .ref (ad 21)), (9, .ref (ad 22)), (10, .ref (ad 23)), (11, .int (nI 1)), (12, .int (nI t)), (15, .int (nI (X / 17)))] ⟨rfl, rfl, rfl, rfl, rfl, rfl, rfl, rfl, rfl, rfl, rfl, rfl, rfl, rfl, trivial⟩ ?_
                      exact op_pass hc H hN hY (by omega) (by omega) (next (X / 17) (by omega))
                    · -- not taken
                      refine j_iload hc dL_law_1280 rfl ?_
                      refine j_iconst hc (v := nI 3) dL_law_1282 (by decide) ?_
                      refine j_iremE hc (by decide) (z := nI ((X / 17) % 3)) (pk_rem (by omega) (by omega) (by omega)) dL_law_1283 ?_
                      refine j_if_ne hc 1343 dL_law_1284 (by decide) (fun h1284 => ?_) (fun h1284 => ?_)
                      · -- taken
                        refine j_lv [(0, .ref bb), (1, .ref (ad 0)), (2, .ref (ad 15)), (3, .ref (ad 16)), (4, .ref (ad 17)), (5, .ref (ad 18)), (6, .ref (ad 19)), (7, .ref (ad 20)), (8, .ref (ad 21)), (9, .ref (ad 22)), (10, .ref (ad 23)), (11, .int (nI 1)), (12, .int (nI t)), (15, .int (nI (X / 17)))] ⟨rfl, rfl, rfl, rfl, rfl, rfl, rfl, rfl, rfl, rfl, rfl, rfl, rfl, rfl, trivial⟩ ?_
                        exact op_pass hc H hN hY (by omega) (by omega) (next (X / 17) (by omega))
                      · -- not taken
                        refine j_lv [(0, .ref bb), (1, .ref (ad 0)), (2, .ref (ad 15)), (3, .ref (ad 16)), (4, .ref (ad 17)), (5, .ref (ad 18)), (6, .ref (ad 19)), (7, .ref (ad 20)), (8, .ref (ad 21)), (9, .ref (ad 22)), (10, .ref (ad 23)), (11, .int (nI 1)), (12, .int (nI t)), (15, .int (nI (X / 17)))] ⟨rfl, rfl, rfl, rfl, rfl, rfl, rfl, rfl, rfl, rfl, rfl, rfl, rfl, rfl, trivial⟩ ?_
                        exact op_times hc H hN hY (by omega) (by omega) (next (X / 17) (by omega))
                  · -- not taken
                    refine j_lv [(0, .ref bb), (1, .ref (ad 0)), (2, .ref (ad 15)), (3, .ref (ad 16)), (4, .ref (ad 17)), (5, .ref (ad 18)), (6, .ref (ad 19)), (7, .ref (ad 20)), (8, .ref (ad 21)), (9, .ref (ad 22)), (10, .ref (ad 23)), (11, .int (nI 1)), (12, .int (nI t)), (15, .int (nI (X / 17)))] ⟨rfl, rfl, rfl, rfl, rfl, rfl, rfl, rfl, rfl, rfl, rfl, rfl, rfl, rfl, trivial⟩ ?_
                    exact op_gap hc H hN hY (by omega) (by omega) (next (X / 17) (by omega))
                · -- not taken
                  refine j_lv [(0, .ref bb), (1, .ref (ad 0)), (2, .ref (ad 15)), (3, .ref (ad 16)), (4, .ref (ad 17)), (5, .ref (ad 18)), (6, .ref (ad 19)), (7, .ref (ad 20)), (8, .ref (ad 21)), (9, .ref (ad 22)), (10, .ref (ad 23)), (11, .int (nI 1)), (12, .int (nI t)), (15, .int (nI (X / 17)))] ⟨rfl, rfl, rfl, rfl, rfl, rfl, rfl, rfl, rfl, rfl, rfl, rfl, rfl, rfl, trivial⟩ ?_
                  exact op_wk hc H hN hY (by omega) (by omega) (next (X / 17) (by omega))
              · -- not taken
                refine j_aload_n hc dL_law_864 rfl ?_
                refine j_bipush hc (v := nI 63) dL_law_865 (by decide) ?_
                refine xl_1 hc (i := 63) (by omega) (v := (nI h)) (G.w63) dL_law_867 ?_
                refine j_bipush hc (v := nI 60) dL_law_868 (by decide) ?_
                refine j_icmp_ge hc 985 dL_law_870 (by decide) (fun h870 => ?_) (fun h870 => ?_)
                · -- taken
                  refine j_iload hc dL_law_985 rfl ?_
                  refine j_bipush hc (v := nI 10) dL_law_987 (by decide) ?_
                  refine j_icmp_ne hc 1125 dL_law_989 (by decide) (fun h989 => ?_) (fun h989 => ?_)
                  · -- taken
                    refine j_iload hc dL_law_1125 rfl ?_
                    refine j_bipush hc (v := nI 11) dL_law_1127 (by decide) ?_
                    refine j_icmp_ne hc 1273 dL_law_1129 (by decide) (fun h1129 => ?_) (fun h1129 => ?_)
                    · -- taken
                      refine j_iload hc dL_law_1273 rfl ?_
                      refine j_bipush hc (v := nI 12) dL_law_1275 (by decide) ?_
                      refine j_icmp_ne hc 1343 dL_law_1277 (by decide) (fun h1277 => ?_) (fun h1277 => ?_)
                      · -- taken
                        refine j_lv [(0, .ref bb), (1, .ref (ad 0)), (2, .ref (ad 15)), (3, .ref (ad 16)), (4, .ref (ad 17)), (5, .ref (ad 18)), (6, .ref (ad 19)), (7, .ref (ad 20)), (8, .ref (ad 21)), (9, .ref (ad 22)), (10, .ref (ad 23)), (11, .int (nI 1)), (12, .int (nI t)), (15, .int (nI (X / 17)))] ⟨rfl, rfl, rfl, rfl, rfl, rfl, rfl, rfl, rfl, rfl, rfl, rfl, rfl, rfl, trivial⟩ ?_
                        exact op_pass hc H hN hY (by omega) (by omega) (next (X / 17) (by omega))
                      · -- not taken
                        refine j_iload hc dL_law_1280 rfl ?_
                        refine j_iconst hc (v := nI 3) dL_law_1282 (by decide) ?_
                        refine j_iremE hc (by decide) (z := nI ((X / 17) % 3)) (pk_rem (by omega) (by omega) (by omega)) dL_law_1283 ?_
                        refine j_if_ne hc 1343 dL_law_1284 (by decide) (fun h1284 => ?_) (fun h1284 => ?_)
                        · -- taken
                          refine j_lv [(0, .ref bb), (1, .ref (ad 0)), (2, .ref (ad 15)), (3, .ref (ad 16)), (4, .ref (ad 17)), (5, .ref (ad 18)), (6, .ref (ad 19)), (7, .ref (ad 20)), (8, .ref (ad 21)), (9, .ref (ad 22)), (10, .ref (ad 23)), (11, .int (nI 1)), (12, .int (nI t)), (15, .int (nI (X / 17)))] ⟨rfl, rfl, rfl, rfl, rfl, rfl, rfl, rfl, rfl, rfl, rfl, rfl, rfl, rfl, trivial⟩ ?_
                          exact op_pass hc H hN hY (by omega) (by omega) (next (X / 17) (by omega))
                        · -- not taken
                          refine j_lv [(0, .ref bb), (1, .ref (ad 0)), (2, .ref (ad 15)), (3, .ref (ad 16)), (4, .ref (ad 17)), (5, .ref (ad 18)), (6, .ref (ad 19)), (7, .ref (ad 20)), (8, .ref (ad 21)), (9, .ref (ad 22)), (10, .ref (ad 23)), (11, .int (nI 1)), (12, .int (nI t)), (15, .int (nI (X / 17)))] ⟨rfl, rfl, rfl, rfl, rfl, rfl, rfl, rfl, rfl, rfl, rfl, rfl, rfl, rfl, trivial⟩ ?_
                          exact op_times hc H hN hY (by omega) (by omega) (next (X / 17) (by omega))
                    · -- not taken
                      refine j_lv [(0, .ref bb), (1, .ref (ad 0)), (2, .ref (ad 15)), (3, .ref (ad 16)), (4, .ref (ad 17)), (5, .ref (ad 18)), (6, .ref (ad 19)), (7, .ref (ad 20)), (8, .ref (ad 21)), (9, .ref (ad 22)), (10, .ref (ad 23)), (11, .int (nI 1)), (12, .int (nI t)), (15, .int (nI (X / 17)))] ⟨rfl, rfl, rfl, rfl, rfl, rfl, rfl, rfl, rfl, rfl, rfl, rfl, rfl, rfl, trivial⟩ ?_
                      exact op_gap hc H hN hY (by omega) (by omega) (next (X / 17) (by omega))
                  · -- not taken
                    refine j_lv [(0, .ref bb), (1, .ref (ad 0)), (2, .ref (ad 15)), (3, .ref (ad 16)), (4, .ref (ad 17)), (5, .ref (ad 18)), (6, .ref (ad 19)), (7, .ref (ad 20)), (8, .ref (ad 21)), (9, .ref (ad 22)), (10, .ref (ad 23)), (11, .int (nI 1)), (12, .int (nI t)), (15, .int (nI (X / 17)))] ⟨rfl, rfl, rfl, rfl, rfl, rfl, rfl, rfl, rfl, rfl, rfl, rfl, rfl, rfl, trivial⟩ ?_
                    exact op_wk hc H hN hY (by omega) (by omega) (next (X / 17) (by omega))
                · -- not taken
                  have hh60 : h < 60 := by
                    by_cases z : h < 60
                    · exact z
                    · exact absurd (nI_le (by omega) (by omega)) h870
                  refine j_lv [(0, .ref bb), (1, .ref (ad 0)), (2, .ref (ad 15)), (3, .ref (ad 16)), (4, .ref (ad 17)), (5, .ref (ad 18)), (6, .ref (ad 19)), (7, .ref (ad 20)), (8, .ref (ad 21)), (9, .ref (ad 22)), (10, .ref (ad 23)), (11, .int (nI 1)), (12, .int (nI t)), (15, .int (nI (X / 17)))] ⟨rfl, rfl, rfl, rfl, rfl, rfl, rfl, rfl, rfl, rfl, rfl, rfl, rfl, rfl, trivial⟩ ?_
                  exact op_hol hc H hN hY (by omega) (by omega) (next (X / 17) (by omega)) hh60
            · -- not taken
              refine j_aload_n hc dL_law_690 rfl ?_
              refine j_iconst hc (v := nI 2) dL_law_691 (by decide) ?_
              refine xl_0 hc (i := 2) (by omega) (v := (nI n)) (G.n2) dL_law_692 ?_
              refine j_if_le hc 857 dL_law_693 (by decide) (fun h693 => ?_) (fun h693 => ?_)
              · -- taken
                refine j_iload hc dL_law_857 rfl ?_
                refine j_bipush hc (v := nI 9) dL_law_859 (by decide) ?_
                refine j_icmp_ne hc 985 dL_law_861 (by decide) (fun h861 => ?_) (fun h861 => ?_)
                · -- taken
                  refine j_iload hc dL_law_985 rfl ?_
                  refine j_bipush hc (v := nI 10) dL_law_987 (by decide) ?_
                  refine j_icmp_ne hc 1125 dL_law_989 (by decide) (fun h989 => ?_) (fun h989 => ?_)
                  · -- taken
                    refine j_iload hc dL_law_1125 rfl ?_
                    refine j_bipush hc (v := nI 11) dL_law_1127 (by decide) ?_
                    refine j_icmp_ne hc 1273 dL_law_1129 (by decide) (fun h1129 => ?_) (fun h1129 => ?_)
                    · -- taken
                      refine j_iload hc dL_law_1273 rfl ?_
                      refine j_bipush hc (v := nI 12) dL_law_1275 (by decide) ?_
                      refine j_icmp_ne hc 1343 dL_law_1277 (by decide) (fun h1277 => ?_) (fun h1277 => ?_)
                      · -- taken
                        refine j_lv [(0, .ref bb), (1, .ref (ad 0)), (2, .ref (ad 15)), (3, .ref (ad 16)), (4, .ref (ad 17)), (5, .ref (ad 18)), (6, .ref (ad 19)), (7, .ref (ad 20)), (8, .ref (ad 21)), (9, .ref (ad 22)), (10, .ref (ad 23)), (11, .int (nI 1)), (12, .int (nI t)), (15, .int (nI (X / 17)))] ⟨rfl, rfl, rfl, rfl, rfl, rfl, rfl, rfl, rfl, rfl, rfl, rfl, rfl, rfl, trivial⟩ ?_
                        exact op_pass hc H hN hY (by omega) (by omega) (next (X / 17) (by omega))
                      · -- not taken
                        refine j_iload hc dL_law_1280 rfl ?_
                        refine j_iconst hc (v := nI 3) dL_law_1282 (by decide) ?_
                        refine j_iremE hc (by decide) (z := nI ((X / 17) % 3)) (pk_rem (by omega) (by omega) (by omega)) dL_law_1283 ?_
                        refine j_if_ne hc 1343 dL_law_1284 (by decide) (fun h1284 => ?_) (fun h1284 => ?_)
                        · -- taken
                          refine j_lv [(0, .ref bb), (1, .ref (ad 0)), (2, .ref (ad 15)), (3, .ref (ad 16)), (4, .ref (ad 17)), (5, .ref (ad 18)), (6, .ref (ad 19)), (7, .ref (ad 20)), (8, .ref (ad 21)), (9, .ref (ad 22)), (10, .ref (ad 23)), (11, .int (nI 1)), (12, .int (nI t)), (15, .int (nI (X / 17)))] ⟨rfl, rfl, rfl, rfl, rfl, rfl, rfl, rfl, rfl, rfl, rfl, rfl, rfl, rfl, trivial⟩ ?_
                          exact op_pass hc H hN hY (by omega) (by omega) (next (X / 17) (by omega))
                        · -- not taken
                          refine j_lv [(0, .ref bb), (1, .ref (ad 0)), (2, .ref (ad 15)), (3, .ref (ad 16)), (4, .ref (ad 17)), (5, .ref (ad 18)), (6, .ref (ad 19)), (7, .ref (ad 20)), (8, .ref (ad 21)), (9, .ref (ad 22)), (10, .ref (ad 23)), (11, .int (nI 1)), (12, .int (nI t)), (15, .int (nI (X / 17)))] ⟨rfl, rfl, rfl, rfl, rfl, rfl, rfl, rfl, rfl, rfl, rfl, rfl, rfl, rfl, trivial⟩ ?_
                          exact op_times hc H hN hY (by omega) (by omega) (next (X / 17) (by omega))
                    · -- not taken
                      refine j_lv [(0, .ref bb), (1, .ref (ad 0)), (2, .ref (ad 15)), (3, .ref (ad 16)), (4, .ref (ad 17)), (5, .ref (ad 18)), (6, .ref (ad 19)), (7, .ref (ad 20)), (8, .ref (ad 21)), (9, .ref (ad 22)), (10, .ref (ad 23)), (11, .int (nI 1)), (12, .int (nI t)), (15, .int (nI (X / 17)))] ⟨rfl, rfl, rfl, rfl, rfl, rfl, rfl, rfl, rfl, rfl, rfl, rfl, rfl, rfl, trivial⟩ ?_
                      exact op_gap hc H hN hY (by omega) (by omega) (next (X / 17) (by omega))
                  · -- not taken
                    refine j_lv [(0, .ref bb), (1, .ref (ad 0)), (2, .ref (ad 15)), (3, .ref (ad 16)), (4, .ref (ad 17)), (5, .ref (ad 18)), (6, .ref (ad 19)), (7, .ref (ad 20)), (8, .ref (ad 21)), (9, .ref (ad 22)), (10, .ref (ad 23)), (11, .int (nI 1)), (12, .int (nI t)), (15, .int (nI (X / 17)))] ⟨rfl, rfl, rfl, rfl, rfl, rfl, rfl, rfl, rfl, rfl, rfl, rfl, rfl, rfl, trivial⟩ ?_
                    exact op_wk hc H hN hY (by omega) (by omega) (next (X / 17) (by omega))
                · -- not taken
                  refine j_aload_n hc dL_law_864 rfl ?_
                  refine j_bipush hc (v := nI 63) dL_law_865 (by decide) ?_
                  refine xl_1 hc (i := 63) (by omega) (v := (nI h)) (G.w63) dL_law_867 ?_
                  refine j_bipush hc (v := nI 60) dL_law_868 (by decide) ?_
                  refine j_icmp_ge hc 985 dL_law_870 (by decide) (fun h870 => ?_) (fun h870 => ?_)
                  · -- taken
                    refine j_iload hc dL_law_985 rfl ?_
                    refine j_bipush hc (v := nI 10) dL_law_987 (by decide) ?_
                    refine j_icmp_ne hc 1125 dL_law_989 (by decide) (fun h989 => ?_) (fun h989 => ?_)
                    · -- taken
                      refine j_iload hc dL_law_1125 rfl ?_
                      refine j_bipush hc (v := nI 11) dL_law_1127 (by decide) ?_
                      refine j_icmp_ne hc 1273 dL_law_1129 (by decide) (fun h1129 => ?_) (fun h1129 => ?_)
                      · -- taken
                        refine j_iload hc dL_law_1273 rfl ?_
                        refine j_bipush hc (v := nI 12) dL_law_1275 (by decide) ?_
                        refine j_icmp_ne hc 1343 dL_law_1277 (by decide) (fun h1277 => ?_) (fun h1277 => ?_)
                        · -- taken
                          refine j_lv [(0, .ref bb), (1, .ref (ad 0)), (2, .ref (ad 15)), (3, .ref (ad 16)), (4, .ref (ad 17)), (5, .ref (ad 18)), (6, .ref (ad 19)), (7, .ref (ad 20)), (8, .ref (ad 21)), (9, .ref (ad 22)), (10, .ref (ad 23)), (11, .int (nI 1)), (12, .int (nI t)), (15, .int (nI (X / 17)))] ⟨rfl, rfl, rfl, rfl, rfl, rfl, rfl, rfl, rfl, rfl, rfl, rfl, rfl, rfl, trivial⟩ ?_
                          exact op_pass hc H hN hY (by omega) (by omega) (next (X / 17) (by omega))
                        · -- not taken
                          refine j_iload hc dL_law_1280 rfl ?_
                          refine j_iconst hc (v := nI 3) dL_law_1282 (by decide) ?_
                          refine j_iremE hc (by decide) (z := nI ((X / 17) % 3)) (pk_rem (by omega) (by omega) (by omega)) dL_law_1283 ?_
                          refine j_if_ne hc 1343 dL_law_1284 (by decide) (fun h1284 => ?_) (fun h1284 => ?_)
                          · -- taken
                            refine j_lv [(0, .ref bb), (1, .ref (ad 0)), (2, .ref (ad 15)), (3, .ref (ad 16)), (4, .ref (ad 17)), (5, .ref (ad 18)), (6, .ref (ad 19)), (7, .ref (ad 20)), (8, .ref (ad 21)), (9, .ref (ad 22)), (10, .ref (ad 23)), (11, .int (nI 1)), (12, .int (nI t)), (15, .int (nI (X / 17)))] ⟨rfl, rfl, rfl, rfl, rfl, rfl, rfl, rfl, rfl, rfl, rfl, rfl, rfl, rfl, trivial⟩ ?_
                            exact op_pass hc H hN hY (by omega) (by omega) (next (X / 17) (by omega))
                          · -- not taken
                            refine j_lv [(0, .ref bb), (1, .ref (ad 0)), (2, .ref (ad 15)), (3, .ref (ad 16)), (4, .ref (ad 17)), (5, .ref (ad 18)), (6, .ref (ad 19)), (7, .ref (ad 20)), (8, .ref (ad 21)), (9, .ref (ad 22)), (10, .ref (ad 23)), (11, .int (nI 1)), (12, .int (nI t)), (15, .int (nI (X / 17)))] ⟨rfl, rfl, rfl, rfl, rfl, rfl, rfl, rfl, rfl, rfl, rfl, rfl, rfl, rfl, trivial⟩ ?_
                            exact op_times hc H hN hY (by omega) (by omega) (next (X / 17) (by omega))
                      · -- not taken
                        refine j_lv [(0, .ref bb), (1, .ref (ad 0)), (2, .ref (ad 15)), (3, .ref (ad 16)), (4, .ref (ad 17)), (5, .ref (ad 18)), (6, .ref (ad 19)), (7, .ref (ad 20)), (8, .ref (ad 21)), (9, .ref (ad 22)), (10, .ref (ad 23)), (11, .int (nI 1)), (12, .int (nI t)), (15, .int (nI (X / 17)))] ⟨rfl, rfl, rfl, rfl, rfl, rfl, rfl, rfl, rfl, rfl, rfl, rfl, rfl, rfl, trivial⟩ ?_
                        exact op_gap hc H hN hY (by omega) (by omega) (next (X / 17) (by omega))
                    · -- not taken
                      refine j_lv [(0, .ref bb), (1, .ref (ad 0)), (2, .ref (ad 15)), (3, .ref (ad 16)), (4, .ref (ad 17)), (5, .ref (ad 18)), (6, .ref (ad 19)), (7, .ref (ad 20)), (8, .ref (ad 21)), (9, .ref (ad 22)), (10, .ref (ad 23)), (11, .int (nI 1)), (12, .int (nI t)), (15, .int (nI (X / 17)))] ⟨rfl, rfl, rfl, rfl, rfl, rfl, rfl, rfl, rfl, rfl, rfl, rfl, rfl, rfl, trivial⟩ ?_
                      exact op_wk hc H hN hY (by omega) (by omega) (next (X / 17) (by omega))
                  · -- not taken
                    have hh60 : h < 60 := by
                      by_cases z : h < 60
                      · exact z
                      · exact absurd (nI_le (by omega) (by omega)) h870
                    refine j_lv [(0, .ref bb), (1, .ref (ad 0)), (2, .ref (ad 15)), (3, .ref (ad 16)), (4, .ref (ad 17)), (5, .ref (ad 18)), (6, .ref (ad 19)), (7, .ref (ad 20)), (8, .ref (ad 21)), (9, .ref (ad 22)), (10, .ref (ad 23)), (11, .int (nI 1)), (12, .int (nI t)), (15, .int (nI (X / 17)))] ⟨rfl, rfl, rfl, rfl, rfl, rfl, rfl, rfl, rfl, rfl, rfl, rfl, rfl, rfl, trivial⟩ ?_
                    exact op_hol hc H hN hY (by omega) (by omega) (next (X / 17) (by omega)) hh60
              · -- not taken
                have hn0 : 0 < n := by
                  by_cases z : n = 0
                  · exact absurd (by rw [z]; decide) h693
                  · omega
                refine j_lv [(0, .ref bb), (1, .ref (ad 0)), (2, .ref (ad 15)), (3, .ref (ad 16)), (4, .ref (ad 17)), (5, .ref (ad 18)), (6, .ref (ad 19)), (7, .ref (ad 20)), (8, .ref (ad 21)), (9, .ref (ad 22)), (10, .ref (ad 23)), (11, .int (nI 1)), (12, .int (nI t)), (15, .int (nI (X / 17))), (16, .int (nI β))] ⟨rfl, rfl, rfl, rfl, rfl, rfl, rfl, rfl, rfl, rfl, rfl, rfl, rfl, rfl, rfl, trivial⟩ ?_
                exact op_prom hc H hN hY (by omega) (by omega) (next (X / 17) (by omega)) (hβ hn0)
          · -- not taken
            refine j_aload_n hc dL_law_580 rfl ?_
            refine j_iconst hc (v := nI 2) dL_law_581 (by decide) ?_
            refine xl_0 hc (i := 2) (by omega) (v := (nI n)) (G.n2) dL_law_582 ?_
            refine j_if_le hc 683 dL_law_583 (by decide) (fun h583 => ?_) (fun h583 => ?_)
            · -- taken
              refine j_iload hc dL_law_683 rfl ?_
              refine j_bipush hc (v := nI 9) dL_law_685 (by decide) ?_
              refine j_icmp_ge hc 857 dL_law_687 (by decide) (fun h687 => ?_) (fun h687 => ?_)
              · -- taken
                refine j_iload hc dL_law_857 rfl ?_
                refine j_bipush hc (v := nI 9) dL_law_859 (by decide) ?_
                refine j_icmp_ne hc 985 dL_law_861 (by decide) (fun h861 => ?_) (fun h861 => ?_)
                · -- taken
                  refine j_iload hc dL_law_985 rfl ?_
                  refine j_bipush hc (v := nI 10) dL_law_987 (by decide) ?_
                  refine j_icmp_ne hc 1125 dL_law_989 (by decide) (fun h989 => ?_) (fun h989 => ?_)
                  · -- taken
                    refine j_iload hc dL_law_1125 rfl ?_
                    refine j_bipush hc (v := nI 11) dL_law_1127 (by decide) ?_
                    refine j_icmp_ne hc 1273 dL_law_1129 (by decide) (fun h1129 => ?_) (fun h1129 => ?_)
                    · -- taken
                      refine j_iload hc dL_law_1273 rfl ?_
                      refine j_bipush hc (v := nI 12) dL_law_1275 (by decide) ?_
                      refine j_icmp_ne hc 1343 dL_law_1277 (by decide) (fun h1277 => ?_) (fun h1277 => ?_)
                      · -- taken
                        refine j_lv [(0, .ref bb), (1, .ref (ad 0)), (2, .ref (ad 15)), (3, .ref (ad 16)), (4, .ref (ad 17)), (5, .ref (ad 18)), (6, .ref (ad 19)), (7, .ref (ad 20)), (8, .ref (ad 21)), (9, .ref (ad 22)), (10, .ref (ad 23)), (11, .int (nI 1)), (12, .int (nI t)), (15, .int (nI (X / 17)))] ⟨rfl, rfl, rfl, rfl, rfl, rfl, rfl, rfl, rfl, rfl, rfl, rfl, rfl, rfl, trivial⟩ ?_
                        exact op_pass hc H hN hY (by omega) (by omega) (next (X / 17) (by omega))
                      · -- not taken
                        refine j_iload hc dL_law_1280 rfl ?_
                        refine j_iconst hc (v := nI 3) dL_law_1282 (by decide) ?_
                        refine j_iremE hc (by decide) (z := nI ((X / 17) % 3)) (pk_rem (by omega) (by omega) (by omega)) dL_law_1283 ?_
                        refine j_if_ne hc 1343 dL_law_1284 (by decide) (fun h1284 => ?_) (fun h1284 => ?_)
                        · -- taken
                          refine j_lv [(0, .ref bb), (1, .ref (ad 0)), (2, .ref (ad 15)), (3, .ref (ad 16)), (4, .ref (ad 17)), (5, .ref (ad 18)), (6, .ref (ad 19)), (7, .ref (ad 20)), (8, .ref (ad 21)), (9, .ref (ad 22)), (10, .ref (ad 23)), (11, .int (nI 1)), (12, .int (nI t)), (15, .int (nI (X / 17)))] ⟨rfl, rfl, rfl, rfl, rfl, rfl, rfl, rfl, rfl, rfl, rfl, rfl, rfl, rfl, trivial⟩ ?_
                          exact op_pass hc H hN hY (by omega) (by omega) (next (X / 17) (by omega))
                        · -- not taken
                          refine j_lv [(0, .ref bb), (1, .ref (ad 0)), (2, .ref (ad 15)), (3, .ref (ad 16)), (4, .ref (ad 17)), (5, .ref (ad 18)), (6, .ref (ad 19)), (7, .ref (ad 20)), (8, .ref (ad 21)), (9, .ref (ad 22)), (10, .ref (ad 23)), (11, .int (nI 1)), (12, .int (nI t)), (15, .int (nI (X / 17)))] ⟨rfl, rfl, rfl, rfl, rfl, rfl, rfl, rfl, rfl, rfl, rfl, rfl, rfl, rfl, trivial⟩ ?_
                          exact op_times hc H hN hY (by omega) (by omega) (next (X / 17) (by omega))
                    · -- not taken
                      refine j_lv [(0, .ref bb), (1, .ref (ad 0)), (2, .ref (ad 15)), (3, .ref (ad 16)), (4, .ref (ad 17)), (5, .ref (ad 18)), (6, .ref (ad 19)), (7, .ref (ad 20)), (8, .ref (ad 21)), (9, .ref (ad 22)), (10, .ref (ad 23)), (11, .int (nI 1)), (12, .int (nI t)), (15, .int (nI (X / 17)))] ⟨rfl, rfl, rfl, rfl, rfl, rfl, rfl, rfl, rfl, rfl, rfl, rfl, rfl, rfl, trivial⟩ ?_
                      exact op_gap hc H hN hY (by omega) (by omega) (next (X / 17) (by omega))
                  · -- not taken
                    refine j_lv [(0, .ref bb), (1, .ref (ad 0)), (2, .ref (ad 15)), (3, .ref (ad 16)), (4, .ref (ad 17)), (5, .ref (ad 18)), (6, .ref (ad 19)), (7, .ref (ad 20)), (8, .ref (ad 21)), (9, .ref (ad 22)), (10, .ref (ad 23)), (11, .int (nI 1)), (12, .int (nI t)), (15, .int (nI (X / 17)))] ⟨rfl, rfl, rfl, rfl, rfl, rfl, rfl, rfl, rfl, rfl, rfl, rfl, rfl, rfl, trivial⟩ ?_
                    exact op_wk hc H hN hY (by omega) (by omega) (next (X / 17) (by omega))
                · -- not taken
                  refine j_aload_n hc dL_law_864 rfl ?_
                  refine j_bipush hc (v := nI 63) dL_law_865 (by decide) ?_
                  refine xl_1 hc (i := 63) (by omega) (v := (nI h)) (G.w63) dL_law_867 ?_
                  refine j_bipush hc (v := nI 60) dL_law_868 (by decide) ?_
                  refine j_icmp_ge hc 985 dL_law_870 (by decide) (fun h870 => ?_) (fun h870 => ?_)
                  · -- taken
                    refine j_iload hc dL_law_985 rfl ?_
                    refine j_bipush hc (v := nI 10) dL_law_987 (by decide) ?_
                    refine j_icmp_ne hc 1125 dL_law_989 (by decide) (fun h989 => ?_) (fun h989 => ?_)
                    · -- taken
                      refine j_iload hc dL_law_1125 rfl ?_
                      refine j_bipush hc (v := nI 11) dL_law_1127 (by decide) ?_
                      refine j_icmp_ne hc 1273 dL_law_1129 (by decide) (fun h1129 => ?_) (fun h1129 => ?_)
                      · -- taken
                        refine j_iload hc dL_law_1273 rfl ?_
                        refine j_bipush hc (v := nI 12) dL_law_1275 (by decide) ?_
                        refine j_icmp_ne hc 1343 dL_law_1277 (by decide) (fun h1277 => ?_) (fun h1277 => ?_)
                        · -- taken
                          refine j_lv [(0, .ref bb), (1, .ref (ad 0)), (2, .ref (ad 15)), (3, .ref (ad 16)), (4, .ref (ad 17)), (5, .ref (ad 18)), (6, .ref (ad 19)), (7, .ref (ad 20)), (8, .ref (ad 21)), (9, .ref (ad 22)), (10, .ref (ad 23)), (11, .int (nI 1)), (12, .int (nI t)), (15, .int (nI (X / 17)))] ⟨rfl, rfl, rfl, rfl, rfl, rfl, rfl, rfl, rfl, rfl, rfl, rfl, rfl, rfl, trivial⟩ ?_
                          exact op_pass hc H hN hY (by omega) (by omega) (next (X / 17) (by omega))
                        · -- not taken
                          refine j_iload hc dL_law_1280 rfl ?_
                          refine j_iconst hc (v := nI 3) dL_law_1282 (by decide) ?_
                          refine j_iremE hc (by decide) (z := nI ((X / 17) % 3)) (pk_rem (by omega) (by omega) (by omega)) dL_law_1283 ?_
                          refine j_if_ne hc 1343 dL_law_1284 (by decide) (fun h1284 => ?_) (fun h1284 => ?_)
                          · -- taken
                            refine j_lv [(0, .ref bb), (1, .ref (ad 0)), (2, .ref (ad 15)), (3, .ref (ad 16)), (4, .ref (ad 17)), (5, .ref (ad 18)), (6, .ref (ad 19)), (7, .ref (ad 20)), (8, .ref (ad 21)), (9, .ref (ad 22)), (10, .ref (ad 23)), (11, .int (nI 1)), (12, .int (nI t)), (15, .int (nI (X / 17)))] ⟨rfl, rfl, rfl, rfl, rfl, rfl, rfl, rfl, rfl, rfl, rfl, rfl, rfl, rfl, trivial⟩ ?_
                            exact op_pass hc H hN hY (by omega) (by omega) (next (X / 17) (by omega))
                          · -- not taken
                            refine j_lv [(0, .ref bb), (1, .ref (ad 0)), (2, .ref (ad 15)), (3, .ref (ad 16)), (4, .ref (ad 17)), (5, .ref (ad 18)), (6, .ref (ad 19)), (7, .ref (ad 20)), (8, .ref (ad 21)), (9, .ref (ad 22)), (10, .ref (ad 23)), (11, .int (nI 1)), (12, .int (nI t)), (15, .int (nI (X / 17)))] ⟨rfl, rfl, rfl, rfl, rfl, rfl, rfl, rfl, rfl, rfl, rfl, rfl, rfl, rfl, trivial⟩ ?_
                            exact op_times hc H hN hY (by omega) (by omega) (next (X / 17) (by omega))
                      · -- not taken
                        refine j_lv [(0, .ref bb), (1, .ref (ad 0)), (2, .ref (ad 15)), (3, .ref (ad 16)), (4, .ref (ad 17)), (5, .ref (ad 18)), (6, .ref (ad 19)), (7, .ref (ad 20)), (8, .ref (ad 21)), (9, .ref (ad 22)), (10, .ref (ad 23)), (11, .int (nI 1)), (12, .int (nI t)), (15, .int (nI (X / 17)))] ⟨rfl, rfl, rfl, rfl, rfl, rfl, rfl, rfl, rfl, rfl, rfl, rfl, rfl, rfl, trivial⟩ ?_
                        exact op_gap hc H hN hY (by omega) (by omega) (next (X / 17) (by omega))
                    · -- not taken
                      refine j_lv [(0, .ref bb), (1, .ref (ad 0)), (2, .ref (ad 15)), (3, .ref (ad 16)), (4, .ref (ad 17)), (5, .ref (ad 18)), (6, .ref (ad 19)), (7, .ref (ad 20)), (8, .ref (ad 21)), (9, .ref (ad 22)), (10, .ref (ad 23)), (11, .int (nI 1)), (12, .int (nI t)), (15, .int (nI (X / 17)))] ⟨rfl, rfl, rfl, rfl, rfl, rfl, rfl, rfl, rfl, rfl, rfl, rfl, rfl, rfl, trivial⟩ ?_
                      exact op_wk hc H hN hY (by omega) (by omega) (next (X / 17) (by omega))
                  · -- not taken
                    have hh60 : h < 60 := by
                      by_cases z : h < 60
                      · exact z
                      · exact absurd (nI_le (by omega) (by omega)) h870
                    refine j_lv [(0, .ref bb), (1, .ref (ad 0)), (2, .ref (ad 15)), (3, .ref (ad 16)), (4, .ref (ad 17)), (5, .ref (ad 18)), (6, .ref (ad 19)), (7, .ref (ad 20)), (8, .ref (ad 21)), (9, .ref (ad 22)), (10, .ref (ad 23)), (11, .int (nI 1)), (12, .int (nI t)), (15, .int (nI (X / 17)))] ⟨rfl, rfl, rfl, rfl, rfl, rfl, rfl, rfl, rfl, rfl, rfl, rfl, rfl, rfl, trivial⟩ ?_
                    exact op_hol hc H hN hY (by omega) (by omega) (next (X / 17) (by omega)) hh60
              · -- not taken
                refine j_aload_n hc dL_law_690 rfl ?_
                refine j_iconst hc (v := nI 2) dL_law_691 (by decide) ?_
                refine xl_0 hc (i := 2) (by omega) (v := (nI n)) (G.n2) dL_law_692 ?_
                refine j_if_le hc 857 dL_law_693 (by decide) (fun h693 => ?_) (fun h693 => ?_)
                · -- taken
                  refine j_iload hc dL_law_857 rfl ?_
                  refine j_bipush hc (v := nI 9) dL_law_859 (by decide) ?_
                  refine j_icmp_ne hc 985 dL_law_861 (by decide) (fun h861 => ?_) (fun h861 => ?_)
                  · -- taken
                    refine j_iload hc dL_law_985 rfl ?_
                    refine j_bipush hc (v := nI 10) dL_law_987 (by decide) ?_
                    refine j_icmp_ne hc 1125 dL_law_989 (by decide) (fun h989 => ?_) (fun h989 => ?_)
                    · -- taken
                      refine j_iload hc dL_law_1125 rfl ?_
                      refine j_bipush hc (v := nI 11) dL_law_1127 (by decide) ?_
                      refine j_icmp_ne hc 1273 dL_law_1129 (by decide) (fun h1129 => ?_) (fun h1129 => ?_)
                      · -- taken
                        refine j_iload hc dL_law_1273 rfl ?_
                        refine j_bipush hc (v := nI 12) dL_law_1275 (by decide) ?_
                        refine j_icmp_ne hc 1343 dL_law_1277 (by decide) (fun h1277 => ?_) (fun h1277 => ?_)
                        · -- taken
                          refine j_lv [(0, .ref bb), (1, .ref (ad 0)), (2, .ref (ad 15)), (3, .ref (ad 16)), (4, .ref (ad 17)), (5, .ref (ad 18)), (6, .ref (ad 19)), (7, .ref (ad 20)), (8, .ref (ad 21)), (9, .ref (ad 22)), (10, .ref (ad 23)), (11, .int (nI 1)), (12, .int (nI t)), (15, .int (nI (X / 17)))] ⟨rfl, rfl, rfl, rfl, rfl, rfl, rfl, rfl, rfl, rfl, rfl, rfl, rfl, rfl, trivial⟩ ?_
                          exact op_pass hc H hN hY (by omega) (by omega) (next (X / 17) (by omega))
                        · -- not taken
                          refine j_iload hc dL_law_1280 rfl ?_
                          refine j_iconst hc (v := nI 3) dL_law_1282 (by decide) ?_
                          refine j_iremE hc (by decide) (z := nI ((X / 17) % 3)) (pk_rem (by omega) (by omega) (by omega)) dL_law_1283 ?_
                          refine j_if_ne hc 1343 dL_law_1284 (by decide) (fun h1284 => ?_) (fun h1284 => ?_)
                          · -- taken
                            refine j_lv [(0, .ref bb), (1, .ref (ad 0)), (2, .ref (ad 15)), (3, .ref (ad 16)), (4, .ref (ad 17)), (5, .ref (ad 18)), (6, .ref (ad 19)), (7, .ref (ad 20)), (8, .ref (ad 21)), (9, .ref (ad 22)), (10, .ref (ad 23)), (11, .int (nI 1)), (12, .int (nI t)), (15, .int (nI (X / 17)))] ⟨rfl, rfl, rfl, rfl, rfl, rfl, rfl, rfl, rfl, rfl, rfl, rfl, rfl, rfl, trivial⟩ ?_
                            exact op_pass hc H hN hY (by omega) (by omega) (next (X / 17) (by omega))
                          · -- not taken
                            refine j_lv [(0, .ref bb), (1, .ref (ad 0)), (2, .ref (ad 15)), (3, .ref (ad 16)), (4, .ref (ad 17)), (5, .ref (ad 18)), (6, .ref (ad 19)), (7, .ref (ad 20)), (8, .ref (ad 21)), (9, .ref (ad 22)), (10, .ref (ad 23)), (11, .int (nI 1)), (12, .int (nI t)), (15, .int (nI (X / 17)))] ⟨rfl, rfl, rfl, rfl, rfl, rfl, rfl, rfl, rfl, rfl, rfl, rfl, rfl, rfl, trivial⟩ ?_
                            exact op_times hc H hN hY (by omega) (by omega) (next (X / 17) (by omega))
                      · -- not taken
                        refine j_lv [(0, .ref bb), (1, .ref (ad 0)), (2, .ref (ad 15)), (3, .ref (ad 16)), (4, .ref (ad 17)), (5, .ref (ad 18)), (6, .ref (ad 19)), (7, .ref (ad 20)), (8, .ref (ad 21)), (9, .ref (ad 22)), (10, .ref (ad 23)), (11, .int (nI 1)), (12, .int (nI t)), (15, .int (nI (X / 17)))] ⟨rfl, rfl, rfl, rfl, rfl, rfl, rfl, rfl, rfl, rfl, rfl, rfl, rfl, rfl, trivial⟩ ?_
                        exact op_gap hc H hN hY (by omega) (by omega) (next (X / 17) (by omega))
                    · -- not taken
                      refine j_lv [(0, .ref bb), (1, .ref (ad 0)), (2, .ref (ad 15)), (3, .ref (ad 16)), (4, .ref (ad 17)), (5, .ref (ad 18)), (6, .ref (ad 19)), (7, .ref (ad 20)), (8, .ref (ad 21)), (9, .ref (ad 22)), (10, .ref (ad 23)), (11, .int (nI 1)), (12, .int (nI t)), (15, .int (nI (X / 17)))] ⟨rfl, rfl, rfl, rfl, rfl, rfl, rfl, rfl, rfl, rfl, rfl, rfl, rfl, rfl, trivial⟩ ?_
                      exact op_wk hc H hN hY (by omega) (by omega) (next (X / 17) (by omega))
                  · -- not taken
                    refine j_aload_n hc dL_law_864 rfl ?_
                    refine j_bipush hc (v := nI 63) dL_law_865 (by decide) ?_
                    refine xl_1 hc (i := 63) (by omega) (v := (nI h)) (G.w63) dL_law_867 ?_
                    refine j_bipush hc (v := nI 60) dL_law_868 (by decide) ?_
                    refine j_icmp_ge hc 985 dL_law_870 (by decide) (fun h870 => ?_) (fun h870 => ?_)
                    · -- taken
                      refine j_iload hc dL_law_985 rfl ?_
                      refine j_bipush hc (v := nI 10) dL_law_987 (by decide) ?_
                      refine j_icmp_ne hc 1125 dL_law_989 (by decide) (fun h989 => ?_) (fun h989 => ?_)
                      · -- taken
                        refine j_iload hc dL_law_1125 rfl ?_
                        refine j_bipush hc (v := nI 11) dL_law_1127 (by decide) ?_
                        refine j_icmp_ne hc 1273 dL_law_1129 (by decide) (fun h1129 => ?_) (fun h1129 => ?_)
                        · -- taken
                          refine j_iload hc dL_law_1273 rfl ?_
                          refine j_bipush hc (v := nI 12) dL_law_1275 (by decide) ?_
                          refine j_icmp_ne hc 1343 dL_law_1277 (by decide) (fun h1277 => ?_) (fun h1277 => ?_)
                          · -- taken
                            refine j_lv [(0, .ref bb), (1, .ref (ad 0)), (2, .ref (ad 15)), (3, .ref (ad 16)), (4, .ref (ad 17)), (5, .ref (ad 18)), (6, .ref (ad 19)), (7, .ref (ad 20)), (8, .ref (ad 21)), (9, .ref (ad 22)), (10, .ref (ad 23)), (11, .int (nI 1)), (12, .int (nI t)), (15, .int (nI (X / 17)))] ⟨rfl, rfl, rfl, rfl, rfl, rfl, rfl, rfl, rfl, rfl, rfl, rfl, rfl, rfl, trivial⟩ ?_
                            exact op_pass hc H hN hY (by omega) (by omega) (next (X / 17) (by omega))
                          · -- not taken
                            refine j_iload hc dL_law_1280 rfl ?_
                            refine j_iconst hc (v := nI 3) dL_law_1282 (by decide) ?_
                            refine j_iremE hc (by decide) (z := nI ((X / 17) % 3)) (pk_rem (by omega) (by omega) (by omega)) dL_law_1283 ?_
                            refine j_if_ne hc 1343 dL_law_1284 (by decide) (fun h1284 => ?_) (fun h1284 => ?_)
                            · -- taken
                              refine j_lv [(0, .ref bb), (1, .ref (ad 0)), (2, .ref (ad 15)), (3, .ref (ad 16)), (4, .ref (ad 17)), (5, .ref (ad 18)), (6, .ref (ad 19)), (7, .ref (ad 20)), (8, .ref (ad 21)), (9, .ref (ad 22)), (10, .ref (ad 23)), (11, .int (nI 1)), (12, .int (nI t)), (15, .int (nI (X / 17)))] ⟨rfl, rfl, rfl, rfl, rfl, rfl, rfl, rfl, rfl, rfl, rfl, rfl, rfl, rfl, trivial⟩ ?_
                              exact op_pass hc H hN hY (by omega) (by omega) (next (X / 17) (by omega))
                            · -- not taken
                              refine j_lv [(0, .ref bb), (1, .ref (ad 0)), (2, .ref (ad 15)), (3, .ref (ad 16)), (4, .ref (ad 17)), (5, .ref (ad 18)), (6, .ref (ad 19)), (7, .ref (ad 20)), (8, .ref (ad 21)), (9, .ref (ad 22)), (10, .ref (ad 23)), (11, .int (nI 1)), (12, .int (nI t)), (15, .int (nI (X / 17)))] ⟨rfl, rfl, rfl, rfl, rfl, rfl, rfl, rfl, rfl, rfl, rfl, rfl, rfl, rfl, trivial⟩ ?_
                              exact op_times hc H hN hY (by omega) (by omega) (next (X / 17) (by omega))
                        · -- not taken
                          refine j_lv [(0, .ref bb), (1, .ref (ad 0)), (2, .ref (ad 15)), (3, .ref (ad 16)), (4, .ref (ad 17)), (5, .ref (ad 18)), (6, .ref (ad 19)), (7, .ref (ad 20)), (8, .ref (ad 21)), (9, .ref (ad 22)), (10, .ref (ad 23)), (11, .int (nI 1)), (12, .int (nI t)), (15, .int (nI (X / 17)))] ⟨rfl, rfl, rfl, rfl, rfl, rfl, rfl, rfl, rfl, rfl, rfl, rfl, rfl, rfl, trivial⟩ ?_
                          exact op_gap hc H hN hY (by omega) (by omega) (next (X / 17) (by omega))
                      · -- not taken
                        refine j_lv [(0, .ref bb), (1, .ref (ad 0)), (2, .ref (ad 15)), (3, .ref (ad 16)), (4, .ref (ad 17)), (5, .ref (ad 18)), (6, .ref (ad 19)), (7, .ref (ad 20)), (8, .ref (ad 21)), (9, .ref (ad 22)), (10, .ref (ad 23)), (11, .int (nI 1)), (12, .int (nI t)), (15, .int (nI (X / 17)))] ⟨rfl, rfl, rfl, rfl, rfl, rfl, rfl, rfl, rfl, rfl, rfl, rfl, rfl, rfl, trivial⟩ ?_
                        exact op_wk hc H hN hY (by omega) (by omega) (next (X / 17) (by omega))
                    · -- not taken
                      have hh60 : h < 60 := by
                        by_cases z : h < 60
                        · exact z
                        · exact absurd (nI_le (by omega) (by omega)) h870
                      refine j_lv [(0, .ref bb), (1, .ref (ad 0)), (2, .ref (ad 15)), (3, .ref (ad 16)), (4, .ref (ad 17)), (5, .ref (ad 18)), (6, .ref (ad 19)), (7, .ref (ad 20)), (8, .ref (ad 21)), (9, .ref (ad 22)), (10, .ref (ad 23)), (11, .int (nI 1)), (12, .int (nI t)), (15, .int (nI (X / 17)))] ⟨rfl, rfl, rfl, rfl, rfl, rfl, rfl, rfl, rfl, rfl, rfl, rfl, rfl, rfl, trivial⟩ ?_
                      exact op_hol hc H hN hY (by omega) (by omega) (next (X / 17) (by omega)) hh60
                · -- not taken
                  have hn0 : 0 < n := by
                    by_cases z : n = 0
                    · exact absurd (by rw [z]; decide) h693
                    · omega
                  refine j_lv [(0, .ref bb), (1, .ref (ad 0)), (2, .ref (ad 15)), (3, .ref (ad 16)), (4, .ref (ad 17)), (5, .ref (ad 18)), (6, .ref (ad 19)), (7, .ref (ad 20)), (8, .ref (ad 21)), (9, .ref (ad 22)), (10, .ref (ad 23)), (11, .int (nI 1)), (12, .int (nI t)), (15, .int (nI (X / 17))), (16, .int (nI β))] ⟨rfl, rfl, rfl, rfl, rfl, rfl, rfl, rfl, rfl, rfl, rfl, rfl, rfl, rfl, rfl, trivial⟩ ?_
                  exact op_prom hc H hN hY (by omega) (by omega) (next (X / 17) (by omega)) (hβ hn0)
            · -- not taken
              have hn0 : 0 < n := by
                by_cases z : n = 0
                · exact absurd (by rw [z]; decide) h583
                · omega
              refine j_lv [(0, .ref bb), (1, .ref (ad 0)), (2, .ref (ad 15)), (3, .ref (ad 16)), (4, .ref (ad 17)), (5, .ref (ad 18)), (6, .ref (ad 19)), (7, .ref (ad 20)), (8, .ref (ad 21)), (9, .ref (ad 22)), (10, .ref (ad 23)), (11, .int (nI 1)), (12, .int (nI t)), (15, .int (nI (X / 17))), (16, .int (nI β))] ⟨rfl, rfl, rfl, rfl, rfl, rfl, rfl, rfl, rfl, rfl, rfl, rfl, rfl, rfl, rfl, trivial⟩ ?_
              exact op_pay hc H hN hY (by omega) (by omega) (next (X / 17) (by omega)) (hβ hn0)
        · -- not taken
          refine j_aload_n hc dL_law_396 rfl ?_
          refine j_iconst hc (v := nI 2) dL_law_397 (by decide) ?_
          refine xl_0 hc (i := 2) (by omega) (v := (nI n)) (G.n2) dL_law_398 ?_
          refine j_if_le hc 573 dL_law_399 (by decide) (fun h399 => ?_) (fun h399 => ?_)
          · -- taken
            refine j_iload hc dL_law_573 rfl ?_
            refine j_bipush hc (v := nI 6) dL_law_575 (by decide) ?_
            refine j_icmp_ne hc 683 dL_law_577 (by decide) (fun h577 => ?_) (fun h577 => ?_)
            · -- taken
              refine j_iload hc dL_law_683 rfl ?_
              refine j_bipush hc (v := nI 9) dL_law_685 (by decide) ?_
              refine j_icmp_ge hc 857 dL_law_687 (by decide) (fun h687 => ?_) (fun h687 => ?_)
              · -- taken
                refine j_iload hc dL_law_857 rfl ?_
                refine j_bipush hc (v := nI 9) dL_law_859 (by decide) ?_
                refine j_icmp_ne hc 985 dL_law_861 (by decide) (fun h861 => ?_) (fun h861 => ?_)
                · -- taken
                  refine j_iload hc dL_law_985 rfl ?_
                  refine j_bipush hc (v := nI 10) dL_law_987 (by decide) ?_
                  refine j_icmp_ne hc 1125 dL_law_989 (by decide) (fun h989 => ?_) (fun h989 => ?_)
                  · -- taken
                    refine j_iload hc dL_law_1125 rfl ?_
                    refine j_bipush hc (v := nI 11) dL_law_1127 (by decide) ?_
                    refine j_icmp_ne hc 1273 dL_law_1129 (by decide) (fun h1129 => ?_) (fun h1129 => ?_)
                    · -- taken
                      refine j_iload hc dL_law_1273 rfl ?_
                      refine j_bipush hc (v := nI 12) dL_law_1275 (by decide) ?_
                      refine j_icmp_ne hc 1343 dL_law_1277 (by decide) (fun h1277 => ?_) (fun h1277 => ?_)
                      · -- taken
                        refine j_lv [(0, .ref bb), (1, .ref (ad 0)), (2, .ref (ad 15)), (3, .ref (ad 16)), (4, .ref (ad 17)), (5, .ref (ad 18)), (6, .ref (ad 19)), (7, .ref (ad 20)), (8, .ref (ad 21)), (9, .ref (ad 22)), (10, .ref (ad 23)), (11, .int (nI 1)), (12, .int (nI t)), (15, .int (nI (X / 17)))] ⟨rfl, rfl, rfl, rfl, rfl, rfl, rfl, rfl, rfl, rfl, rfl, rfl, rfl, rfl, trivial⟩ ?_
                        exact op_pass hc H hN hY (by omega) (by omega) (next (X / 17) (by omega))
                      · -- not taken
                        refine j_iload hc dL_law_1280 rfl ?_
                        refine j_iconst hc (v := nI 3) dL_law_1282 (by decide) ?_
                        refine j_iremE hc (by decide) (z := nI ((X / 17) % 3)) (pk_rem (by omega) (by omega) (by omega)) dL_law_1283 ?_
                        refine j_if_ne hc 1343 dL_law_1284 (by decide) (fun h1284 => ?_) (fun h1284 => ?_)
                        · -- taken
                          refine j_lv [(0, .ref bb), (1, .ref (ad 0)), (2, .ref (ad 15)), (3, .ref (ad 16)), (4, .ref (ad 17)), (5, .ref (ad 18)), (6, .ref (ad 19)), (7, .ref (ad 20)), (8, .ref (ad 21)), (9, .ref (ad 22)), (10, .ref (ad 23)), (11, .int (nI 1)), (12, .int (nI t)), (15, .int (nI (X / 17)))] ⟨rfl, rfl, rfl, rfl, rfl, rfl, rfl, rfl, rfl, rfl, rfl, rfl, rfl, rfl, trivial⟩ ?_
                          exact op_pass hc H hN hY (by omega) (by omega) (next (X / 17) (by omega))
                        · -- not taken
                          refine j_lv [(0, .ref bb), (1, .ref (ad 0)), (2, .ref (ad 15)), (3, .ref (ad 16)), (4, .ref (ad 17)), (5, .ref (ad 18)), (6, .ref (ad 19)), (7, .ref (ad 20)), (8, .ref (ad 21)), (9, .ref (ad 22)), (10, .ref (ad 23)), (11, .int (nI 1)), (12, .int (nI t)), (15, .int (nI (X / 17)))] ⟨rfl, rfl, rfl, rfl, rfl, rfl, rfl, rfl, rfl, rfl, rfl, rfl, rfl, rfl, trivial⟩ ?_
                          exact op_times hc H hN hY (by omega) (by omega) (next (X / 17) (by omega))
                    · -- not taken
                      refine j_lv [(0, .ref bb), (1, .ref (ad 0)), (2, .ref (ad 15)), (3, .ref (ad 16)), (4, .ref (ad 17)), (5, .ref (ad 18)), (6, .ref (ad 19)), (7, .ref (ad 20)), (8, .ref (ad 21)), (9, .ref (ad 22)), (10, .ref (ad 23)), (11, .int (nI 1)), (12, .int (nI t)), (15, .int (nI (X / 17)))] ⟨rfl, rfl, rfl, rfl, rfl, rfl, rfl, rfl, rfl, rfl, rfl, rfl, rfl, rfl, trivial⟩ ?_
                      exact op_gap hc H hN hY (by omega) (by omega) (next (X / 17) (by omega))
                  · -- not taken
                    refine j_lv [(0, .ref bb), (1, .ref (ad 0)), (2, .ref (ad 15)), (3, .ref (ad 16)), (4, .ref (ad 17)), (5, .ref (ad 18)), (6, .ref (ad 19)), (7, .ref (ad 20)), (8, .ref (ad 21)), (9, .ref (ad 22)), (10, .ref (ad 23)), (11, .int (nI 1)), (12, .int (nI t)), (15, .int (nI (X / 17)))] ⟨rfl, rfl, rfl, rfl, rfl, rfl, rfl, rfl, rfl, rfl, rfl, rfl, rfl, rfl, trivial⟩ ?_
                    exact op_wk hc H hN hY (by omega) (by omega) (next (X / 17) (by omega))
                · -- not taken
                  refine j_aload_n hc dL_law_864 rfl ?_
                  refine j_bipush hc (v := nI 63) dL_law_865 (by decide) ?_
                  refine xl_1 hc (i := 63) (by omega) (v := (nI h)) (G.w63) dL_law_867 ?_
                  refine j_bipush hc (v := nI 60) dL_law_868 (by decide) ?_
                  refine j_icmp_ge hc 985 dL_law_870 (by decide) (fun h870 => ?_) (fun h870 => ?_)
                  · -- taken
                    refine j_iload hc dL_law_985 rfl ?_
                    refine j_bipush hc (v := nI 10) dL_law_987 (by decide) ?_
                    refine j_icmp_ne hc 1125 dL_law_989 (by decide) (fun h989 => ?_) (fun h989 => ?_)
                    · -- taken
                      refine j_iload hc dL_law_1125 rfl ?_
                      refine j_bipush hc (v := nI 11) dL_law_1127 (by decide) ?_
                      refine j_icmp_ne hc 1273 dL_law_1129 (by decide) (fun h1129 => ?_) (fun h1129 => ?_)
                      · -- taken
                        refine j_iload hc dL_law_1273 rfl ?_
                        refine j_bipush hc (v := nI 12) dL_law_1275 (by decide) ?_
                        refine j_icmp_ne hc 1343 dL_law_1277 (by decide) (fun h1277 => ?_) (fun h1277 => ?_)
                        · -- taken
                          refine j_lv [(0, .ref bb), (1, .ref (ad 0)), (2, .ref (ad 15)), (3, .ref (ad 16)), (4, .ref (ad 17)), (5, .ref (ad 18)), (6, .ref (ad 19)), (7, .ref (ad 20)), (8, .ref (ad 21)), (9, .ref (ad 22)), (10, .ref (ad 23)), (11, .int (nI 1)), (12, .int (nI t)), (15, .int (nI (X / 17)))] ⟨rfl, rfl, rfl, rfl, rfl, rfl, rfl, rfl, rfl, rfl, rfl, rfl, rfl, rfl, trivial⟩ ?_
                          exact op_pass hc H hN hY (by omega) (by omega) (next (X / 17) (by omega))
                        · -- not taken
                          refine j_iload hc dL_law_1280 rfl ?_
                          refine j_iconst hc (v := nI 3) dL_law_1282 (by decide) ?_
                          refine j_iremE hc (by decide) (z := nI ((X / 17) % 3)) (pk_rem (by omega) (by omega) (by omega)) dL_law_1283 ?_
                          refine j_if_ne hc 1343 dL_law_1284 (by decide) (fun h1284 => ?_) (fun h1284 => ?_)
                          · -- taken
                            refine j_lv [(0, .ref bb), (1, .ref (ad 0)), (2, .ref (ad 15)), (3, .ref (ad 16)), (4, .ref (ad 17)), (5, .ref (ad 18)), (6, .ref (ad 19)), (7, .ref (ad 20)), (8, .ref (ad 21)), (9, .ref (ad 22)), (10, .ref (ad 23)), (11, .int (nI 1)), (12, .int (nI t)), (15, .int (nI (X / 17)))] ⟨rfl, rfl, rfl, rfl, rfl, rfl, rfl, rfl, rfl, rfl, rfl, rfl, rfl, rfl, trivial⟩ ?_
                            exact op_pass hc H hN hY (by omega) (by omega) (next (X / 17) (by omega))
                          · -- not taken
                            refine j_lv [(0, .ref bb), (1, .ref (ad 0)), (2, .ref (ad 15)), (3, .ref (ad 16)), (4, .ref (ad 17)), (5, .ref (ad 18)), (6, .ref (ad 19)), (7, .ref (ad 20)), (8, .ref (ad 21)), (9, .ref (ad 22)), (10, .ref (ad 23)), (11, .int (nI 1)), (12, .int (nI t)), (15, .int (nI (X / 17)))] ⟨rfl, rfl, rfl, rfl, rfl, rfl, rfl, rfl, rfl, rfl, rfl, rfl, rfl, rfl, trivial⟩ ?_
                            exact op_times hc H hN hY (by omega) (by omega) (next (X / 17) (by omega))
                      · -- not taken
                        refine j_lv [(0, .ref bb), (1, .ref (ad 0)), (2, .ref (ad 15)), (3, .ref (ad 16)), (4, .ref (ad 17)), (5, .ref (ad 18)), (6, .ref (ad 19)), (7, .ref (ad 20)), (8, .ref (ad 21)), (9, .ref (ad 22)), (10, .ref (ad 23)), (11, .int (nI 1)), (12, .int (nI t)), (15, .int (nI (X / 17)))] ⟨rfl, rfl, rfl, rfl, rfl, rfl, rfl, rfl, rfl, rfl, rfl, rfl, rfl, rfl, trivial⟩ ?_
                        exact op_gap hc H hN hY (by omega) (by omega) (next (X / 17) (by omega))
                    · -- not taken
                      refine j_lv [(0, .ref bb), (1, .ref (ad 0)), (2, .ref (ad 15)), (3, .ref (ad 16)), (4, .ref (ad 17)), (5, .ref (ad 18)), (6, .ref (ad 19)), (7, .ref (ad 20)), (8, .ref (ad 21)), (9, .ref (ad 22)), (10, .ref (ad 23)), (11, .int (nI 1)), (12, .int (nI t)), (15, .int (nI (X / 17)))] ⟨rfl, rfl, rfl, rfl, rfl, rfl, rfl, rfl, rfl, rfl, rfl, rfl, rfl, rfl, trivial⟩ ?_
                      exact op_wk hc H hN hY (by omega) (by omega) (next (X / 17) (by omega))
                  · -- not taken
                    have hh60 : h < 60 := by
                      by_cases z : h < 60
                      · exact z
                      · exact absurd (nI_le (by omega) (by omega)) h870
                    refine j_lv [(0, .ref bb), (1, .ref (ad 0)), (2, .ref (ad 15)), (3, .ref (ad 16)), (4, .ref (ad 17)), (5, .ref (ad 18)), (6, .ref (ad 19)), (7, .ref (ad 20)), (8, .ref (ad 21)), (9, .ref (ad 22)), (10, .ref (ad 23)), (11, .int (nI 1)), (12, .int (nI t)), (15, .int (nI (X / 17)))] ⟨rfl, rfl, rfl, rfl, rfl, rfl, rfl, rfl, rfl, rfl, rfl, rfl, rfl, rfl, trivial⟩ ?_
                    exact op_hol hc H hN hY (by omega) (by omega) (next (X / 17) (by omega)) hh60
              · -- not taken
                refine j_aload_n hc dL_law_690 rfl ?_
                refine j_iconst hc (v := nI 2) dL_law_691 (by decide) ?_
                refine xl_0 hc (i := 2) (by omega) (v := (nI n)) (G.n2) dL_law_692 ?_
                refine j_if_le hc 857 dL_law_693 (by decide) (fun h693 => ?_) (fun h693 => ?_)
                · -- taken
                  refine j_iload hc dL_law_857 rfl ?_
                  refine j_bipush hc (v := nI 9) dL_law_859 (by decide) ?_
                  refine j_icmp_ne hc 985 dL_law_861 (by decide) (fun h861 => ?_) (fun h861 => ?_)
                  · -- taken
                    refine j_iload hc dL_law_985 rfl ?_
                    refine j_bipush hc (v := nI 10) dL_law_987 (by decide) ?_
                    refine j_icmp_ne hc 1125 dL_law_989 (by decide) (fun h989 => ?_) (fun h989 => ?_)
                    · -- taken
                      refine j_iload hc dL_law_1125 rfl ?_
                      refine j_bipush hc (v := nI 11) dL_law_1127 (by decide) ?_
                      refine j_icmp_ne hc 1273 dL_law_1129 (by decide) (fun h1129 => ?_) (fun h1129 => ?_)
                      · -- taken
                        refine j_iload hc dL_law_1273 rfl ?_
                        refine j_bipush hc (v := nI 12) dL_law_1275 (by decide) ?_
                        refine j_icmp_ne hc 1343 dL_law_1277 (by decide) (fun h1277 => ?_) (fun h1277 => ?_)
                        · -- taken
                          refine j_lv [(0, .ref bb), (1, .ref (ad 0)), (2, .ref (ad 15)), (3, .ref (ad 16)), (4, .ref (ad 17)), (5, .ref (ad 18)), (6, .ref (ad 19)), (7, .ref (ad 20)), (8, .ref (ad 21)), (9, .ref (ad 22)), (10, .ref (ad 23)), (11, .int (nI 1)), (12, .int (nI t)), (15, .int (nI (X / 17)))] ⟨rfl, rfl, rfl, rfl, rfl, rfl, rfl, rfl, rfl, rfl, rfl, rfl, rfl, rfl, trivial⟩ ?_
                          exact op_pass hc H hN hY (by omega) (by omega) (next (X / 17) (by omega))
                        · -- not taken
                          refine j_iload hc dL_law_1280 rfl ?_
                          refine j_iconst hc (v := nI 3) dL_law_1282 (by decide) ?_
                          refine j_iremE hc (by decide) (z := nI ((X / 17) % 3)) (pk_rem (by omega) (by omega) (by omega)) dL_law_1283 ?_
                          refine j_if_ne hc 1343 dL_law_1284 (by decide) (fun h1284 => ?_) (fun h1284 => ?_)
                          · -- taken
                            refine j_lv [(0, .ref bb), (1, .ref (ad 0)), (2, .ref (ad 15)), (3, .ref (ad 16)), (4, .ref (ad 17)), (5, .ref (ad 18)), (6, .ref (ad 19)), (7, .ref (ad 20)), (8, .ref (ad 21)), (9, .ref (ad 22)), (10, .ref (ad 23)), (11, .int (nI 1)), (12, .int (nI t)), (15, .int (nI (X / 17)))] ⟨rfl, rfl, rfl, rfl, rfl, rfl, rfl, rfl, rfl, rfl, rfl, rfl, rfl, rfl, trivial⟩ ?_
                            exact op_pass hc H hN hY (by omega) (by omega) (next (X / 17) (by omega))
                          · -- not taken
                            refine j_lv [(0, .ref bb), (1, .ref (ad 0)), (2, .ref (ad 15)), (3, .ref (ad 16)), (4, .ref (ad 17)), (5, .ref (ad 18)), (6, .ref (ad 19)), (7, .ref (ad 20)), (8, .ref (ad 21)), (9, .ref (ad 22)), (10, .ref (ad 23)), (11, .int (nI 1)), (12, .int (nI t)), (15, .int (nI (X / 17)))] ⟨rfl, rfl, rfl, rfl, rfl, rfl, rfl, rfl, rfl, rfl, rfl, rfl, rfl, rfl, trivial⟩ ?_
                            exact op_times hc H hN hY (by omega) (by omega) (next (X / 17) (by omega))
                      · -- not taken
                        refine j_lv [(0, .ref bb), (1, .ref (ad 0)), (2, .ref (ad 15)), (3, .ref (ad 16)), (4, .ref (ad 17)), (5, .ref (ad 18)), (6, .ref (ad 19)), (7, .ref (ad 20)), (8, .ref (ad 21)), (9, .ref (ad 22)), (10, .ref (ad 23)), (11, .int (nI 1)), (12, .int (nI t)), (15, .int (nI (X / 17)))] ⟨rfl, rfl, rfl, rfl, rfl, rfl, rfl, rfl, rfl, rfl, rfl, rfl, rfl, rfl, trivial⟩ ?_
                        exact op_gap hc H hN hY (by omega) (by omega) (next (X / 17) (by omega))
                    · -- not taken
                      refine j_lv [(0, .ref bb), (1, .ref (ad 0)), (2, .ref (ad 15)), (3, .ref (ad 16)), (4, .ref (ad 17)), (5, .ref (ad 18)), (6, .ref (ad 19)), (7, .ref (ad 20)), (8, .ref (ad 21)), (9, .ref (ad 22)), (10, .ref (ad 23)), (11, .int (nI 1)), (12, .int (nI t)), (15, .int (nI (X / 17)))] ⟨rfl, rfl, rfl, rfl, rfl, rfl, rfl, rfl, rfl, rfl, rfl, rfl, rfl, rfl, trivial⟩ ?_
                      exact op_wk hc H hN hY (by omega) (by omega) (next (X / 17) (by omega))
                  · -- not taken
                    refine j_aload_n hc dL_law_864 rfl ?_
                    refine j_bipush hc (v := nI 63) dL_law_865 (by decide) ?_
                    refine xl_1 hc (i := 63) (by omega) (v := (nI h)) (G.w63) dL_law_867 ?_
                    refine j_bipush hc (v := nI 60) dL_law_868 (by decide) ?_
                    refine j_icmp_ge hc 985 dL_law_870 (by decide) (fun h870 => ?_) (fun h870 => ?_)
                    · -- taken
                      refine j_iload hc dL_law_985 rfl ?_
                      refine j_bipush hc (v := nI 10) dL_law_987 (by decide) ?_
                      refine j_icmp_ne hc 1125 dL_law_989 (by decide) (fun h989 => ?_) (fun h989 => ?_)
                      · -- taken
                        refine j_iload hc dL_law_1125 rfl ?_
                        refine j_bipush hc (v := nI 11) dL_law_1127 (by decide) ?_
                        refine j_icmp_ne hc 1273 dL_law_1129 (by decide) (fun h1129 => ?_) (fun h1129 => ?_)
                        · -- taken
                          refine j_iload hc dL_law_1273 rfl ?_
                          refine j_bipush hc (v := nI 12) dL_law_1275 (by decide) ?_
                          refine j_icmp_ne hc 1343 dL_law_1277 (by decide) (fun h1277 => ?_) (fun h1277 => ?_)
                          · -- taken
                            refine j_lv [(0, .ref bb), (1, .ref (ad 0)), (2, .ref (ad 15)), (3, .ref (ad 16)), (4, .ref (ad 17)), (5, .ref (ad 18)), (6, .ref (ad 19)), (7, .ref (ad 20)), (8, .ref (ad 21)), (9, .ref (ad 22)), (10, .ref (ad 23)), (11, .int (nI 1)), (12, .int (nI t)), (15, .int (nI (X / 17)))] ⟨rfl, rfl, rfl, rfl, rfl, rfl, rfl, rfl, rfl, rfl, rfl, rfl, rfl, rfl, trivial⟩ ?_
                            exact op_pass hc H hN hY (by omega) (by omega) (next (X / 17) (by omega))
                          · -- not taken
                            refine j_iload hc dL_law_1280 rfl ?_
                            refine j_iconst hc (v := nI 3) dL_law_1282 (by decide) ?_
                            refine j_iremE hc (by decide) (z := nI ((X / 17) % 3)) (pk_rem (by omega) (by omega) (by omega)) dL_law_1283 ?_
                            refine j_if_ne hc 1343 dL_law_1284 (by decide) (fun h1284 => ?_) (fun h1284 => ?_)
                            · -- taken
                              refine j_lv [(0, .ref bb), (1, .ref (ad 0)), (2, .ref (ad 15)), (3, .ref (ad 16)), (4, .ref (ad 17)), (5, .ref (ad 18)), (6, .ref (ad 19)), (7, .ref (ad 20)), (8, .ref (ad 21)), (9, .ref (ad 22)), (10, .ref (ad 23)), (11, .int (nI 1)), (12, .int (nI t)), (15, .int (nI (X / 17)))] ⟨rfl, rfl, rfl, rfl, rfl, rfl, rfl, rfl, rfl, rfl, rfl, rfl, rfl, rfl, trivial⟩ ?_
                              exact op_pass hc H hN hY (by omega) (by omega) (next (X / 17) (by omega))
                            · -- not taken
                              refine j_lv [(0, .ref bb), (1, .ref (ad 0)), (2, .ref (ad 15)), (3, .ref (ad 16)), (4, .ref (ad 17)), (5, .ref (ad 18)), (6, .ref (ad 19)), (7, .ref (ad 20)), (8, .ref (ad 21)), (9, .ref (ad 22)), (10, .ref (ad 23)), (11, .int (nI 1)), (12, .int (nI t)), (15, .int (nI (X / 17)))] ⟨rfl, rfl, rfl, rfl, rfl, rfl, rfl, rfl, rfl, rfl, rfl, rfl, rfl, rfl, trivial⟩ ?_
                              exact op_times hc H hN hY (by omega) (by omega) (next (X / 17) (by omega))
                        · -- not taken
                          refine j_lv [(0, .ref bb), (1, .ref (ad 0)), (2, .ref (ad 15)), (3, .ref (ad 16)), (4, .ref (ad 17)), (5, .ref (ad 18)), (6, .ref (ad 19)), (7, .ref (ad 20)), (8, .ref (ad 21)), (9, .ref (ad 22)), (10, .ref (ad 23)), (11, .int (nI 1)), (12, .int (nI t)), (15, .int (nI (X / 17)))] ⟨rfl, rfl, rfl, rfl, rfl, rfl, rfl, rfl, rfl, rfl, rfl, rfl, rfl, rfl, trivial⟩ ?_
                          exact op_gap hc H hN hY (by omega) (by omega) (next (X / 17) (by omega))
                      · -- not taken
                        refine j_lv [(0, .ref bb), (1, .ref (ad 0)), (2, .ref (ad 15)), (3, .ref (ad 16)), (4, .ref (ad 17)), (5, .ref (ad 18)), (6, .ref (ad 19)), (7, .ref (ad 20)), (8, .ref (ad 21)), (9, .ref (ad 22)), (10, .ref (ad 23)), (11, .int (nI 1)), (12, .int (nI t)), (15, .int (nI (X / 17)))] ⟨rfl, rfl, rfl, rfl, rfl, rfl, rfl, rfl, rfl, rfl, rfl, rfl, rfl, rfl, trivial⟩ ?_
                        exact op_wk hc H hN hY (by omega) (by omega) (next (X / 17) (by omega))
                    · -- not taken
                      have hh60 : h < 60 := by
                        by_cases z : h < 60
                        · exact z
                        · exact absurd (nI_le (by omega) (by omega)) h870
                      refine j_lv [(0, .ref bb), (1, .ref (ad 0)), (2, .ref (ad 15)), (3, .ref (ad 16)), (4, .ref (ad 17)), (5, .ref (ad 18)), (6, .ref (ad 19)), (7, .ref (ad 20)), (8, .ref (ad 21)), (9, .ref (ad 22)), (10, .ref (ad 23)), (11, .int (nI 1)), (12, .int (nI t)), (15, .int (nI (X / 17)))] ⟨rfl, rfl, rfl, rfl, rfl, rfl, rfl, rfl, rfl, rfl, rfl, rfl, rfl, rfl, trivial⟩ ?_
                      exact op_hol hc H hN hY (by omega) (by omega) (next (X / 17) (by omega)) hh60
                · -- not taken
                  have hn0 : 0 < n := by
                    by_cases z : n = 0
                    · exact absurd (by rw [z]; decide) h693
                    · omega
                  refine j_lv [(0, .ref bb), (1, .ref (ad 0)), (2, .ref (ad 15)), (3, .ref (ad 16)), (4, .ref (ad 17)), (5, .ref (ad 18)), (6, .ref (ad 19)), (7, .ref (ad 20)), (8, .ref (ad 21)), (9, .ref (ad 22)), (10, .ref (ad 23)), (11, .int (nI 1)), (12, .int (nI t)), (15, .int (nI (X / 17))), (16, .int (nI β))] ⟨rfl, rfl, rfl, rfl, rfl, rfl, rfl, rfl, rfl, rfl, rfl, rfl, rfl, rfl, rfl, trivial⟩ ?_
                  exact op_prom hc H hN hY (by omega) (by omega) (next (X / 17) (by omega)) (hβ hn0)
            · -- not taken
              refine j_aload_n hc dL_law_580 rfl ?_
              refine j_iconst hc (v := nI 2) dL_law_581 (by decide) ?_
              refine xl_0 hc (i := 2) (by omega) (v := (nI n)) (G.n2) dL_law_582 ?_
              refine j_if_le hc 683 dL_law_583 (by decide) (fun h583 => ?_) (fun h583 => ?_)
              · -- taken
                refine j_iload hc dL_law_683 rfl ?_
                refine j_bipush hc (v := nI 9) dL_law_685 (by decide) ?_
                refine j_icmp_ge hc 857 dL_law_687 (by decide) (fun h687 => ?_) (fun h687 => ?_)
                · -- taken
                  refine j_iload hc dL_law_857 rfl ?_
                  refine j_bipush hc (v := nI 9) dL_law_859 (by decide) ?_
                  refine j_icmp_ne hc 985 dL_law_861 (by decide) (fun h861 => ?_) (fun h861 => ?_)
                  · -- taken
                    refine j_iload hc dL_law_985 rfl ?_
                    refine j_bipush hc (v := nI 10) dL_law_987 (by decide) ?_
                    refine j_icmp_ne hc 1125 dL_law_989 (by decide) (fun h989 => ?_) (fun h989 => ?_)
                    · -- taken
                      refine j_iload hc dL_law_1125 rfl ?_
                      refine j_bipush hc (v := nI 11) dL_law_1127 (by decide) ?_
                      refine j_icmp_ne hc 1273 dL_law_1129 (by decide) (fun h1129 => ?_) (fun h1129 => ?_)
                      · -- taken
                        refine j_iload hc dL_law_1273 rfl ?_
                        refine j_bipush hc (v := nI 12) dL_law_1275 (by decide) ?_
                        refine j_icmp_ne hc 1343 dL_law_1277 (by decide) (fun h1277 => ?_) (fun h1277 => ?_)
                        · -- taken
                          refine j_lv [(0, .ref bb), (1, .ref (ad 0)), (2, .ref (ad 15)), (3, .ref (ad 16)), (4, .ref (ad 17)), (5, .ref (ad 18)), (6, .ref (ad 19)), (7, .ref (ad 20)), (8, .ref (ad 21)), (9, .ref (ad 22)), (10, .ref (ad 23)), (11, .int (nI 1)), (12, .int (nI t)), (15, .int (nI (X / 17)))] ⟨rfl, rfl, rfl, rfl, rfl, rfl, rfl, rfl, rfl, rfl, rfl, rfl, rfl, rfl, trivial⟩ ?_
                          exact op_pass hc H hN hY (by omega) (by omega) (next (X / 17) (by omega))
                        · -- not taken
                          refine j_iload hc dL_law_1280 rfl ?_
                          refine j_iconst hc (v := nI 3) dL_law_1282 (by decide) ?_
                          refine j_iremE hc (by decide) (z := nI ((X / 17) % 3)) (pk_rem (by omega) (by omega) (by omega)) dL_law_1283 ?_
                          refine j_if_ne hc 1343 dL_law_1284 (by decide) (fun h1284 => ?_) (fun h1284 => ?_)
                          · -- taken
                            refine j_lv [(0, .ref bb), (1, .ref (ad 0)), (2, .ref (ad 15)), (3, .ref (ad 16)), (4, .ref (ad 17)), (5, .ref (ad 18)), (6, .ref (ad 19)), (7, .ref (ad 20)), (8, .ref (ad 21)), (9, .ref (ad 22)), (10, .ref (ad 23)), (11, .int (nI 1)), (12, .int (nI t)), (15, .int (nI (X / 17)))] ⟨rfl, rfl, rfl, rfl, rfl, rfl, rfl, rfl, rfl, rfl, rfl, rfl, rfl, rfl, trivial⟩ ?_
                            exact op_pass hc H hN hY (by omega) (by omega) (next (X / 17) (by omega))
                          · -- not taken
                            refine j_lv [(0, .ref bb), (1, .ref (ad 0)), (2, .ref (ad 15)), (3, .ref (ad 16)), (4, .ref (ad 17)), (5, .ref (ad 18)), (6, .ref (ad 19)), (7, .ref (ad 20)), (8, .ref (ad 21)), (9, .ref (ad 22)), (10, .ref (ad 23)), (11, .int (nI 1)), (12, .int (nI t)), (15, .int (nI (X / 17)))] ⟨rfl, rfl, rfl, rfl, rfl, rfl, rfl, rfl, rfl, rfl, rfl, rfl, rfl, rfl, trivial⟩ ?_
                            exact op_times hc H hN hY (by omega) (by omega) (next (X / 17) (by omega))
                      · -- not taken
                        refine j_lv [(0, .ref bb), (1, .ref (ad 0)), (2, .ref (ad 15)), (3, .ref (ad 16)), (4, .ref (ad 17)), (5, .ref (ad 18)), (6, .ref (ad 19)), (7, .ref (ad 20)), (8, .ref (ad 21)), (9, .ref (ad 22)), (10, .ref (ad 23)), (11, .int (nI 1)), (12, .int (nI t)), (15, .int (nI (X / 17)))] ⟨rfl, rfl, rfl, rfl, rfl, rfl, rfl, rfl, rfl, rfl, rfl, rfl, rfl, rfl, trivial⟩ ?_
                        exact op_gap hc H hN hY (by omega) (by omega) (next (X / 17) (by omega))
                    · -- not taken
                      refine j_lv [(0, .ref bb), (1, .ref (ad 0)), (2, .ref (ad 15)), (3, .ref (ad 16)), (4, .ref (ad 17)), (5, .ref (ad 18)), (6, .ref (ad 19)), (7, .ref (ad 20)), (8, .ref (ad 21)), (9, .ref (ad 22)), (10, .ref (ad 23)), (11, .int (nI 1)), (12, .int (nI t)), (15, .int (nI (X / 17)))] ⟨rfl, rfl, rfl, rfl, rfl, rfl, rfl, rfl, rfl, rfl, rfl, rfl, rfl, rfl, trivial⟩ ?_
                      exact op_wk hc H hN hY (by omega) (by omega) (next (X / 17) (by omega))
                  · -- not taken
                    refine j_aload_n hc dL_law_864 rfl ?_
                    refine j_bipush hc (v := nI 63) dL_law_865 (by decide) ?_
                    refine xl_1 hc (i := 63) (by omega) (v := (nI h)) (G.w63) dL_law_867 ?_
                    refine j_bipush hc (v := nI 60) dL_law_868 (by decide) ?_
                    refine j_icmp_ge hc 985 dL_law_870 (by decide) (fun h870 => ?_) (fun h870 => ?_)
                    · -- taken
                      refine j_iload hc dL_law_985 rfl ?_
                      refine j_bipush hc (v := nI 10) dL_law_987 (by decide) ?_
                      refine j_icmp_ne hc 1125 dL_law_989 (by decide) (fun h989 => ?_) (fun h989 => ?_)
                      · -- taken
                        refine j_iload hc dL_law_1125 rfl ?_
                        refine j_bipush hc (v := nI 11) dL_law_1127 (by decide) ?_
                        refine j_icmp_ne hc 1273 dL_law_1129 (by decide) (fun h1129 => ?_) (fun h1129 => ?_)
                        · -- taken
                          refine j_iload hc dL_law_1273 rfl ?_
                          refine j_bipush hc (v := nI 12) dL_law_1275 (by decide) ?_
                          refine j_icmp_ne hc 1343 dL_law_1277 (by decide) (fun h1277 => ?_) (fun h1277 => ?_)
                          · -- taken
                            refine j_lv [(0, .ref bb), (1, .ref (ad 0)), (2, .ref (ad 15)), (3, .ref (ad 16)), (4, .ref (ad 17)), (5, .ref (ad 18)), (6, .ref (ad 19)), (7, .ref (ad 20)), (8, .ref (ad 21)), (9, .ref (ad 22)), (10, .ref (ad 23)), (11, .int (nI 1)), (12, .int (nI t)), (15, .int (nI (X / 17)))] ⟨rfl, rfl, rfl, rfl, rfl, rfl, rfl, rfl, rfl, rfl, rfl, rfl, rfl, rfl, trivial⟩ ?_
                            exact op_pass hc H hN hY (by omega) (by omega) (next (X / 17) (by omega))
                          · -- not taken
                            refine j_iload hc dL_law_1280 rfl ?_
                            refine j_iconst hc (v := nI 3) dL_law_1282 (by decide) ?_
                            refine j_iremE hc (by decide) (z := nI ((X / 17) % 3)) (pk_rem (by omega) (by omega) (by omega)) dL_law_1283 ?_
                            refine j_if_ne hc 1343 dL_law_1284 (by decide) (fun h1284 => ?_) (fun h1284 => ?_)
                            · -- taken
                              refine j_lv [(0, .ref bb), (1, .ref (ad 0)), (2, .ref (ad 15)), (3, .ref (ad 16)), (4, .ref (ad 17)), (5, .ref (ad 18)), (6, .ref (ad 19)), (7, .ref (ad 20)), (8, .ref (ad 21)), (9, .ref (ad 22)), (10, .ref (ad 23)), (11, .int (nI 1)), (12, .int (nI t)), (15, .int (nI (X / 17)))] ⟨rfl, rfl, rfl, rfl, rfl, rfl, rfl, rfl, rfl, rfl, rfl, rfl, rfl, rfl, trivial⟩ ?_
                              exact op_pass hc H hN hY (by omega) (by omega) (next (X / 17) (by omega))
                            · -- not taken
                              refine j_lv [(0, .ref bb), (1, .ref (ad 0)), (2, .ref (ad 15)), (3, .ref (ad 16)), (4, .ref (ad 17)), (5, .ref (ad 18)), (6, .ref (ad 19)), (7, .ref (ad 20)), (8, .ref (ad 21)), (9, .ref (ad 22)), (10, .ref (ad 23)), (11, .int (nI 1)), (12, .int (nI t)), (15, .int (nI (X / 17)))] ⟨rfl, rfl, rfl, rfl, rfl, rfl, rfl, rfl, rfl, rfl, rfl, rfl, rfl, rfl, trivial⟩ ?_
                              exact op_times hc H hN hY (by omega) (by omega) (next (X / 17) (by omega))
                        · -- not taken
                          refine j_lv [(0, .ref bb), (1, .ref (ad 0)), (2, .ref (ad 15)), (3, .ref (ad 16)), (4, .ref (ad 17)), (5, .ref (ad 18)), (6, .ref (ad 19)), (7, .ref (ad 20)), (8, .ref (ad 21)), (9, .ref (ad 22)), (10, .ref (ad 23)), (11, .int (nI 1)), (12, .int (nI t)), (15, .int (nI (X / 17)))] ⟨rfl, rfl, rfl, rfl, rfl, rfl, rfl, rfl, rfl, rfl, rfl, rfl, rfl, rfl, trivial⟩ ?_
                          exact op_gap hc H hN hY (by omega) (by omega) (next (X / 17) (by omega))
                      · -- not taken
                        refine j_lv [(0, .ref bb), (1, .ref (ad 0)), (2, .ref (ad 15)), (3, .ref (ad 16)), (4, .ref (ad 17)), (5, .ref (ad 18)), (6, .ref (ad 19)), (7, .ref (ad 20)), (8, .ref (ad 21)), (9, .ref (ad 22)), (10, .ref (ad 23)), (11, .int (nI 1)), (12, .int (nI t)), (15, .int (nI (X / 17)))] ⟨rfl, rfl, rfl, rfl, rfl, rfl, rfl, rfl, rfl, rfl, rfl, rfl, rfl, rfl, trivial⟩ ?_
                        exact op_wk hc H hN hY (by omega) (by omega) (next (X / 17) (by omega))
                    · -- not taken
                      have hh60 : h < 60 := by
                        by_cases z : h < 60
                        · exact z
                        · exact absurd (nI_le (by omega) (by omega)) h870
                      refine j_lv [(0, .ref bb), (1, .ref (ad 0)), (2, .ref (ad 15)), (3, .ref (ad 16)), (4, .ref (ad 17)), (5, .ref (ad 18)), (6, .ref (ad 19)), (7, .ref (ad 20)), (8, .ref (ad 21)), (9, .ref (ad 22)), (10, .ref (ad 23)), (11, .int (nI 1)), (12, .int (nI t)), (15, .int (nI (X / 17)))] ⟨rfl, rfl, rfl, rfl, rfl, rfl, rfl, rfl, rfl, rfl, rfl, rfl, rfl, rfl, trivial⟩ ?_
                      exact op_hol hc H hN hY (by omega) (by omega) (next (X / 17) (by omega)) hh60
                · -- not taken
                  refine j_aload_n hc dL_law_690 rfl ?_
                  refine j_iconst hc (v := nI 2) dL_law_691 (by decide) ?_
                  refine xl_0 hc (i := 2) (by omega) (v := (nI n)) (G.n2) dL_law_692 ?_
                  refine j_if_le hc 857 dL_law_693 (by decide) (fun h693 => ?_) (fun h693 => ?_)
                  · -- taken
                    refine j_iload hc dL_law_857 rfl ?_
                    refine j_bipush hc (v := nI 9) dL_law_859 (by decide) ?_
                    refine j_icmp_ne hc 985 dL_law_861 (by decide) (fun h861 => ?_) (fun h861 => ?_)
                    · -- taken
                      refine j_iload hc dL_law_985 rfl ?_
                      refine j_bipush hc (v := nI 10) dL_law_987 (by decide) ?_
                      refine j_icmp_ne hc 1125 dL_law_989 (by decide) (fun h989 => ?_) (fun h989 => ?_)
                      · -- taken
                        refine j_iload hc dL_law_1125 rfl ?_
                        refine j_bipush hc (v := nI 11) dL_law_1127 (by decide) ?_
                        refine j_icmp_ne hc 1273 dL_law_1129 (by decide) (fun h1129 => ?_) (fun h1129 => ?_)
                        · -- taken
                          refine j_iload hc dL_law_1273 rfl ?_
                          refine j_bipush hc (v := nI 12) dL_law_1275 (by decide) ?_
                          refine j_icmp_ne hc 1343 dL_law_1277 (by decide) (fun h1277 => ?_) (fun h1277 => ?_)
                          · -- taken
                            refine j_lv [(0, .ref bb), (1, .ref (ad 0)), (2, .ref (ad 15)), (3, .ref (ad 16)), (4, .ref (ad 17)), (5, .ref (ad 18)), (6, .ref (ad 19)), (7, .ref (ad 20)), (8, .ref (ad 21)), (9, .ref (ad 22)), (10, .ref (ad 23)), (11, .int (nI 1)), (12, .int (nI t)), (15, .int (nI (X / 17)))] ⟨rfl, rfl, rfl, rfl, rfl, rfl, rfl, rfl, rfl, rfl, rfl, rfl, rfl, rfl, trivial⟩ ?_
                            exact op_pass hc H hN hY (by omega) (by omega) (next (X / 17) (by omega))
                          · -- not taken
                            refine j_iload hc dL_law_1280 rfl ?_
                            refine j_iconst hc (v := nI 3) dL_law_1282 (by decide) ?_
                            refine j_iremE hc (by decide) (z := nI ((X / 17) % 3)) (pk_rem (by omega) (by omega) (by omega)) dL_law_1283 ?_
                            refine j_if_ne hc 1343 dL_law_1284 (by decide) (fun h1284 => ?_) (fun h1284 => ?_)
                            · -- taken
                              refine j_lv [(0, .ref bb), (1, .ref (ad 0)), (2, .ref (ad 15)), (3, .ref (ad 16)), (4, .ref (ad 17)), (5, .ref (ad 18)), (6, .ref (ad 19)), (7, .ref (ad 20)), (8, .ref (ad 21)), (9, .ref (ad 22)), (10, .ref (ad 23)), (11, .int (nI 1)), (12, .int (nI t)), (15, .int (nI (X / 17)))] ⟨rfl, rfl, rfl, rfl, rfl, rfl, rfl, rfl, rfl, rfl, rfl, rfl, rfl, rfl, trivial⟩ ?_
                              exact op_pass hc H hN hY (by omega) (by omega) (next (X / 17) (by omega))
                            · -- not taken
                              refine j_lv [(0, .ref bb), (1, .ref (ad 0)), (2, .ref (ad 15)), (3, .ref (ad 16)), (4, .ref (ad 17)), (5, .ref (ad 18)), (6, .ref (ad 19)), (7, .ref (ad 20)), (8, .ref (ad 21)), (9, .ref (ad 22)), (10, .ref (ad 23)), (11, .int (nI 1)), (12, .int (nI t)), (15, .int (nI (X / 17)))] ⟨rfl, rfl, rfl, rfl, rfl, rfl, rfl, rfl, rfl, rfl, rfl, rfl, rfl, rfl, trivial⟩ ?_
                              exact op_times hc H hN hY (by omega) (by omega) (next (X / 17) (by omega))
                        · -- not taken
                          refine j_lv [(0, .ref bb), (1, .ref (ad 0)), (2, .ref (ad 15)), (3, .ref (ad 16)), (4, .ref (ad 17)), (5, .ref (ad 18)), (6, .ref (ad 19)), (7, .ref (ad 20)), (8, .ref (ad 21)), (9, .ref (ad 22)), (10, .ref (ad 23)), (11, .int (nI 1)), (12, .int (nI t)), (15, .int (nI (X / 17)))] ⟨rfl, rfl, rfl, rfl, rfl, rfl, rfl, rfl, rfl, rfl, rfl, rfl, rfl, rfl, trivial⟩ ?_
                          exact op_gap hc H hN hY (by omega) (by omega) (next (X / 17) (by omega))
                      · -- not taken
                        refine j_lv [(0, .ref bb), (1, .ref (ad 0)), (2, .ref (ad 15)), (3, .ref (ad 16)), (4, .ref (ad 17)), (5, .ref (ad 18)), (6, .ref (ad 19)), (7, .ref (ad 20)), (8, .ref (ad 21)), (9, .ref (ad 22)), (10, .ref (ad 23)), (11, .int (nI 1)), (12, .int (nI t)), (15, .int (nI (X / 17)))] ⟨rfl, rfl, rfl, rfl, rfl, rfl, rfl, rfl, rfl, rfl, rfl, rfl, rfl, rfl, trivial⟩ ?_
                        exact op_wk hc H hN hY (by omega) (by omega) (next (X / 17) (by omega))
                    · -- not taken
                      refine j_aload_n hc dL_law_864 rfl ?_
                      refine j_bipush hc (v := nI 63) dL_law_865 (by decide) ?_
                      refine xl_1 hc (i := 63) (by omega) (v := (nI h)) (G.w63) dL_law_867 ?_
                      refine j_bipush hc (v := nI 60) dL_law_868 (by decide) ?_
                      refine j_icmp_ge hc 985 dL_law_870 (by decide) (fun h870 => ?_) (fun h870 => ?_)
                      · -- taken
                        refine j_iload hc dL_law_985 rfl ?_
                        refine j_bipush hc (v := nI 10) dL_law_987 (by decide) ?_
                        refine j_icmp_ne hc 1125 dL_law_989 (by decide) (fun h989 => ?_) (fun h989 => ?_)
                        · -- taken
                          refine j_iload hc dL_law_1125 rfl ?_
                          refine j_bipush hc (v := nI 11) dL_law_1127 (by decide) ?_
                          refine j_icmp_ne hc 1273 dL_law_1129 (by decide) (fun h1129 => ?_) (fun h1129 => ?_)
                          · -- taken
                            refine j_iload hc dL_law_1273 rfl ?_
                            refine j_bipush hc (v := nI 12) dL_law_1275 (by decide) ?_
                            refine j_icmp_ne hc 1343 dL_law_1277 (by decide) (fun h1277 => ?_) (fun h1277 => ?_)
                            · -- taken
                              refine j_lv [(0, .ref bb), (1, .ref (ad 0)), (2, .ref (ad 15)), (3, .ref (ad 16)), (4, .ref (ad 17)), (5, .ref (ad 18)), (6, .ref (ad 19)), (7, .ref (ad 20)), (8, .ref (ad 21)), (9, .ref (ad 22)), (10, .ref (ad 23)), (11, .int (nI 1)), (12, .int (nI t)), (15, .int (nI (X / 17)))] ⟨rfl, rfl, rfl, rfl, rfl, rfl, rfl, rfl, rfl, rfl, rfl, rfl, rfl, rfl, trivial⟩ ?_
                              exact op_pass hc H hN hY (by omega) (by omega) (next (X / 17) (by omega))
                            · -- not taken
                              refine j_iload hc dL_law_1280 rfl ?_
                              refine j_iconst hc (v := nI 3) dL_law_1282 (by decide) ?_
                              refine j_iremE hc (by decide) (z := nI ((X / 17) % 3)) (pk_rem (by omega) (by omega) (by omega)) dL_law_1283 ?_
                              refine j_if_ne hc 1343 dL_law_1284 (by decide) (fun h1284 => ?_) (fun h1284 => ?_)
                              · -- taken
                                refine j_lv [(0, .ref bb), (1, .ref (ad 0)), (2, .ref (ad 15)), (3, .ref (ad 16)), (4, .ref (ad 17)), (5, .ref (ad 18)), (6, .ref (ad 19)), (7, .ref (ad 20)), (8, .ref (ad 21)), (9, .ref (ad 22)), (10, .ref (ad 23)), (11, .int (nI 1)), (12, .int (nI t)), (15, .int (nI (X / 17)))] ⟨rfl, rfl, rfl, rfl, rfl, rfl, rfl, rfl, rfl, rfl, rfl, rfl, rfl, rfl, trivial⟩ ?_
                                exact op_pass hc H hN hY (by omega) (by omega) (next (X / 17) (by omega))
                              · -- not taken
                                refine j_lv [(0, .ref bb), (1, .ref (ad 0)), (2, .ref (ad 15)), (3, .ref (ad 16)), (4, .ref (ad 17)), (5, .ref (ad 18)), (6, .ref (ad 19)), (7, .ref (ad 20)), (8, .ref (ad 21)), (9, .ref (ad 22)), (10, .ref (ad 23)), (11, .int (nI 1)), (12, .int (nI t)), (15, .int (nI (X / 17)))] ⟨rfl, rfl, rfl, rfl, rfl, rfl, rfl, rfl, rfl, rfl, rfl, rfl, rfl, rfl, trivial⟩ ?_
                                exact op_times hc H hN hY (by omega) (by omega) (next (X / 17) (by omega))
                          · -- not taken
                            refine j_lv [(0, .ref bb), (1, .ref (ad 0)), (2, .ref (ad 15)), (3, .ref (ad 16)), (4, .ref (ad 17)), (5, .ref (ad 18)), (6, .ref (ad 19)), (7, .ref (ad 20)), (8, .ref (ad 21)), (9, .ref (ad 22)), (10, .ref (ad 23)), (11, .int (nI 1)), (12, .int (nI t)), (15, .int (nI (X / 17)))] ⟨rfl, rfl, rfl, rfl, rfl, rfl, rfl, rfl, rfl, rfl, rfl, rfl, rfl, rfl, trivial⟩ ?_
                            exact op_gap hc H hN hY (by omega) (by omega) (next (X / 17) (by omega))
                        · -- not taken
                          refine j_lv [(0, .ref bb), (1, .ref (ad 0)), (2, .ref (ad 15)), (3, .ref (ad 16)), (4, .ref (ad 17)), (5, .ref (ad 18)), (6, .ref (ad 19)), (7, .ref (ad 20)), (8, .ref (ad 21)), (9, .ref (ad 22)), (10, .ref (ad 23)), (11, .int (nI 1)), (12, .int (nI t)), (15, .int (nI (X / 17)))] ⟨rfl, rfl, rfl, rfl, rfl, rfl, rfl, rfl, rfl, rfl, rfl, rfl, rfl, rfl, trivial⟩ ?_
                          exact op_wk hc H hN hY (by omega) (by omega) (next (X / 17) (by omega))
                      · -- not taken
                        have hh60 : h < 60 := by
                          by_cases z : h < 60
                          · exact z
                          · exact absurd (nI_le (by omega) (by omega)) h870
                        refine j_lv [(0, .ref bb), (1, .ref (ad 0)), (2, .ref (ad 15)), (3, .ref (ad 16)), (4, .ref (ad 17)), (5, .ref (ad 18)), (6, .ref (ad 19)), (7, .ref (ad 20)), (8, .ref (ad 21)), (9, .ref (ad 22)), (10, .ref (ad 23)), (11, .int (nI 1)), (12, .int (nI t)), (15, .int (nI (X / 17)))] ⟨rfl, rfl, rfl, rfl, rfl, rfl, rfl, rfl, rfl, rfl, rfl, rfl, rfl, rfl, trivial⟩ ?_
                        exact op_hol hc H hN hY (by omega) (by omega) (next (X / 17) (by omega)) hh60
                  · -- not taken
                    have hn0 : 0 < n := by
                      by_cases z : n = 0
                      · exact absurd (by rw [z]; decide) h693
                      · omega
                    refine j_lv [(0, .ref bb), (1, .ref (ad 0)), (2, .ref (ad 15)), (3, .ref (ad 16)), (4, .ref (ad 17)), (5, .ref (ad 18)), (6, .ref (ad 19)), (7, .ref (ad 20)), (8, .ref (ad 21)), (9, .ref (ad 22)), (10, .ref (ad 23)), (11, .int (nI 1)), (12, .int (nI t)), (15, .int (nI (X / 17))), (16, .int (nI β))] ⟨rfl, rfl, rfl, rfl, rfl, rfl, rfl, rfl, rfl, rfl, rfl, rfl, rfl, rfl, rfl, trivial⟩ ?_
                    exact op_prom hc H hN hY (by omega) (by omega) (next (X / 17) (by omega)) (hβ hn0)
              · -- not taken
                have hn0 : 0 < n := by
                  by_cases z : n = 0
                  · exact absurd (by rw [z]; decide) h583
                  · omega
                refine j_lv [(0, .ref bb), (1, .ref (ad 0)), (2, .ref (ad 15)), (3, .ref (ad 16)), (4, .ref (ad 17)), (5, .ref (ad 18)), (6, .ref (ad 19)), (7, .ref (ad 20)), (8, .ref (ad 21)), (9, .ref (ad 22)), (10, .ref (ad 23)), (11, .int (nI 1)), (12, .int (nI t)), (15, .int (nI (X / 17))), (16, .int (nI β))] ⟨rfl, rfl, rfl, rfl, rfl, rfl, rfl, rfl, rfl, rfl, rfl, rfl, rfl, rfl, rfl, trivial⟩ ?_
                exact op_pay hc H hN hY (by omega) (by omega) (next (X / 17) (by omega)) (hβ hn0)
          · -- not taken
            have hn0 : 0 < n := by
              by_cases z : n = 0
              · exact absurd (by rw [z]; decide) h399
              · omega
            refine j_lv [(0, .ref bb), (1, .ref (ad 0)), (2, .ref (ad 15)), (3, .ref (ad 16)), (4, .ref (ad 17)), (5, .ref (ad 18)), (6, .ref (ad 19)), (7, .ref (ad 20)), (8, .ref (ad 21)), (9, .ref (ad 22)), (10, .ref (ad 23)), (11, .int (nI 1)), (12, .int (nI t)), (15, .int (nI (X / 17))), (16, .int (nI β))] ⟨rfl, rfl, rfl, rfl, rfl, rfl, rfl, rfl, rfl, rfl, rfl, rfl, rfl, rfl, rfl, trivial⟩ ?_
            exact op_out hc H hN hY (by omega) (by omega) (next (X / 17) (by omega)) (hβ hn0)
      · -- not taken
        refine j_aload_n hc dL_law_260 rfl ?_
        refine j_iconst hc (v := nI 2) dL_law_261 (by decide) ?_
        refine xl_0 hc (i := 2) (by omega) (v := (nI n)) (G.n2) dL_law_262 ?_
        refine j_bipush hc (v := nI 12) dL_law_263 (by decide) ?_
        refine j_icmp_ge hc 389 dL_law_265 (by decide) (fun h265 => ?_) (fun h265 => ?_)
        · -- taken
          refine j_iload hc dL_law_389 rfl ?_
          refine j_bipush hc (v := nI 6) dL_law_391 (by decide) ?_
          refine j_icmp_ge hc 573 dL_law_393 (by decide) (fun h393 => ?_) (fun h393 => ?_)
          · -- taken
            refine j_iload hc dL_law_573 rfl ?_
            refine j_bipush hc (v := nI 6) dL_law_575 (by decide) ?_
            refine j_icmp_ne hc 683 dL_law_577 (by decide) (fun h577 => ?_) (fun h577 => ?_)
            · -- taken
              refine j_iload hc dL_law_683 rfl ?_
              refine j_bipush hc (v := nI 9) dL_law_685 (by decide) ?_
              refine j_icmp_ge hc 857 dL_law_687 (by decide) (fun h687 => ?_) (fun h687 => ?_)
              · -- taken
                refine j_iload hc dL_law_857 rfl ?_
                refine j_bipush hc (v := nI 9) dL_law_859 (by decide) ?_
                refine j_icmp_ne hc 985 dL_law_861 (by decide) (fun h861 => ?_) (fun h861 => ?_)
                · -- taken
                  refine j_iload hc dL_law_985 rfl ?_
                  refine j_bipush hc (v := nI 10) dL_law_987 (by decide) ?_
                  refine j_icmp_ne hc 1125 dL_law_989 (by decide) (fun h989 => ?_) (fun h989 => ?_)
                  · -- taken
                    refine j_iload hc dL_law_1125 rfl ?_
                    refine j_bipush hc (v := nI 11) dL_law_1127 (by decide) ?_
                    refine j_icmp_ne hc 1273 dL_law_1129 (by decide) (fun h1129 => ?_) (fun h1129 => ?_)
                    · -- taken
                      refine j_iload hc dL_law_1273 rfl ?_
                      refine j_bipush hc (v := nI 12) dL_law_1275 (by decide) ?_
                      refine j_icmp_ne hc 1343 dL_law_1277 (by decide) (fun h1277 => ?_) (fun h1277 => ?_)
                      · -- taken
                        refine j_lv [(0, .ref bb), (1, .ref (ad 0)), (2, .ref (ad 15)), (3, .ref (ad 16)), (4, .ref (ad 17)), (5, .ref (ad 18)), (6, .ref (ad 19)), (7, .ref (ad 20)), (8, .ref (ad 21)), (9, .ref (ad 22)), (10, .ref (ad 23)), (11, .int (nI 1)), (12, .int (nI t)), (15, .int (nI (X / 17)))] ⟨rfl, rfl, rfl, rfl, rfl, rfl, rfl, rfl, rfl, rfl, rfl, rfl, rfl, rfl, trivial⟩ ?_
                        exact op_pass hc H hN hY (by omega) (by omega) (next (X / 17) (by omega))
                      · -- not taken
                        refine j_iload hc dL_law_1280 rfl ?_
                        refine j_iconst hc (v := nI 3) dL_law_1282 (by decide) ?_
                        refine j_iremE hc (by decide) (z := nI ((X / 17) % 3)) (pk_rem (by omega) (by omega) (by omega)) dL_law_1283 ?_
                        refine j_if_ne hc 1343 dL_law_1284 (by decide) (fun h1284 => ?_) (fun h1284 => ?_)
                        · -- taken
                          refine j_lv [(0, .ref bb), (1, .ref (ad 0)), (2, .ref (ad 15)), (3, .ref (ad 16)), (4, .ref (ad 17)), (5, .ref (ad 18)), (6, .ref (ad 19)), (7, .ref (ad 20)), (8, .ref (ad 21)), (9, .ref (ad 22)), (10, .ref (ad 23)), (11, .int (nI 1)), (12, .int (nI t)), (15, .int (nI (X / 17)))] ⟨rfl, rfl, rfl, rfl, rfl, rfl, rfl, rfl, rfl, rfl, rfl, rfl, rfl, rfl, trivial⟩ ?_
                          exact op_pass hc H hN hY (by omega) (by omega) (next (X / 17) (by omega))
                        · -- not taken
                          refine j_lv [(0, .ref bb), (1, .ref (ad 0)), (2, .ref (ad 15)), (3, .ref (ad 16)), (4, .ref (ad 17)), (5, .ref (ad 18)), (6, .ref (ad 19)), (7, .ref (ad 20)), (8, .ref (ad 21)), (9, .ref (ad 22)), (10, .ref (ad 23)), (11, .int (nI 1)), (12, .int (nI t)), (15, .int (nI (X / 17)))] ⟨rfl, rfl, rfl, rfl, rfl, rfl, rfl, rfl, rfl, rfl, rfl, rfl, rfl, rfl, trivial⟩ ?_
                          exact op_times hc H hN hY (by omega) (by omega) (next (X / 17) (by omega))
                    · -- not taken
                      refine j_lv [(0, .ref bb), (1, .ref (ad 0)), (2, .ref (ad 15)), (3, .ref (ad 16)), (4, .ref (ad 17)), (5, .ref (ad 18)), (6, .ref (ad 19)), (7, .ref (ad 20)), (8, .ref (ad 21)), (9, .ref (ad 22)), (10, .ref (ad 23)), (11, .int (nI 1)), (12, .int (nI t)), (15, .int (nI (X / 17)))] ⟨rfl, rfl, rfl, rfl, rfl, rfl, rfl, rfl, rfl, rfl, rfl, rfl, rfl, rfl, trivial⟩ ?_
                      exact op_gap hc H hN hY (by omega) (by omega) (next (X / 17) (by omega))
                  · -- not taken
                    refine j_lv [(0, .ref bb), (1, .ref (ad 0)), (2, .ref (ad 15)), (3, .ref (ad 16)), (4, .ref (ad 17)), (5, .ref (ad 18)), (6, .ref (ad 19)), (7, .ref (ad 20)), (8, .ref (ad 21)), (9, .ref (ad 22)), (10, .ref (ad 23)), (11, .int (nI 1)), (12, .int (nI t)), (15, .int (nI (X / 17)))] ⟨rfl, rfl, rfl, rfl, rfl, rfl, rfl, rfl, rfl, rfl, rfl, rfl, rfl, rfl, trivial⟩ ?_
                    exact op_wk hc H hN hY (by omega) (by omega) (next (X / 17) (by omega))
                · -- not taken
                  refine j_aload_n hc dL_law_864 rfl ?_
                  refine j_bipush hc (v := nI 63) dL_law_865 (by decide) ?_
                  refine xl_1 hc (i := 63) (by omega) (v := (nI h)) (G.w63) dL_law_867 ?_
                  refine j_bipush hc (v := nI 60) dL_law_868 (by decide) ?_
                  refine j_icmp_ge hc 985 dL_law_870 (by decide) (fun h870 => ?_) (fun h870 => ?_)
                  · -- taken
                    refine j_iload hc dL_law_985 rfl ?_
                    refine j_bipush hc (v := nI 10) dL_law_987 (by decide) ?_
                    refine j_icmp_ne hc 1125 dL_law_989 (by decide) (fun h989 => ?_) (fun h989 => ?_)
                    · -- taken
                      refine j_iload hc dL_law_1125 rfl ?_
                      refine j_bipush hc (v := nI 11) dL_law_1127 (by decide) ?_
                      refine j_icmp_ne hc 1273 dL_law_1129 (by decide) (fun h1129 => ?_) (fun h1129 => ?_)
                      · -- taken
                        refine j_iload hc dL_law_1273 rfl ?_
                        refine j_bipush hc (v := nI 12) dL_law_1275 (by decide) ?_
                        refine j_icmp_ne hc 1343 dL_law_1277 (by decide) (fun h1277 => ?_) (fun h1277 => ?_)
                        · -- taken
                          refine j_lv [(0, .ref bb), (1, .ref (ad 0)), (2, .ref (ad 15)), (3, .ref (ad 16)), (4, .ref (ad 17)), (5, .ref (ad 18)), (6, .ref (ad 19)), (7, .ref (ad 20)), (8, .ref (ad 21)), (9, .ref (ad 22)), (10, .ref (ad 23)), (11, .int (nI 1)), (12, .int (nI t)), (15, .int (nI (X / 17)))] ⟨rfl, rfl, rfl, rfl, rfl, rfl, rfl, rfl, rfl, rfl, rfl, rfl, rfl, rfl, trivial⟩ ?_
                          exact op_pass hc H hN hY (by omega) (by omega) (next (X / 17) (by omega))
                        · -- not taken
                          refine j_iload hc dL_law_1280 rfl ?_
                          refine j_iconst hc (v := nI 3) dL_law_1282 (by decide) ?_
                          refine j_iremE hc (by decide) (z := nI ((X / 17) % 3)) (pk_rem (by omega) (by omega) (by omega)) dL_law_1283 ?_
                          refine j_if_ne hc 1343 dL_law_1284 (by decide) (fun h1284 => ?_) (fun h1284 => ?_)
                          · -- taken
                            refine j_lv [(0, .ref bb), (1, .ref (ad 0)), (2, .ref (ad 15)), (3, .ref (ad 16)), (4, .ref (ad 17)), (5, .ref (ad 18)), (6, .ref (ad 19)), (7, .ref (ad 20)), (8, .ref (ad 21)), (9, .ref (ad 22)), (10, .ref (ad 23)), (11, .int (nI 1)), (12, .int (nI t)), (15, .int (nI (X / 17)))] ⟨rfl, rfl, rfl, rfl, rfl, rfl, rfl, rfl, rfl, rfl, rfl, rfl, rfl, rfl, trivial⟩ ?_
                            exact op_pass hc H hN hY (by omega) (by omega) (next (X / 17) (by omega))
                          · -- not taken
                            refine j_lv [(0, .ref bb), (1, .ref (ad 0)), (2, .ref (ad 15)), (3, .ref (ad 16)), (4, .ref (ad 17)), (5, .ref (ad 18)), (6, .ref (ad 19)), (7, .ref (ad 20)), (8, .ref (ad 21)), (9, .ref (ad 22)), (10, .ref (ad 23)), (11, .int (nI 1)), (12, .int (nI t)), (15, .int (nI (X / 17)))] ⟨rfl, rfl, rfl, rfl, rfl, rfl, rfl, rfl, rfl, rfl, rfl, rfl, rfl, rfl, trivial⟩ ?_
                            exact op_times hc H hN hY (by omega) (by omega) (next (X / 17) (by omega))
                      · -- not taken
                        refine j_lv [(0, .ref bb), (1, .ref (ad 0)), (2, .ref (ad 15)), (3, .ref (ad 16)), (4, .ref (ad 17)), (5, .ref (ad 18)), (6, .ref (ad 19)), (7, .ref (ad 20)), (8, .ref (ad 21)), (9, .ref (ad 22)), (10, .ref (ad 23)), (11, .int (nI 1)), (12, .int (nI t)), (15, .int (nI (X / 17)))] ⟨rfl, rfl, rfl, rfl, rfl, rfl, rfl, rfl, rfl, rfl, rfl, rfl, rfl, rfl, trivial⟩ ?_
                        exact op_gap hc H hN hY (by omega) (by omega) (next (X / 17) (by omega))
                    · -- not taken
                      refine j_lv [(0, .ref bb), (1, .ref (ad 0)), (2, .ref (ad 15)), (3, .ref (ad 16)), (4, .ref (ad 17)), (5, .ref (ad 18)), (6, .ref (ad 19)), (7, .ref (ad 20)), (8, .ref (ad 21)), (9, .ref (ad 22)), (10, .ref (ad 23)), (11, .int (nI 1)), (12, .int (nI t)), (15, .int (nI (X / 17)))] ⟨rfl, rfl, rfl, rfl, rfl, rfl, rfl, rfl, rfl, rfl, rfl, rfl, rfl, rfl, trivial⟩ ?_
                      exact op_wk hc H hN hY (by omega) (by omega) (next (X / 17) (by omega))
                  · -- not taken
                    have hh60 : h < 60 := by
                      by_cases z : h < 60
                      · exact z
                      · exact absurd (nI_le (by omega) (by omega)) h870
                    refine j_lv [(0, .ref bb), (1, .ref (ad 0)), (2, .ref (ad 15)), (3, .ref (ad 16)), (4, .ref (ad 17)), (5, .ref (ad 18)), (6, .ref (ad 19)), (7, .ref (ad 20)), (8, .ref (ad 21)), (9, .ref (ad 22)), (10, .ref (ad 23)), (11, .int (nI 1)), (12, .int (nI t)), (15, .int (nI (X / 17)))] ⟨rfl, rfl, rfl, rfl, rfl, rfl, rfl, rfl, rfl, rfl, rfl, rfl, rfl, rfl, trivial⟩ ?_
                    exact op_hol hc H hN hY (by omega) (by omega) (next (X / 17) (by omega)) hh60
              · -- not taken
                refine j_aload_n hc dL_law_690 rfl ?_
                refine j_iconst hc (v := nI 2) dL_law_691 (by decide) ?_
                refine xl_0 hc (i := 2) (by omega) (v := (nI n)) (G.n2) dL_law_692 ?_
                refine j_if_le hc 857 dL_law_693 (by decide) (fun h693 => ?_) (fun h693 => ?_)
                · -- taken
                  refine j_iload hc dL_law_857 rfl ?_
                  refine j_bipush hc (v := nI 9) dL_law_859 (by decide) ?_
                  refine j_icmp_ne hc 985 dL_law_861 (by decide) (fun h861 => ?_) (fun h861 => ?_)
                  · -- taken
                    refine j_iload hc dL_law_985 rfl ?_
                    refine j_bipush hc (v := nI 10) dL_law_987 (by decide) ?_
                    refine j_icmp_ne hc 1125 dL_law_989 (by decide) (fun h989 => ?_) (fun h989 => ?_)
                    · -- taken
                      refine j_iload hc dL_law_1125 rfl ?_
                      refine j_bipush hc (v := nI 11) dL_law_1127 (by decide) ?_
                      refine j_icmp_ne hc 1273 dL_law_1129 (by decide) (fun h1129 => ?_) (fun h1129 => ?_)
                      · -- taken
                        refine j_iload hc dL_law_1273 rfl ?_
                        refine j_bipush hc (v := nI 12) dL_law_1275 (by decide) ?_
                        refine j_icmp_ne hc 1343 dL_law_1277 (by decide) (fun h1277 => ?_) (fun h1277 => ?_)
                        · -- taken
                          refine j_lv [(0, .ref bb), (1, .ref (ad 0)), (2, .ref (ad 15)), (3, .ref (ad 16)), (4, .ref (ad 17)), (5, .ref (ad 18)), (6, .ref (ad 19)), (7, .ref (ad 20)), (8, .ref (ad 21)), (9, .ref (ad 22)), (10, .ref (ad 23)), (11, .int (nI 1)), (12, .int (nI t)), (15, .int (nI (X / 17)))] ⟨rfl, rfl, rfl, rfl, rfl, rfl, rfl, rfl, rfl, rfl, rfl, rfl, rfl, rfl, trivial⟩ ?_
                          exact op_pass hc H hN hY (by omega) (by omega) (next (X / 17) (by omega))
                        · -- not taken
                          refine j_iload hc dL_law_1280 rfl ?_
                          refine j_iconst hc (v := nI 3) dL_law_1282 (by decide) ?_
                          refine j_iremE hc (by decide) (z := nI ((X / 17) % 3)) (pk_rem (by omega) (by omega) (by omega)) dL_law_1283 ?_
                          refine j_if_ne hc 1343 dL_law_1284 (by decide) (fun h1284 => ?_) (fun h1284 => ?_)
                          · -- taken
                            refine j_lv [(0, .ref bb), (1, .ref (ad 0)), (2, .ref (ad 15)), (3, .ref (ad 16)), (4, .ref (ad 17)), (5, .ref (ad 18)), (6, .ref (ad 19)), (7, .ref (ad 20)), (8, .ref (ad 21)), (9, .ref (ad 22)), (10, .ref (ad 23)), (11, .int (nI 1)), (12, .int (nI t)), (15, .int (nI (X / 17)))] ⟨rfl, rfl, rfl, rfl, rfl, rfl, rfl, rfl, rfl, rfl, rfl, rfl, rfl, rfl, trivial⟩ ?_
                            exact op_pass hc H hN hY (by omega) (by omega) (next (X / 17) (by omega))
                          · -- not taken
                            refine j_lv [(0, .ref bb), (1, .ref (ad 0)), (2, .ref (ad 15)), (3, .ref (ad 16)), (4, .ref (ad 17)), (5, .ref (ad 18)), (6, .ref (ad 19)), (7, .ref (ad 20)), (8, .ref (ad 21)), (9, .ref (ad 22)), (10, .ref (ad 23)), (11, .int (nI 1)), (12, .int (nI t)), (15, .int (nI (X / 17)))] ⟨rfl, rfl, rfl, rfl, rfl, rfl, rfl, rfl, rfl, rfl, rfl, rfl, rfl, rfl, trivial⟩ ?_
                            exact op_times hc H hN hY (by omega) (by omega) (next (X / 17) (by omega))
                      · -- not taken
                        refine j_lv [(0, .ref bb), (1, .ref (ad 0)), (2, .ref (ad 15)), (3, .ref (ad 16)), (4, .ref (ad 17)), (5, .ref (ad 18)), (6, .ref (ad 19)), (7, .ref (ad 20)), (8, .ref (ad 21)), (9, .ref (ad 22)), (10, .ref (ad 23)), (11, .int (nI 1)), (12, .int (nI t)), (15, .int (nI (X / 17)))] ⟨rfl, rfl, rfl, rfl, rfl, rfl, rfl, rfl, rfl, rfl, rfl, rfl, rfl, rfl, trivial⟩ ?_
                        exact op_gap hc H hN hY (by omega) (by omega) (next (X / 17) (by omega))
                    · -- not taken
                      refine j_lv [(0, .ref bb), (1, .ref (ad 0)), (2, .ref (ad 15)), (3, .ref (ad 16)), (4, .ref (ad 17)), (5, .ref (ad 18)), (6, .ref (ad 19)), (7, .ref (ad 20)), (8, .ref (ad 21)), (9, .ref (ad 22)), (10, .ref (ad 23)), (11, .int (nI 1)), (12, .int (nI t)), (15, .int (nI (X / 17)))] ⟨rfl, rfl, rfl, rfl, rfl, rfl, rfl, rfl, rfl, rfl, rfl, rfl, rfl, rfl, trivial⟩ ?_
                      exact op_wk hc H hN hY (by omega) (by omega) (next (X / 17) (by omega))
                  · -- not taken
                    refine j_aload_n hc dL_law_864 rfl ?_
                    refine j_bipush hc (v := nI 63) dL_law_865 (by decide) ?_
                    refine xl_1 hc (i := 63) (by omega) (v := (nI h)) (G.w63) dL_law_867 ?_
                    refine j_bipush hc (v := nI 60) dL_law_868 (by decide) ?_
                    refine j_icmp_ge hc 985 dL_law_870 (by decide) (fun h870 => ?_) (fun h870 => ?_)
                    · -- taken
                      refine j_iload hc dL_law_985 rfl ?_
                      refine j_bipush hc (v := nI 10) dL_law_987 (by decide) ?_
                      refine j_icmp_ne hc 1125 dL_law_989 (by decide) (fun h989 => ?_) (fun h989 => ?_)
                      · -- taken
                        refine j_iload hc dL_law_1125 rfl ?_
                        refine j_bipush hc (v := nI 11) dL_law_1127 (by decide) ?_
                        refine j_icmp_ne hc 1273 dL_law_1129 (by decide) (fun h1129 => ?_) (fun h1129 => ?_)
                        · -- taken
                          refine j_iload hc dL_law_1273 rfl ?_
                          refine j_bipush hc (v := nI 12) dL_law_1275 (by decide) ?_
                          refine j_icmp_ne hc 1343 dL_law_1277 (by decide) (fun h1277 => ?_) (fun h1277 => ?_)
                          · -- taken
                            refine j_lv [(0, .ref bb), (1, .ref (ad 0)), (2, .ref (ad 15)), (3, .ref (ad 16)), (4, .ref (ad 17)), (5, .ref (ad 18)), (6, .ref (ad 19)), (7, .ref (ad 20)), (8, .ref (ad 21)), (9, .ref (ad 22)), (10, .ref (ad 23)), (11, .int (nI 1)), (12, .int (nI t)), (15, .int (nI (X / 17)))] ⟨rfl, rfl, rfl, rfl, rfl, rfl, rfl, rfl, rfl, rfl, rfl, rfl, rfl, rfl, trivial⟩ ?_
                            exact op_pass hc H hN hY (by omega) (by omega) (next (X / 17) (by omega))
                          · -- not taken
                            refine j_iload hc dL_law_1280 rfl ?_
                            refine j_iconst hc (v := nI 3) dL_law_1282 (by decide) ?_
                            refine j_iremE hc (by decide) (z := nI ((X / 17) % 3)) (pk_rem (by omega) (by omega) (by omega)) dL_law_1283 ?_
                            refine j_if_ne hc 1343 dL_law_1284 (by decide) (fun h1284 => ?_) (fun h1284 => ?_)
                            · -- taken
                              refine j_lv [(0, .ref bb), (1, .ref (ad 0)), (2, .ref (ad 15)), (3, .ref (ad 16)), (4, .ref (ad 17)), (5, .ref (ad 18)), (6, .ref (ad 19)), (7, .ref (ad 20)), (8, .ref (ad 21)), (9, .ref (ad 22)), (10, .ref (ad 23)), (11, .int (nI 1)), (12, .int (nI t)), (15, .int (nI (X / 17)))] ⟨rfl, rfl, rfl, rfl, rfl, rfl, rfl, rfl, rfl, rfl, rfl, rfl, rfl, rfl, trivial⟩ ?_
                              exact op_pass hc H hN hY (by omega) (by omega) (next (X / 17) (by omega))
                            · -- not taken
                              refine j_lv [(0, .ref bb), (1, .ref (ad 0)), (2, .ref (ad 15)), (3, .ref (ad 16)), (4, .ref (ad 17)), (5, .ref (ad 18)), (6, .ref (ad 19)), (7, .ref (ad 20)), (8, .ref (ad 21)), (9, .ref (ad 22)), (10, .ref (ad 23)), (11, .int (nI 1)), (12, .int (nI t)), (15, .int (nI (X / 17)))] ⟨rfl, rfl, rfl, rfl, rfl, rfl, rfl, rfl, rfl, rfl, rfl, rfl, rfl, rfl, trivial⟩ ?_
                              exact op_times hc H hN hY (by omega) (by omega) (next (X / 17) (by omega))
                        · -- not taken
                          refine j_lv [(0, .ref bb), (1, .ref (ad 0)), (2, .ref (ad 15)), (3, .ref (ad 16)), (4, .ref (ad 17)), (5, .ref (ad 18)), (6, .ref (ad 19)), (7, .ref (ad 20)), (8, .ref (ad 21)), (9, .ref (ad 22)), (10, .ref (ad 23)), (11, .int (nI 1)), (12, .int (nI t)), (15, .int (nI (X / 17)))] ⟨rfl, rfl, rfl, rfl, rfl, rfl, rfl, rfl, rfl, rfl, rfl, rfl, rfl, rfl, trivial⟩ ?_
                          exact op_gap hc H hN hY (by omega) (by omega) (next (X / 17) (by omega))
                      · -- not taken
                        refine j_lv [(0, .ref bb), (1, .ref (ad 0)), (2, .ref (ad 15)), (3, .ref (ad 16)), (4, .ref (ad 17)), (5, .ref (ad 18)), (6, .ref (ad 19)), (7, .ref (ad 20)), (8, .ref (ad 21)), (9, .ref (ad 22)), (10, .ref (ad 23)), (11, .int (nI 1)), (12, .int (nI t)), (15, .int (nI (X / 17)))] ⟨rfl, rfl, rfl, rfl, rfl, rfl, rfl, rfl, rfl, rfl, rfl, rfl, rfl, rfl, trivial⟩ ?_
                        exact op_wk hc H hN hY (by omega) (by omega) (next (X / 17) (by omega))
                    · -- not taken
                      have hh60 : h < 60 := by
                        by_cases z : h < 60
                        · exact z
                        · exact absurd (nI_le (by omega) (by omega)) h870
                      refine j_lv [(0, .ref bb), (1, .ref (ad 0)), (2, .ref (ad 15)), (3, .ref (ad 16)), (4, .ref (ad 17)), (5, .ref (ad 18)), (6, .ref (ad 19)), (7, .ref (ad 20)), (8, .ref (ad 21)), (9, .ref (ad 22)), (10, .ref (ad 23)), (11, .int (nI 1)), (12, .int (nI t)), (15, .int (nI (X / 17)))] ⟨rfl, rfl, rfl, rfl, rfl, rfl, rfl, rfl, rfl, rfl, rfl, rfl, rfl, rfl, trivial⟩ ?_
                      exact op_hol hc H hN hY (by omega) (by omega) (next (X / 17) (by omega)) hh60
                · -- not taken
                  have hn0 : 0 < n := by
                    by_cases z : n = 0
                    · exact absurd (by rw [z]; decide) h693
                    · omega
                  refine j_lv [(0, .ref bb), (1, .ref (ad 0)), (2, .ref (ad 15)), (3, .ref (ad 16)), (4, .ref (ad 17)), (5, .ref (ad 18)), (6, .ref (ad 19)), (7, .ref (ad 20)), (8, .ref (ad 21)), (9, .ref (ad 22)), (10, .ref (ad 23)), (11, .int (nI 1)), (12, .int (nI t)), (15, .int (nI (X / 17))), (16, .int (nI β))] ⟨rfl, rfl, rfl, rfl, rfl, rfl, rfl, rfl, rfl, rfl, rfl, rfl, rfl, rfl, rfl, trivial⟩ ?_
                  exact op_prom hc H hN hY (by omega) (by omega) (next (X / 17) (by omega)) (hβ hn0)
            · -- not taken
              refine j_aload_n hc dL_law_580 rfl ?_
              refine j_iconst hc (v := nI 2) dL_law_581 (by decide) ?_
              refine xl_0 hc (i := 2) (by omega) (v := (nI n)) (G.n2) dL_law_582 ?_
              refine j_if_le hc 683 dL_law_583 (by decide) (fun h583 => ?_) (fun h583 => ?_)
              · -- taken
                refine j_iload hc dL_law_683 rfl ?_
                refine j_bipush hc (v := nI 9) dL_law_685 (by decide) ?_
                refine j_icmp_ge hc 857 dL_law_687 (by decide) (fun h687 => ?_) (fun h687 => ?_)
                · -- taken
                  refine j_iload hc dL_law_857 rfl ?_
                  refine j_bipush hc (v := nI 9) dL_law_859 (by decide) ?_
                  refine j_icmp_ne hc 985 dL_law_861 (by decide) (fun h861 => ?_) (fun h861 => ?_)
                  · -- taken
                    refine j_iload hc dL_law_985 rfl ?_
                    refine j_bipush hc (v := nI 10) dL_law_987 (by decide) ?_
                    refine j_icmp_ne hc 1125 dL_law_989 (by decide) (fun h989 => ?_) (fun h989 => ?_)
                    · -- taken
                      refine j_iload hc dL_law_1125 rfl ?_
                      refine j_bipush hc (v := nI 11) dL_law_1127 (by decide) ?_
                      refine j_icmp_ne hc 1273 dL_law_1129 (by decide) (fun h1129 => ?_) (fun h1129 => ?_)
                      · -- taken
                        refine j_iload hc dL_law_1273 rfl ?_
                        refine j_bipush hc (v := nI 12) dL_law_1275 (by decide) ?_
                        refine j_icmp_ne hc 1343 dL_law_1277 (by decide) (fun h1277 => ?_) (fun h1277 => ?_)
                        · -- taken
                          refine j_lv [(0, .ref bb), (1, .ref (ad 0)), (2, .ref (ad 15)), (3, .ref (ad 16)), (4, .ref (ad 17)), (5, .ref (ad 18)), (6, .ref (ad 19)), (7, .ref (ad 20)), (8, .ref (ad 21)), (9, .ref (ad 22)), (10, .ref (ad 23)), (11, .int (nI 1)), (12, .int (nI t)), (15, .int (nI (X / 17)))] ⟨rfl, rfl, rfl, rfl, rfl, rfl, rfl, rfl, rfl, rfl, rfl, rfl, rfl, rfl, trivial⟩ ?_
                          exact op_pass hc H hN hY (by omega) (by omega) (next (X / 17) (by omega))
                        · -- not taken
                          refine j_iload hc dL_law_1280 rfl ?_
                          refine j_iconst hc (v := nI 3) dL_law_1282 (by decide) ?_
                          refine j_iremE hc (by decide) (z := nI ((X / 17) % 3)) (pk_rem (by omega) (by omega) (by omega)) dL_law_1283 ?_
                          refine j_if_ne hc 1343 dL_law_1284 (by decide) (fun h1284 => ?_) (fun h1284 => ?_)
                          · -- taken
                            refine j_lv [(0, .ref bb), (1, .ref (ad 0)), (2, .ref (ad 15)), (3, .ref (ad 16)), (4, .ref (ad 17)), (5, .ref (ad 18)), (6, .ref (ad 19)), (7, .ref (ad 20)), (8, .ref (ad 21)), (9, .ref (ad 22)), (10, .ref (ad 23)), (11, .int (nI 1)), (12, .int (nI t)), (15, .int (nI (X / 17)))] ⟨rfl, rfl, rfl, rfl, rfl, rfl, rfl, rfl, rfl, rfl, rfl, rfl, rfl, rfl, trivial⟩ ?_
                            exact op_pass hc H hN hY (by omega) (by omega) (next (X / 17) (by omega))
                          · -- not taken
                            refine j_lv [(0, .ref bb), (1, .ref (ad 0)), (2, .ref (ad 15)), (3, .ref (ad 16)), (4, .ref (ad 17)), (5, .ref (ad 18)), (6, .ref (ad 19)), (7, .ref (ad 20)), (8, .ref (ad 21)), (9, .ref (ad 22)), (10, .ref (ad 23)), (11, .int (nI 1)), (12, .int (nI t)), (15, .int (nI (X / 17)))] ⟨rfl, rfl, rfl, rfl, rfl, rfl, rfl, rfl, rfl, rfl, rfl, rfl, rfl, rfl, trivial⟩ ?_
                            exact op_times hc H hN hY (by omega) (by omega) (next (X / 17) (by omega))
                      · -- not taken
                        refine j_lv [(0, .ref bb), (1, .ref (ad 0)), (2, .ref (ad 15)), (3, .ref (ad 16)), (4, .ref (ad 17)), (5, .ref (ad 18)), (6, .ref (ad 19)), (7, .ref (ad 20)), (8, .ref (ad 21)), (9, .ref (ad 22)), (10, .ref (ad 23)), (11, .int (nI 1)), (12, .int (nI t)), (15, .int (nI (X / 17)))] ⟨rfl, rfl, rfl, rfl, rfl, rfl, rfl, rfl, rfl, rfl, rfl, rfl, rfl, rfl, trivial⟩ ?_
                        exact op_gap hc H hN hY (by omega) (by omega) (next (X / 17) (by omega))
                    · -- not taken
                      refine j_lv [(0, .ref bb), (1, .ref (ad 0)), (2, .ref (ad 15)), (3, .ref (ad 16)), (4, .ref (ad 17)), (5, .ref (ad 18)), (6, .ref (ad 19)), (7, .ref (ad 20)), (8, .ref (ad 21)), (9, .ref (ad 22)), (10, .ref (ad 23)), (11, .int (nI 1)), (12, .int (nI t)), (15, .int (nI (X / 17)))] ⟨rfl, rfl, rfl, rfl, rfl, rfl, rfl, rfl, rfl, rfl, rfl, rfl, rfl, rfl, trivial⟩ ?_
                      exact op_wk hc H hN hY (by omega) (by omega) (next (X / 17) (by omega))
                  · -- not taken
                    refine j_aload_n hc dL_law_864 rfl ?_
                    refine j_bipush hc (v := nI 63) dL_law_865 (by decide) ?_
                    refine xl_1 hc (i := 63) (by omega) (v := (nI h)) (G.w63) dL_law_867 ?_
                    refine j_bipush hc (v := nI 60) dL_law_868 (by decide) ?_
                    refine j_icmp_ge hc 985 dL_law_870 (by decide) (fun h870 => ?_) (fun h870 => ?_)
                    · -- taken
                      refine j_iload hc dL_law_985 rfl ?_
                      refine j_bipush hc (v := nI 10) dL_law_987 (by decide) ?_
                      refine j_icmp_ne hc 1125 dL_law_989 (by decide) (fun h989 => ?_) (fun h989 => ?_)
                      · -- taken
                        refine j_iload hc dL_law_1125 rfl ?_
                        refine j_bipush hc (v := nI 11) dL_law_1127 (by decide) ?_
                        refine j_icmp_ne hc 1273 dL_law_1129 (by decide) (fun h1129 => ?_) (fun h1129 => ?_)
                        · -- taken
                          refine j_iload hc dL_law_1273 rfl ?_
                          refine j_bipush hc (v := nI 12) dL_law_1275 (by decide) ?_
                          refine j_icmp_ne hc 1343 dL_law_1277 (by decide) (fun h1277 => ?_) (fun h1277 => ?_)
                          · -- taken
                            refine j_lv [(0, .ref bb), (1, .ref (ad 0)), (2, .ref (ad 15)), (3, .ref (ad 16)), (4, .ref (ad 17)), (5, .ref (ad 18)), (6, .ref (ad 19)), (7, .ref (ad 20)), (8, .ref (ad 21)), (9, .ref (ad 22)), (10, .ref (ad 23)), (11, .int (nI 1)), (12, .int (nI t)), (15, .int (nI (X / 17)))] ⟨rfl, rfl, rfl, rfl, rfl, rfl, rfl, rfl, rfl, rfl, rfl, rfl, rfl, rfl, trivial⟩ ?_
                            exact op_pass hc H hN hY (by omega) (by omega) (next (X / 17) (by omega))
                          · -- not taken
                            refine j_iload hc dL_law_1280 rfl ?_
                            refine j_iconst hc (v := nI 3) dL_law_1282 (by decide) ?_
                            refine j_iremE hc (by decide) (z := nI ((X / 17) % 3)) (pk_rem (by omega) (by omega) (by omega)) dL_law_1283 ?_
                            refine j_if_ne hc 1343 dL_law_1284 (by decide) (fun h1284 => ?_) (fun h1284 => ?_)
                            · -- taken
                              refine j_lv [(0, .ref bb), (1, .ref (ad 0)), (2, .ref (ad 15)), (3, .ref (ad 16)), (4, .ref (ad 17)), (5, .ref (ad 18)), (6, .ref (ad 19)), (7, .ref (ad 20)), (8, .ref (ad 21)), (9, .ref (ad 22)), (10, .ref (ad 23)), (11, .int (nI 1)), (12, .int (nI t)), (15, .int (nI (X / 17)))] ⟨rfl, rfl, rfl, rfl, rfl, rfl, rfl, rfl, rfl, rfl, rfl, rfl, rfl, rfl, trivial⟩ ?_
                              exact op_pass hc H hN hY (by omega) (by omega) (next (X / 17) (by omega))
                            · -- not taken
                              refine j_lv [(0, .ref bb), (1, .ref (ad 0)), (2, .ref (ad 15)), (3, .ref (ad 16)), (4, .ref (ad 17)), (5, .ref (ad 18)), (6, .ref (ad 19)), (7, .ref (ad 20)), (8, .ref (ad 21)), (9, .ref (ad 22)), (10, .ref (ad 23)), (11, .int (nI 1)), (12, .int (nI t)), (15, .int (nI (X / 17)))] ⟨rfl, rfl, rfl, rfl, rfl, rfl, rfl, rfl, rfl, rfl, rfl, rfl, rfl, rfl, trivial⟩ ?_
                              exact op_times hc H hN hY (by omega) (by omega) (next (X / 17) (by omega))
                        · -- not taken
                          refine j_lv [(0, .ref bb), (1, .ref (ad 0)), (2, .ref (ad 15)), (3, .ref (ad 16)), (4, .ref (ad 17)), (5, .ref (ad 18)), (6, .ref (ad 19)), (7, .ref (ad 20)), (8, .ref (ad 21)), (9, .ref (ad 22)), (10, .ref (ad 23)), (11, .int (nI 1)), (12, .int (nI t)), (15, .int (nI (X / 17)))] ⟨rfl, rfl, rfl, rfl, rfl, rfl, rfl, rfl, rfl, rfl, rfl, rfl, rfl, rfl, trivial⟩ ?_
                          exact op_gap hc H hN hY (by omega) (by omega) (next (X / 17) (by omega))
                      · -- not taken
                        refine j_lv [(0, .ref bb), (1, .ref (ad 0)), (2, .ref (ad 15)), (3, .ref (ad 16)), (4, .ref (ad 17)), (5, .ref (ad 18)), (6, .ref (ad 19)), (7, .ref (ad 20)), (8, .ref (ad 21)), (9, .ref (ad 22)), (10, .ref (ad 23)), (11, .int (nI 1)), (12, .int (nI t)), (15, .int (nI (X / 17)))] ⟨rfl, rfl, rfl, rfl, rfl, rfl, rfl, rfl, rfl, rfl, rfl, rfl, rfl, rfl, trivial⟩ ?_
                        exact op_wk hc H hN hY (by omega) (by omega) (next (X / 17) (by omega))
                    · -- not taken
                      have hh60 : h < 60 := by
                        by_cases z : h < 60
                        · exact z
                        · exact absurd (nI_le (by omega) (by omega)) h870
                      refine j_lv [(0, .ref bb), (1, .ref (ad 0)), (2, .ref (ad 15)), (3, .ref (ad 16)), (4, .ref (ad 17)), (5, .ref (ad 18)), (6, .ref (ad 19)), (7, .ref (ad 20)), (8, .ref (ad 21)), (9, .ref (ad 22)), (10, .ref (ad 23)), (11, .int (nI 1)), (12, .int (nI t)), (15, .int (nI (X / 17)))] ⟨rfl, rfl, rfl, rfl, rfl, rfl, rfl, rfl, rfl, rfl, rfl, rfl, rfl, rfl, trivial⟩ ?_
                      exact op_hol hc H hN hY (by omega) (by omega) (next (X / 17) (by omega)) hh60
                · -- not taken
                  refine j_aload_n hc dL_law_690 rfl ?_
                  refine j_iconst hc (v := nI 2) dL_law_691 (by decide) ?_
                  refine xl_0 hc (i := 2) (by omega) (v := (nI n)) (G.n2) dL_law_692 ?_
                  refine j_if_le hc 857 dL_law_693 (by decide) (fun h693 => ?_) (fun h693 => ?_)
                  · -- taken
                    refine j_iload hc dL_law_857 rfl ?_
                    refine j_bipush hc (v := nI 9) dL_law_859 (by decide) ?_
                    refine j_icmp_ne hc 985 dL_law_861 (by decide) (fun h861 => ?_) (fun h861 => ?_)
                    · -- taken
                      refine j_iload hc dL_law_985 rfl ?_
                      refine j_bipush hc (v := nI 10) dL_law_987 (by decide) ?_
                      refine j_icmp_ne hc 1125 dL_law_989 (by decide) (fun h989 => ?_) (fun h989 => ?_)
                      · -- taken
                        refine j_iload hc dL_law_1125 rfl ?_
                        refine j_bipush hc (v := nI 11) dL_law_1127 (by decide) ?_
                        refine j_icmp_ne hc 1273 dL_law_1129 (by decide) (fun h1129 => ?_) (fun h1129 => ?_)
                        · -- taken
                          refine j_iload hc dL_law_1273 rfl ?_
                          refine j_bipush hc (v := nI 12) dL_law_1275 (by decide) ?_
                          refine j_icmp_ne hc 1343 dL_law_1277 (by decide) (fun h1277 => ?_) (fun h1277 => ?_)
                          · -- taken
                            refine j_lv [(0, .ref bb), (1, .ref (ad 0)), (2, .ref (ad 15)), (3, .ref (ad 16)), (4, .ref (ad 17)), (5, .ref (ad 18)), (6, .ref (ad 19)), (7, .ref (ad 20)), (8, .ref (ad 21)), (9, .ref (ad 22)), (10, .ref (ad 23)), (11, .int (nI 1)), (12, .int (nI t)), (15, .int (nI (X / 17)))] ⟨rfl, rfl, rfl, rfl, rfl, rfl, rfl, rfl, rfl, rfl, rfl, rfl, rfl, rfl, trivial⟩ ?_
                            exact op_pass hc H hN hY (by omega) (by omega) (next (X / 17) (by omega))
                          · -- not taken
                            refine j_iload hc dL_law_1280 rfl ?_
                            refine j_iconst hc (v := nI 3) dL_law_1282 (by decide) ?_
                            refine j_iremE hc (by decide) (z := nI ((X / 17) % 3)) (pk_rem (by omega) (by omega) (by omega)) dL_law_1283 ?_
                            refine j_if_ne hc 1343 dL_law_1284 (by decide) (fun h1284 => ?_) (fun h1284 => ?_)
                            · -- taken
                              refine j_lv [(0, .ref bb), (1, .ref (ad 0)), (2, .ref (ad 15)), (3, .ref (ad 16)), (4, .ref (ad 17)), (5, .ref (ad 18)), (6, .ref (ad 19)), (7, .ref (ad 20)), (8, .ref (ad 21)), (9, .ref (ad 22)), (10, .ref (ad 23)), (11, .int (nI 1)), (12, .int (nI t)), (15, .int (nI (X / 17)))] ⟨rfl, rfl, rfl, rfl, rfl, rfl, rfl, rfl, rfl, rfl, rfl, rfl, rfl, rfl, trivial⟩ ?_
                              exact op_pass hc H hN hY (by omega) (by omega) (next (X / 17) (by omega))
                            · -- not taken
                              refine j_lv [(0, .ref bb), (1, .ref (ad 0)), (2, .ref (ad 15)), (3, .ref (ad 16)), (4, .ref (ad 17)), (5, .ref (ad 18)), (6, .ref (ad 19)), (7, .ref (ad 20)), (8, .ref (ad 21)), (9, .ref (ad 22)), (10, .ref (ad 23)), (11, .int (nI 1)), (12, .int (nI t)), (15, .int (nI (X / 17)))] ⟨rfl, rfl, rfl, rfl, rfl, rfl, rfl, rfl, rfl, rfl, rfl, rfl, rfl, rfl, trivial⟩ ?_
                              exact op_times hc H hN hY (by omega) (by omega) (next (X / 17) (by omega))
                        · -- not taken
                          refine j_lv [(0, .ref bb), (1, .ref (ad 0)), (2, .ref (ad 15)), (3, .ref (ad 16)), (4, .ref (ad 17)), (5, .ref (ad 18)), (6, .ref (ad 19)), (7, .ref (ad 20)), (8, .ref (ad 21)), (9, .ref (ad 22)), (10, .ref (ad 23)), (11, .int (nI 1)), (12, .int (nI t)), (15, .int (nI (X / 17)))] ⟨rfl, rfl, rfl, rfl, rfl, rfl, rfl, rfl, rfl, rfl, rfl, rfl, rfl, rfl, trivial⟩ ?_
                          exact op_gap hc H hN hY (by omega) (by omega) (next (X / 17) (by omega))
                      · -- not taken
                        refine j_lv [(0, .ref bb), (1, .ref (ad 0)), (2, .ref (ad 15)), (3, .ref (ad 16)), (4, .ref (ad 17)), (5, .ref (ad 18)), (6, .ref (ad 19)), (7, .ref (ad 20)), (8, .ref (ad 21)), (9, .ref (ad 22)), (10, .ref (ad 23)), (11, .int (nI 1)), (12, .int (nI t)), (15, .int (nI (X / 17)))] ⟨rfl, rfl, rfl, rfl, rfl, rfl, rfl, rfl, rfl, rfl, rfl, rfl, rfl, rfl, trivial⟩ ?_
                        exact op_wk hc H hN hY (by omega) (by omega) (next (X / 17) (by omega))
                    · -- not taken
                      refine j_aload_n hc dL_law_864 rfl ?_
                      refine j_bipush hc (v := nI 63) dL_law_865 (by decide) ?_
                      refine xl_1 hc (i := 63) (by omega) (v := (nI h)) (G.w63) dL_law_867 ?_
                      refine j_bipush hc (v := nI 60) dL_law_868 (by decide) ?_
                      refine j_icmp_ge hc 985 dL_law_870 (by decide) (fun h870 => ?_) (fun h870 => ?_)
                      · -- taken
                        refine j_iload hc dL_law_985 rfl ?_
                        refine j_bipush hc (v := nI 10) dL_law_987 (by decide) ?_
                        refine j_icmp_ne hc 1125 dL_law_989 (by decide) (fun h989 => ?_) (fun h989 => ?_)
                        · -- taken
                          refine j_iload hc dL_law_1125 rfl ?_
                          refine j_bipush hc (v := nI 11) dL_law_1127 (by decide) ?_
                          refine j_icmp_ne hc 1273 dL_law_1129 (by decide) (fun h1129 => ?_) (fun h1129 => ?_)
                          · -- taken
                            refine j_iload hc dL_law_1273 rfl ?_
                            refine j_bipush hc (v := nI 12) dL_law_1275 (by decide) ?_
                            refine j_icmp_ne hc 1343 dL_law_1277 (by decide) (fun h1277 => ?_) (fun h1277 => ?_)
                            · -- taken
                              refine j_lv [(0, .ref bb), (1, .ref (ad 0)), (2, .ref (ad 15)), (3, .ref (ad 16)), (4, .ref (ad 17)), (5, .ref (ad 18)), (6, .ref (ad 19)), (7, .ref (ad 20)), (8, .ref (ad 21)), (9, .ref (ad 22)), (10, .ref (ad 23)), (11, .int (nI 1)), (12, .int (nI t)), (15, .int (nI (X / 17)))] ⟨rfl, rfl, rfl, rfl, rfl, rfl, rfl, rfl, rfl, rfl, rfl, rfl, rfl, rfl, trivial⟩ ?_
                              exact op_pass hc H hN hY (by omega) (by omega) (next (X / 17) (by omega))
                            · -- not taken
                              refine j_iload hc dL_law_1280 rfl ?_
                              refine j_iconst hc (v := nI 3) dL_law_1282 (by decide) ?_
                              refine j_iremE hc (by decide) (z := nI ((X / 17) % 3)) (pk_rem (by omega) (by omega) (by omega)) dL_law_1283 ?_
                              refine j_if_ne hc 1343 dL_law_1284 (by decide) (fun h1284 => ?_) (fun h1284 => ?_)
                              · -- taken
                                refine j_lv [(0, .ref bb), (1, .ref (ad 0)), (2, .ref (ad 15)), (3, .ref (ad 16)), (4, .ref (ad 17)), (5, .ref (ad 18)), (6, .ref (ad 19)), (7, .ref (ad 20)), (8, .ref (ad 21)), (9, .ref (ad 22)), (10, .ref (ad 23)), (11, .int (nI 1)), (12, .int (nI t)), (15, .int (nI (X / 17)))] ⟨rfl, rfl, rfl, rfl, rfl, rfl, rfl, rfl, rfl, rfl, rfl, rfl, rfl, rfl, trivial⟩ ?_
                                exact op_pass hc H hN hY (by omega) (by omega) (next (X / 17) (by omega))
                              · -- not taken
                                refine j_lv [(0, .ref bb), (1, .ref (ad 0)), (2, .ref (ad 15)), (3, .ref (ad 16)), (4, .ref (ad 17)), (5, .ref (ad 18)), (6, .ref (ad 19)), (7, .ref (ad 20)), (8, .ref (ad 21)), (9, .ref (ad 22)), (10, .ref (ad 23)), (11, .int (nI 1)), (12, .int (nI t)), (15, .int (nI (X / 17)))] ⟨rfl, rfl, rfl, rfl, rfl, rfl, rfl, rfl, rfl, rfl, rfl, rfl, rfl, rfl, trivial⟩ ?_
                                exact op_times hc H hN hY (by omega) (by omega) (next (X / 17) (by omega))
                          · -- not taken
                            refine j_lv [(0, .ref bb), (1, .ref (ad 0)), (2, .ref (ad 15)), (3, .ref (ad 16)), (4, .ref (ad 17)), (5, .ref (ad 18)), (6, .ref (ad 19)), (7, .ref (ad 20)), (8, .ref (ad 21)), (9, .ref (ad 22)), (10, .ref (ad 23)), (11, .int (nI 1)), (12, .int (nI t)), (15, .int (nI (X / 17)))] ⟨rfl, rfl, rfl, rfl, rfl, rfl, rfl, rfl, rfl, rfl, rfl, rfl, rfl, rfl, trivial⟩ ?_
                            exact op_gap hc H hN hY (by omega) (by omega) (next (X / 17) (by omega))
                        · -- not taken
                          refine j_lv [(0, .ref bb), (1, .ref (ad 0)), (2, .ref (ad 15)), (3, .ref (ad 16)), (4, .ref (ad 17)), (5, .ref (ad 18)), (6, .ref (ad 19)), (7, .ref (ad 20)), (8, .ref (ad 21)), (9, .ref (ad 22)), (10, .ref (ad 23)), (11, .int (nI 1)), (12, .int (nI t)), (15, .int (nI (X / 17)))] ⟨rfl, rfl, rfl, rfl, rfl, rfl, rfl, rfl, rfl, rfl, rfl, rfl, rfl, rfl, trivial⟩ ?_
                          exact op_wk hc H hN hY (by omega) (by omega) (next (X / 17) (by omega))
                      · -- not taken
                        have hh60 : h < 60 := by
                          by_cases z : h < 60
                          · exact z
                          · exact absurd (nI_le (by omega) (by omega)) h870
                        refine j_lv [(0, .ref bb), (1, .ref (ad 0)), (2, .ref (ad 15)), (3, .ref (ad 16)), (4, .ref (ad 17)), (5, .ref (ad 18)), (6, .ref (ad 19)), (7, .ref (ad 20)), (8, .ref (ad 21)), (9, .ref (ad 22)), (10, .ref (ad 23)), (11, .int (nI 1)), (12, .int (nI t)), (15, .int (nI (X / 17)))] ⟨rfl, rfl, rfl, rfl, rfl, rfl, rfl, rfl, rfl, rfl, rfl, rfl, rfl, rfl, trivial⟩ ?_
                        exact op_hol hc H hN hY (by omega) (by omega) (next (X / 17) (by omega)) hh60
                  · -- not taken
                    have hn0 : 0 < n := by
                      by_cases z : n = 0
                      · exact absurd (by rw [z]; decide) h693
                      · omega
                    refine j_lv [(0, .ref bb), (1, .ref (ad 0)), (2, .ref (ad 15)), (3, .ref (ad 16)), (4, .ref (ad 17)), (5, .ref (ad 18)), (6, .ref (ad 19)), (7, .ref (ad 20)), (8, .ref (ad 21)), (9, .ref (ad 22)), (10, .ref (ad 23)), (11, .int (nI 1)), (12, .int (nI t)), (15, .int (nI (X / 17))), (16, .int (nI β))] ⟨rfl, rfl, rfl, rfl, rfl, rfl, rfl, rfl, rfl, rfl, rfl, rfl, rfl, rfl, rfl, trivial⟩ ?_
                    exact op_prom hc H hN hY (by omega) (by omega) (next (X / 17) (by omega)) (hβ hn0)
              · -- not taken
                have hn0 : 0 < n := by
                  by_cases z : n = 0
                  · exact absurd (by rw [z]; decide) h583
                  · omega
                refine j_lv [(0, .ref bb), (1, .ref (ad 0)), (2, .ref (ad 15)), (3, .ref (ad 16)), (4, .ref (ad 17)), (5, .ref (ad 18)), (6, .ref (ad 19)), (7, .ref (ad 20)), (8, .ref (ad 21)), (9, .ref (ad 22)), (10, .ref (ad 23)), (11, .int (nI 1)), (12, .int (nI t)), (15, .int (nI (X / 17))), (16, .int (nI β))] ⟨rfl, rfl, rfl, rfl, rfl, rfl, rfl, rfl, rfl, rfl, rfl, rfl, rfl, rfl, rfl, trivial⟩ ?_
                exact op_pay hc H hN hY (by omega) (by omega) (next (X / 17) (by omega)) (hβ hn0)
          · -- not taken
            refine j_aload_n hc dL_law_396 rfl ?_
            refine j_iconst hc (v := nI 2) dL_law_397 (by decide) ?_
            refine xl_0 hc (i := 2) (by omega) (v := (nI n)) (G.n2) dL_law_398 ?_
            refine j_if_le hc 573 dL_law_399 (by decide) (fun h399 => ?_) (fun h399 => ?_)
            · -- taken
              refine j_iload hc dL_law_573 rfl ?_
              refine j_bipush hc (v := nI 6) dL_law_575 (by decide) ?_
              refine j_icmp_ne hc 683 dL_law_577 (by decide) (fun h577 => ?_) (fun h577 => ?_)
              · -- taken
                refine j_iload hc dL_law_683 rfl ?_
                refine j_bipush hc (v := nI 9) dL_law_685 (by decide) ?_
                refine j_icmp_ge hc 857 dL_law_687 (by decide) (fun h687 => ?_) (fun h687 => ?_)
                · -- taken
                  refine j_iload hc dL_law_857 rfl ?_
                  refine j_bipush hc (v := nI 9) dL_law_859 (by decide) ?_
                  refine j_icmp_ne hc 985 dL_law_861 (by decide) (fun h861 => ?_) (fun h861 => ?_)
                  · -- taken
                    refine j_iload hc dL_law_985 rfl ?_
                    refine j_bipush hc (v := nI 10) dL_law_987 (by decide) ?_
                    refine j_icmp_ne hc 1125 dL_law_989 (by decide) (fun h989 => ?_) (fun h989 => ?_)
                    · -- taken
                      refine j_iload hc dL_law_1125 rfl ?_
                      refine j_bipush hc (v := nI 11) dL_law_1127 (by decide) ?_
                      refine j_icmp_ne hc 1273 dL_law_1129 (by decide) (fun h1129 => ?_) (fun h1129 => ?_)
                      · -- taken
                        refine j_iload hc dL_law_1273 rfl ?_
                        refine j_bipush hc (v := nI 12) dL_law_1275 (by decide) ?_
                        refine j_icmp_ne hc 1343 dL_law_1277 (by decide) (fun h1277 => ?_) (fun h1277 => ?_)
                        · -- taken
                          refine j_lv [(0, .ref bb), (1, .ref (ad 0)), (2, .ref (ad 15)), (3, .ref (ad 16)), (4, .ref (ad 17)), (5, .ref (ad 18)), (6, .ref (ad 19)), (7, .ref (ad 20)), (8, .ref (ad 21)), (9, .ref (ad 22)), (10, .ref (ad 23)), (11, .int (nI 1)), (12, .int (nI t)), (15, .int (nI (X / 17)))] ⟨rfl, rfl, rfl, rfl, rfl, rfl, rfl, rfl, rfl, rfl, rfl, rfl, rfl, rfl, trivial⟩ ?_
                          exact op_pass hc H hN hY (by omega) (by omega) (next (X / 17) (by omega))
                        · -- not taken
                          refine j_iload hc dL_law_1280 rfl ?_
                          refine j_iconst hc (v := nI 3) dL_law_1282 (by decide) ?_
                          refine j_iremE hc (by decide) (z := nI ((X / 17) % 3)) (pk_rem (by omega) (by omega) (by omega)) dL_law_1283 ?_
                          refine j_if_ne hc 1343 dL_law_1284 (by decide) (fun h1284 => ?_) (fun h1284 => ?_)
                          · -- taken
                            refine j_lv [(0, .ref bb), (1, .ref (ad 0)), (2, .ref (ad 15)), (3, .ref (ad 16)), (4, .ref (ad 17)), (5, .ref (ad 18)), (6, .ref (ad 19)), (7, .ref (ad 20)), (8, .ref (ad 21)), (9, .ref (ad 22)), (10, .ref (ad 23)), (11, .int (nI 1)), (12, .int (nI t)), (15, .int (nI (X / 17)))] ⟨rfl, rfl, rfl, rfl, rfl, rfl, rfl, rfl, rfl, rfl, rfl, rfl, rfl, rfl, trivial⟩ ?_
                            exact op_pass hc H hN hY (by omega) (by omega) (next (X / 17) (by omega))
                          · -- not taken
                            refine j_lv [(0, .ref bb), (1, .ref (ad 0)), (2, .ref (ad 15)), (3, .ref (ad 16)), (4, .ref (ad 17)), (5, .ref (ad 18)), (6, .ref (ad 19)), (7, .ref (ad 20)), (8, .ref (ad 21)), (9, .ref (ad 22)), (10, .ref (ad 23)), (11, .int (nI 1)), (12, .int (nI t)), (15, .int (nI (X / 17)))] ⟨rfl, rfl, rfl, rfl, rfl, rfl, rfl, rfl, rfl, rfl, rfl, rfl, rfl, rfl, trivial⟩ ?_
                            exact op_times hc H hN hY (by omega) (by omega) (next (X / 17) (by omega))
                      · -- not taken
                        refine j_lv [(0, .ref bb), (1, .ref (ad 0)), (2, .ref (ad 15)), (3, .ref (ad 16)), (4, .ref (ad 17)), (5, .ref (ad 18)), (6, .ref (ad 19)), (7, .ref (ad 20)), (8, .ref (ad 21)), (9, .ref (ad 22)), (10, .ref (ad 23)), (11, .int (nI 1)), (12, .int (nI t)), (15, .int (nI (X / 17)))] ⟨rfl, rfl, rfl, rfl, rfl, rfl, rfl, rfl, rfl, rfl, rfl, rfl, rfl, rfl, trivial⟩ ?_
                        exact op_gap hc H hN hY (by omega) (by omega) (next (X / 17) (by omega))
                    · -- not taken
                      refine j_lv [(0, .ref bb), (1, .ref (ad 0)), (2, .ref (ad 15)), (3, .ref (ad 16)), (4, .ref (ad 17)), (5, .ref (ad 18)), (6, .ref (ad 19)), (7, .ref (ad 20)), (8, .ref (ad 21)), (9, .ref (ad 22)), (10, .ref (ad 23)), (11, .int (nI 1)), (12, .int (nI t)), (15, .int (nI (X / 17)))] ⟨rfl, rfl, rfl, rfl, rfl, rfl, rfl, rfl, rfl, rfl, rfl, rfl, rfl, rfl, trivial⟩ ?_
                      exact op_wk hc H hN hY (by omega) (by omega) (next (X / 17) (by omega))
                  · -- not taken
                    refine j_aload_n hc dL_law_864 rfl ?_
                    refine j_bipush hc (v := nI 63) dL_law_865 (by decide) ?_
                    refine xl_1 hc (i := 63) (by omega) (v := (nI h)) (G.w63) dL_law_867 ?_
                    refine j_bipush hc (v := nI 60) dL_law_868 (by decide) ?_
                    refine j_icmp_ge hc 985 dL_law_870 (by decide) (fun h870 => ?_) (fun h870 => ?_)
                    · -- taken
                      refine j_iload hc dL_law_985 rfl ?_
                      refine j_bipush hc (v := nI 10) dL_law_987 (by decide) ?_
                      refine j_icmp_ne hc 1125 dL_law_989 (by decide) (fun h989 => ?_) (fun h989 => ?_)
                      · -- taken
                        refine j_iload hc dL_law_1125 rfl ?_
                        refine j_bipush hc (v := nI 11) dL_law_1127 (by decide) ?_
                        refine j_icmp_ne hc 1273 dL_law_1129 (by decide) (fun h1129 => ?_) (fun h1129 => ?_)
                        · -- taken
                          refine j_iload hc dL_law_1273 rfl ?_
                          refine j_bipush hc (v := nI 12) dL_law_1275 (by decide) ?_
                          refine j_icmp_ne hc 1343 dL_law_1277 (by decide) (fun h1277 => ?_) (fun h1277 => ?_)
                          · -- taken
                            refine j_lv [(0, .ref bb), (1, .ref (ad 0)), (2, .ref (ad 15)), (3, .ref (ad 16)), (4, .ref (ad 17)), (5, .ref (ad 18)), (6, .ref (ad 19)), (7, .ref (ad 20)), (8, .ref (ad 21)), (9, .ref (ad 22)), (10, .ref (ad 23)), (11, .int (nI 1)), (12, .int (nI t)), (15, .int (nI (X / 17)))] ⟨rfl, rfl, rfl, rfl, rfl, rfl, rfl, rfl, rfl, rfl, rfl, rfl, rfl, rfl, trivial⟩ ?_
                            exact op_pass hc H hN hY (by omega) (by omega) (next (X / 17) (by omega))
                          · -- not taken
                            refine j_iload hc dL_law_1280 rfl ?_
                            refine j_iconst hc (v := nI 3) dL_law_1282 (by decide) ?_
                            refine j_iremE hc (by decide) (z := nI ((X / 17) % 3)) (pk_rem (by omega) (by omega) (by omega)) dL_law_1283 ?_
                            refine j_if_ne hc 1343 dL_law_1284 (by decide) (fun h1284 => ?_) (fun h1284 => ?_)
                            · -- taken
                              refine j_lv [(0, .ref bb), (1, .ref (ad 0)), (2, .ref (ad 15)), (3, .ref (ad 16)), (4, .ref (ad 17)), (5, .ref (ad 18)), (6, .ref (ad 19)), (7, .ref (ad 20)), (8, .ref (ad 21)), (9, .ref (ad 22)), (10, .ref (ad 23)), (11, .int (nI 1)), (12, .int (nI t)), (15, .int (nI (X / 17)))] ⟨rfl, rfl, rfl, rfl, rfl, rfl, rfl, rfl, rfl, rfl, rfl, rfl, rfl, rfl, trivial⟩ ?_
                              exact op_pass hc H hN hY (by omega) (by omega) (next (X / 17) (by omega))
                            · -- not taken
                              refine j_lv [(0, .ref bb), (1, .ref (ad 0)), (2, .ref (ad 15)), (3, .ref (ad 16)), (4, .ref (ad 17)), (5, .ref (ad 18)), (6, .ref (ad 19)), (7, .ref (ad 20)), (8, .ref (ad 21)), (9, .ref (ad 22)), (10, .ref (ad 23)), (11, .int (nI 1)), (12, .int (nI t)), (15, .int (nI (X / 17)))] ⟨rfl, rfl, rfl, rfl, rfl, rfl, rfl, rfl, rfl, rfl, rfl, rfl, rfl, rfl, trivial⟩ ?_
                              exact op_times hc H hN hY (by omega) (by omega) (next (X / 17) (by omega))
                        · -- not taken
                          refine j_lv [(0, .ref bb), (1, .ref (ad 0)), (2, .ref (ad 15)), (3, .ref (ad 16)), (4, .ref (ad 17)), (5, .ref (ad 18)), (6, .ref (ad 19)), (7, .ref (ad 20)), (8, .ref (ad 21)), (9, .ref (ad 22)), (10, .ref (ad 23)), (11, .int (nI 1)), (12, .int (nI t)), (15, .int (nI (X / 17)))] ⟨rfl, rfl, rfl, rfl, rfl, rfl, rfl, rfl, rfl, rfl, rfl, rfl, rfl, rfl, trivial⟩ ?_
                          exact op_gap hc H hN hY (by omega) (by omega) (next (X / 17) (by omega))
                      · -- not taken
                        refine j_lv [(0, .ref bb), (1, .ref (ad 0)), (2, .ref (ad 15)), (3, .ref (ad 16)), (4, .ref (ad 17)), (5, .ref (ad 18)), (6, .ref (ad 19)), (7, .ref (ad 20)), (8, .ref (ad 21)), (9, .ref (ad 22)), (10, .ref (ad 23)), (11, .int (nI 1)), (12, .int (nI t)), (15, .int (nI (X / 17)))] ⟨rfl, rfl, rfl, rfl, rfl, rfl, rfl, rfl, rfl, rfl, rfl, rfl, rfl, rfl, trivial⟩ ?_
                        exact op_wk hc H hN hY (by omega) (by omega) (next (X / 17) (by omega))
                    · -- not taken
                      have hh60 : h < 60 := by
                        by_cases z : h < 60
                        · exact z
                        · exact absurd (nI_le (by omega) (by omega)) h870
                      refine j_lv [(0, .ref bb), (1, .ref (ad 0)), (2, .ref (ad 15)), (3, .ref (ad 16)), (4, .ref (ad 17)), (5, .ref (ad 18)), (6, .ref (ad 19)), (7, .ref (ad 20)), (8, .ref (ad 21)), (9, .ref (ad 22)), (10, .ref (ad 23)), (11, .int (nI 1)), (12, .int (nI t)), (15, .int (nI (X / 17)))] ⟨rfl, rfl, rfl, rfl, rfl, rfl, rfl, rfl, rfl, rfl, rfl, rfl, rfl, rfl, trivial⟩ ?_
                      exact op_hol hc H hN hY (by omega) (by omega) (next (X / 17) (by omega)) hh60
                · -- not taken
                  refine j_aload_n hc dL_law_690 rfl ?_
                  refine j_iconst hc (v := nI 2) dL_law_691 (by decide) ?_
                  refine xl_0 hc (i := 2) (by omega) (v := (nI n)) (G.n2) dL_law_692 ?_
                  refine j_if_le hc 857 dL_law_693 (by decide) (fun h693 => ?_) (fun h693 => ?_)
                  · -- taken
                    refine j_iload hc dL_law_857 rfl ?_
                    refine j_bipush hc (v := nI 9) dL_law_859 (by decide) ?_
                    refine j_icmp_ne hc 985 dL_law_861 (by decide) (fun h861 => ?_) (fun h861 => ?_)
                    · -- taken
                      refine j_iload hc dL_law_985 rfl ?_
                      refine j_bipush hc (v := nI 10) dL_law_987 (by decide) ?_
                      refine j_icmp_ne hc 1125 dL_law_989 (by decide) (fun h989 => ?_) (fun h989 => ?_)
                      · -- taken
                        refine j_iload hc dL_law_1125 rfl ?_
                        refine j_bipush hc (v := nI 11) dL_law_1127 (by decide) ?_
                        refine j_icmp_ne hc 1273 dL_law_1129 (by decide) (fun h1129 => ?_) (fun h1129 => ?_)
                        · -- taken
                          refine j_iload hc dL_law_1273 rfl ?_
                          refine j_bipush hc (v := nI 12) dL_law_1275 (by decide) ?_
                          refine j_icmp_ne hc 1343 dL_law_1277 (by decide) (fun h1277 => ?_) (fun h1277 => ?_)
                          · -- taken
                            refine j_lv [(0, .ref bb), (1, .ref (ad 0)), (2, .ref (ad 15)), (3, .ref (ad 16)), (4, .ref (ad 17)), (5, .ref (ad 18)), (6, .ref (ad 19)), (7, .ref (ad 20)), (8, .ref (ad 21)), (9, .ref (ad 22)), (10, .ref (ad 23)), (11, .int (nI 1)), (12, .int (nI t)), (15, .int (nI (X / 17)))] ⟨rfl, rfl, rfl, rfl, rfl, rfl, rfl, rfl, rfl, rfl, rfl, rfl, rfl, rfl, trivial⟩ ?_
                            exact op_pass hc H hN hY (by omega) (by omega) (next (X / 17) (by omega))
                          · -- not taken
                            refine j_iload hc dL_law_1280 rfl ?_
                            refine j_iconst hc (v := nI 3) dL_law_1282 (by decide) ?_
                            refine j_iremE hc (by decide) (z := nI ((X / 17) % 3)) (pk_rem (by omega) (by omega) (by omega)) dL_law_1283 ?_
                            refine j_if_ne hc 1343 dL_law_1284 (by decide) (fun h1284 => ?_) (fun h1284 => ?_)
                            · -- taken
                              refine j_lv [(0, .ref bb), (1, .ref (ad 0)), (2, .ref (ad 15)), (3, .ref (ad 16)), (4, .ref (ad 17)), (5, .ref (ad 18)), (6, .ref (ad 19)), (7, .ref (ad 20)), (8, .ref (ad 21)), (9, .ref (ad 22)), (10, .ref (ad 23)), (11, .int (nI 1)), (12, .int (nI t)), (15, .int (nI (X / 17)))] ⟨rfl, rfl, rfl, rfl, rfl, rfl, rfl, rfl, rfl, rfl, rfl, rfl, rfl, rfl, trivial⟩ ?_
                              exact op_pass hc H hN hY (by omega) (by omega) (next (X / 17) (by omega))
                            · -- not taken
                              refine j_lv [(0, .ref bb), (1, .ref (ad 0)), (2, .ref (ad 15)), (3, .ref (ad 16)), (4, .ref (ad 17)), (5, .ref (ad 18)), (6, .ref (ad 19)), (7, .ref (ad 20)), (8, .ref (ad 21)), (9, .ref (ad 22)), (10, .ref (ad 23)), (11, .int (nI 1)), (12, .int (nI t)), (15, .int (nI (X / 17)))] ⟨rfl, rfl, rfl, rfl, rfl, rfl, rfl, rfl, rfl, rfl, rfl, rfl, rfl, rfl, trivial⟩ ?_
                              exact op_times hc H hN hY (by omega) (by omega) (next (X / 17) (by omega))
                        · -- not taken
                          refine j_lv [(0, .ref bb), (1, .ref (ad 0)), (2, .ref (ad 15)), (3, .ref (ad 16)), (4, .ref (ad 17)), (5, .ref (ad 18)), (6, .ref (ad 19)), (7, .ref (ad 20)), (8, .ref (ad 21)), (9, .ref (ad 22)), (10, .ref (ad 23)), (11, .int (nI 1)), (12, .int (nI t)), (15, .int (nI (X / 17)))] ⟨rfl, rfl, rfl, rfl, rfl, rfl, rfl, rfl, rfl, rfl, rfl, rfl, rfl, rfl, trivial⟩ ?_
                          exact op_gap hc H hN hY (by omega) (by omega) (next (X / 17) (by omega))
                      · -- not taken
                        refine j_lv [(0, .ref bb), (1, .ref (ad 0)), (2, .ref (ad 15)), (3, .ref (ad 16)), (4, .ref (ad 17)), (5, .ref (ad 18)), (6, .ref (ad 19)), (7, .ref (ad 20)), (8, .ref (ad 21)), (9, .ref (ad 22)), (10, .ref (ad 23)), (11, .int (nI 1)), (12, .int (nI t)), (15, .int (nI (X / 17)))] ⟨rfl, rfl, rfl, rfl, rfl, rfl, rfl, rfl, rfl, rfl, rfl, rfl, rfl, rfl, trivial⟩ ?_
                        exact op_wk hc H hN hY (by omega) (by omega) (next (X / 17) (by omega))
                    · -- not taken
                      refine j_aload_n hc dL_law_864 rfl ?_
                      refine j_bipush hc (v := nI 63) dL_law_865 (by decide) ?_
                      refine xl_1 hc (i := 63) (by omega) (v := (nI h)) (G.w63) dL_law_867 ?_
                      refine j_bipush hc (v := nI 60) dL_law_868 (by decide) ?_
                      refine j_icmp_ge hc 985 dL_law_870 (by decide) (fun h870 => ?_) (fun h870 => ?_)
                      · -- taken
                        refine j_iload hc dL_law_985 rfl ?_
                        refine j_bipush hc (v := nI 10) dL_law_987 (by decide) ?_
                        refine j_icmp_ne hc 1125 dL_law_989 (by decide) (fun h989 => ?_) (fun h989 => ?_)
                        · -- taken
                          refine j_iload hc dL_law_1125 rfl ?_
                          refine j_bipush hc (v := nI 11) dL_law_1127 (by decide) ?_
                          refine j_icmp_ne hc 1273 dL_law_1129 (by decide) (fun h1129 => ?_) (fun h1129 => ?_)
                          · -- taken
                            refine j_iload hc dL_law_1273 rfl ?_
                            refine j_bipush hc (v := nI 12) dL_law_1275 (by decide) ?_
                            refine j_icmp_ne hc 1343 dL_law_1277 (by decide) (fun h1277 => ?_) (fun h1277 => ?_)
                            · -- taken
                              refine j_lv [(0, .ref bb), (1, .ref (ad 0)), (2, .ref (ad 15)), (3, .ref (ad 16)), (4, .ref (ad 17)), (5, .ref (ad 18)), (6, .ref (ad 19)), (7, .ref (ad 20)), (8, .ref (ad 21)), (9, .ref (ad 22)), (10, .ref (ad 23)), (11, .int (nI 1)), (12, .int (nI t)), (15, .int (nI (X / 17)))] ⟨rfl, rfl, rfl, rfl, rfl, rfl, rfl, rfl, rfl, rfl, rfl, rfl, rfl, rfl, trivial⟩ ?_
                              exact op_pass hc H hN hY (by omega) (by omega) (next (X / 17) (by omega))
                            · -- not taken
                              refine j_iload hc dL_law_1280 rfl ?_
                              refine j_iconst hc (v := nI 3) dL_law_1282 (by decide) ?_
                              refine j_iremE hc (by decide) (z := nI ((X / 17) % 3)) (pk_rem (by omega) (by omega) (by omega)) dL_law_1283 ?_
                              refine j_if_ne hc 1343 dL_law_1284 (by decide) (fun h1284 => ?_) (fun h1284 => ?_)
                              · -- taken
                                refine j_lv [(0, .ref bb), (1, .ref (ad 0)), (2, .ref (ad 15)), (3, .ref (ad 16)), (4, .ref (ad 17)), (5, .ref (ad 18)), (6, .ref (ad 19)), (7, .ref (ad 20)), (8, .ref (ad 21)), (9, .ref (ad 22)), (10, .ref (ad 23)), (11, .int (nI 1)), (12, .int (nI t)), (15, .int (nI (X / 17)))] ⟨rfl, rfl, rfl, rfl, rfl, rfl, rfl, rfl, rfl, rfl, rfl, rfl, rfl, rfl, trivial⟩ ?_
                                exact op_pass hc H hN hY (by omega) (by omega) (next (X / 17) (by omega))
                              · -- not taken
                                refine j_lv [(0, .ref bb), (1, .ref (ad 0)), (2, .ref (ad 15)), (3, .ref (ad 16)), (4, .ref (ad 17)), (5, .ref (ad 18)), (6, .ref (ad 19)), (7, .ref (ad 20)), (8, .ref (ad 21)), (9, .ref (ad 22)), (10, .ref (ad 23)), (11, .int (nI 1)), (12, .int (nI t)), (15, .int (nI (X / 17)))] ⟨rfl, rfl, rfl, rfl, rfl, rfl, rfl, rfl, rfl, rfl, rfl, rfl, rfl, rfl, trivial⟩ ?_
                                exact op_times hc H hN hY (by omega) (by omega) (next (X / 17) (by omega))
                          · -- not taken
                            refine j_lv [(0, .ref bb), (1, .ref (ad 0)), (2, .ref (ad 15)), (3, .ref (ad 16)), (4, .ref (ad 17)), (5, .ref (ad 18)), (6, .ref (ad 19)), (7, .ref (ad 20)), (8, .ref (ad 21)), (9, .ref (ad 22)), (10, .ref (ad 23)), (11, .int (nI 1)), (12, .int (nI t)), (15, .int (nI (X / 17)))] ⟨rfl, rfl, rfl, rfl, rfl, rfl, rfl, rfl, rfl, rfl, rfl, rfl, rfl, rfl, trivial⟩ ?_
                            exact op_gap hc H hN hY (by omega) (by omega) (next (X / 17) (by omega))
                        · -- not taken
                          refine j_lv [(0, .ref bb), (1, .ref (ad 0)), (2, .ref (ad 15)), (3, .ref (ad 16)), (4, .ref (ad 17)), (5, .ref (ad 18)), (6, .ref (ad 19)), (7, .ref (ad 20)), (8, .ref (ad 21)), (9, .ref (ad 22)), (10, .ref (ad 23)), (11, .int (nI 1)), (12, .int (nI t)), (15, .int (nI (X / 17)))] ⟨rfl, rfl, rfl, rfl, rfl, rfl, rfl, rfl, rfl, rfl, rfl, rfl, rfl, rfl, trivial⟩ ?_
                          exact op_wk hc H hN hY (by omega) (by omega) (next (X / 17) (by omega))
                      · -- not taken
                        have hh60 : h < 60 := by
                          by_cases z : h < 60
                          · exact z
                          · exact absurd (nI_le (by omega) (by omega)) h870
                        refine j_lv [(0, .ref bb), (1, .ref (ad 0)), (2, .ref (ad 15)), (3, .ref (ad 16)), (4, .ref (ad 17)), (5, .ref (ad 18)), (6, .ref (ad 19)), (7, .ref (ad 20)), (8, .ref (ad 21)), (9, .ref (ad 22)), (10, .ref (ad 23)), (11, .int (nI 1)), (12, .int (nI t)), (15, .int (nI (X / 17)))] ⟨rfl, rfl, rfl, rfl, rfl, rfl, rfl, rfl, rfl, rfl, rfl, rfl, rfl, rfl, trivial⟩ ?_
                        exact op_hol hc H hN hY (by omega) (by omega) (next (X / 17) (by omega)) hh60
                  · -- not taken
                    have hn0 : 0 < n := by
                      by_cases z : n = 0
                      · exact absurd (by rw [z]; decide) h693
                      · omega
                    refine j_lv [(0, .ref bb), (1, .ref (ad 0)), (2, .ref (ad 15)), (3, .ref (ad 16)), (4, .ref (ad 17)), (5, .ref (ad 18)), (6, .ref (ad 19)), (7, .ref (ad 20)), (8, .ref (ad 21)), (9, .ref (ad 22)), (10, .ref (ad 23)), (11, .int (nI 1)), (12, .int (nI t)), (15, .int (nI (X / 17))), (16, .int (nI β))] ⟨rfl, rfl, rfl, rfl, rfl, rfl, rfl, rfl, rfl, rfl, rfl, rfl, rfl, rfl, rfl, trivial⟩ ?_
                    exact op_prom hc H hN hY (by omega) (by omega) (next (X / 17) (by omega)) (hβ hn0)
              · -- not taken
                refine j_aload_n hc dL_law_580 rfl ?_
                refine j_iconst hc (v := nI 2) dL_law_581 (by decide) ?_
                refine xl_0 hc (i := 2) (by omega) (v := (nI n)) (G.n2) dL_law_582 ?_
                refine j_if_le hc 683 dL_law_583 (by decide) (fun h583 => ?_) (fun h583 => ?_)
                · -- taken
                  refine j_iload hc dL_law_683 rfl ?_
                  refine j_bipush hc (v := nI 9) dL_law_685 (by decide) ?_
                  refine j_icmp_ge hc 857 dL_law_687 (by decide) (fun h687 => ?_) (fun h687 => ?_)
                  · -- taken
                    refine j_iload hc dL_law_857 rfl ?_
                    refine j_bipush hc (v := nI 9) dL_law_859 (by decide) ?_
                    refine j_icmp_ne hc 985 dL_law_861 (by decide) (fun h861 => ?_) (fun h861 => ?_)
                    · -- taken
                      refine j_iload hc dL_law_985 rfl ?_
                      refine j_bipush hc (v := nI 10) dL_law_987 (by decide) ?_
                      refine j_icmp_ne hc 1125 dL_law_989 (by decide) (fun h989 => ?_) (fun h989 => ?_)
                      · -- taken
                        refine j_iload hc dL_law_1125 rfl ?_
                        refine j_bipush hc (v := nI 11) dL_law_1127 (by decide) ?_
                        refine j_icmp_ne hc 1273 dL_law_1129 (by decide) (fun h1129 => ?_) (fun h1129 => ?_)
                        · -- taken
                          refine j_iload hc dL_law_1273 rfl ?_
                          refine j_bipush hc (v := nI 12) dL_law_1275 (by decide) ?_
                          refine j_icmp_ne hc 1343 dL_law_1277 (by decide) (fun h1277 => ?_) (fun h1277 => ?_)
                          · -- taken
                            refine j_lv [(0, .ref bb), (1, .ref (ad 0)), (2, .ref (ad 15)), (3, .ref (ad 16)), (4, .ref (ad 17)), (5, .ref (ad 18)), (6, .ref (ad 19)), (7, .ref (ad 20)), (8, .ref (ad 21)), (9, .ref (ad 22)), (10, .ref (ad 23)), (11, .int (nI 1)), (12, .int (nI t)), (15, .int (nI (X / 17)))] ⟨rfl, rfl, rfl, rfl, rfl, rfl, rfl, rfl, rfl, rfl, rfl, rfl, rfl, rfl, trivial⟩ ?_
                            exact op_pass hc H hN hY (by omega) (by omega) (next (X / 17) (by omega))
                          · -- not taken
                            refine j_iload hc dL_law_1280 rfl ?_
                            refine j_iconst hc (v := nI 3) dL_law_1282 (by decide) ?_
                            refine j_iremE hc (by decide) (z := nI ((X / 17) % 3)) (pk_rem (by omega) (by omega) (by omega)) dL_law_1283 ?_
                            refine j_if_ne hc 1343 dL_law_1284 (by decide) (fun h1284 => ?_) (fun h1284 => ?_)
                            · -- taken
                              refine j_lv [(0, .ref bb), (1, .ref (ad 0)), (2, .ref (ad 15)), (3, .ref (ad 16)), (4, .ref (ad 17)), (5, .ref (ad 18)), (6, .ref (ad 19)), (7, .ref (ad 20)), (8, .ref (ad 21)), (9, .ref (ad 22)), (10, .ref (ad 23)), (11, .int (nI 1)), (12, .int (nI t)), (15, .int (nI (X / 17)))] ⟨rfl, rfl, rfl, rfl, rfl, rfl, rfl, rfl, rfl, rfl, rfl, rfl, rfl, rfl, trivial⟩ ?_
                              exact op_pass hc H hN hY (by omega) (by omega) (next (X / 17) (by omega))
                            · -- not taken
                              refine j_lv [(0, .ref bb), (1, .ref (ad 0)), (2, .ref (ad 15)), (3, .ref (ad 16)), (4, .ref (ad 17)), (5, .ref (ad 18)), (6, .ref (ad 19)), (7, .ref (ad 20)), (8, .ref (ad 21)), (9, .ref (ad 22)), (10, .ref (ad 23)), (11, .int (nI 1)), (12, .int (nI t)), (15, .int (nI (X / 17)))] ⟨rfl, rfl, rfl, rfl, rfl, rfl, rfl, rfl, rfl, rfl, rfl, rfl, rfl, rfl, trivial⟩ ?_
                              exact op_times hc H hN hY (by omega) (by omega) (next (X / 17) (by omega))
                        · -- not taken
                          refine j_lv [(0, .ref bb), (1, .ref (ad 0)), (2, .ref (ad 15)), (3, .ref (ad 16)), (4, .ref (ad 17)), (5, .ref (ad 18)), (6, .ref (ad 19)), (7, .ref (ad 20)), (8, .ref (ad 21)), (9, .ref (ad 22)), (10, .ref (ad 23)), (11, .int (nI 1)), (12, .int (nI t)), (15, .int (nI (X / 17)))] ⟨rfl, rfl, rfl, rfl, rfl, rfl, rfl, rfl, rfl, rfl, rfl, rfl, rfl, rfl, trivial⟩ ?_
                          exact op_gap hc H hN hY (by omega) (by omega) (next (X / 17) (by omega))
                      · -- not taken
                        refine j_lv [(0, .ref bb), (1, .ref (ad 0)), (2, .ref (ad 15)), (3, .ref (ad 16)), (4, .ref (ad 17)), (5, .ref (ad 18)), (6, .ref (ad 19)), (7, .ref (ad 20)), (8, .ref (ad 21)), (9, .ref (ad 22)), (10, .ref (ad 23)), (11, .int (nI 1)), (12, .int (nI t)), (15, .int (nI (X / 17)))] ⟨rfl, rfl, rfl, rfl, rfl, rfl, rfl, rfl, rfl, rfl, rfl, rfl, rfl, rfl, trivial⟩ ?_
                        exact op_wk hc H hN hY (by omega) (by omega) (next (X / 17) (by omega))
                    · -- not taken
                      refine j_aload_n hc dL_law_864 rfl ?_
                      refine j_bipush hc (v := nI 63) dL_law_865 (by decide) ?_
                      refine xl_1 hc (i := 63) (by omega) (v := (nI h)) (G.w63) dL_law_867 ?_
                      refine j_bipush hc (v := nI 60) dL_law_868 (by decide) ?_
                      refine j_icmp_ge hc 985 dL_law_870 (by decide) (fun h870 => ?_) (fun h870 => ?_)
                      · -- taken
                        refine j_iload hc dL_law_985 rfl ?_
                        refine j_bipush hc (v := nI 10) dL_law_987 (by decide) ?_
                        refine j_icmp_ne hc 1125 dL_law_989 (by decide) (fun h989 => ?_) (fun h989 => ?_)
                        · -- taken
                          refine j_iload hc dL_law_1125 rfl ?_
                          refine j_bipush hc (v := nI 11) dL_law_1127 (by decide) ?_
                          refine j_icmp_ne hc 1273 dL_law_1129 (by decide) (fun h1129 => ?_) (fun h1129 => ?_)
                          · -- taken
                            refine j_iload hc dL_law_1273 rfl ?_
                            refine j_bipush hc (v := nI 12) dL_law_1275 (by decide) ?_
                            refine j_icmp_ne hc 1343 dL_law_1277 (by decide) (fun h1277 => ?_) (fun h1277 => ?_)
                            · -- taken
                              refine j_lv [(0, .ref bb), (1, .ref (ad 0)), (2, .ref (ad 15)), (3, .ref (ad 16)), (4, .ref (ad 17)), (5, .ref (ad 18)), (6, .ref (ad 19)), (7, .ref (ad 20)), (8, .ref (ad 21)), (9, .ref (ad 22)), (10, .ref (ad 23)), (11, .int (nI 1)), (12, .int (nI t)), (15, .int (nI (X / 17)))] ⟨rfl, rfl, rfl, rfl, rfl, rfl, rfl, rfl, rfl, rfl, rfl, rfl, rfl, rfl, trivial⟩ ?_
                              exact op_pass hc H hN hY (by omega) (by omega) (next (X / 17) (by omega))
                            · -- not taken
                              refine j_iload hc dL_law_1280 rfl ?_
                              refine j_iconst hc (v := nI 3) dL_law_1282 (by decide) ?_
                              refine j_iremE hc (by decide) (z := nI ((X / 17) % 3)) (pk_rem (by omega) (by omega) (by omega)) dL_law_1283 ?_
                              refine j_if_ne hc 1343 dL_law_1284 (by decide) (fun h1284 => ?_) (fun h1284 => ?_)
                              · -- taken
                                refine j_lv [(0, .ref bb), (1, .ref (ad 0)), (2, .ref (ad 15)), (3, .ref (ad 16)), (4, .ref (ad 17)), (5, .ref (ad 18)), (6, .ref (ad 19)), (7, .ref (ad 20)), (8, .ref (ad 21)), (9, .ref (ad 22)), (10, .ref (ad 23)), (11, .int (nI 1)), (12, .int (nI t)), (15, .int (nI (X / 17)))] ⟨rfl, rfl, rfl, rfl, rfl, rfl, rfl, rfl, rfl, rfl, rfl, rfl, rfl, rfl, trivial⟩ ?_
                                exact op_pass hc H hN hY (by omega) (by omega) (next (X / 17) (by omega))
                              · -- not taken
                                refine j_lv [(0, .ref bb), (1, .ref (ad 0)), (2, .ref (ad 15)), (3, .ref (ad 16)), (4, .ref (ad 17)), (5, .ref (ad 18)), (6, .ref (ad 19)), (7, .ref (ad 20)), (8, .ref (ad 21)), (9, .ref (ad 22)), (10, .ref (ad 23)), (11, .int (nI 1)), (12, .int (nI t)), (15, .int (nI (X / 17)))] ⟨rfl, rfl, rfl, rfl, rfl, rfl, rfl, rfl, rfl, rfl, rfl, rfl, rfl, rfl, trivial⟩ ?_
                                exact op_times hc H hN hY (by omega) (by omega) (next (X / 17) (by omega))
                          · -- not taken
                            refine j_lv [(0, .ref bb), (1, .ref (ad 0)), (2, .ref (ad 15)), (3, .ref (ad 16)), (4, .ref (ad 17)), (5, .ref (ad 18)), (6, .ref (ad 19)), (7, .ref (ad 20)), (8, .ref (ad 21)), (9, .ref (ad 22)), (10, .ref (ad 23)), (11, .int (nI 1)), (12, .int (nI t)), (15, .int (nI (X / 17)))] ⟨rfl, rfl, rfl, rfl, rfl, rfl, rfl, rfl, rfl, rfl, rfl, rfl, rfl, rfl, trivial⟩ ?_
                            exact op_gap hc H hN hY (by omega) (by omega) (next (X / 17) (by omega))
                        · -- not taken
                          refine j_lv [(0, .ref bb), (1, .ref (ad 0)), (2, .ref (ad 15)), (3, .ref (ad 16)), (4, .ref (ad 17)), (5, .ref (ad 18)), (6, .ref (ad 19)), (7, .ref (ad 20)), (8, .ref (ad 21)), (9, .ref (ad 22)), (10, .ref (ad 23)), (11, .int (nI 1)), (12, .int (nI t)), (15, .int (nI (X / 17)))] ⟨rfl, rfl, rfl, rfl, rfl, rfl, rfl, rfl, rfl, rfl, rfl, rfl, rfl, rfl, trivial⟩ ?_
                          exact op_wk hc H hN hY (by omega) (by omega) (next (X / 17) (by omega))
                      · -- not taken
                        have hh60 : h < 60 := by
                          by_cases z : h < 60
                          · exact z
                          · exact absurd (nI_le (by omega) (by omega)) h870
                        refine j_lv [(0, .ref bb), (1, .ref (ad 0)), (2, .ref (ad 15)), (3, .ref (ad 16)), (4, .ref (ad 17)), (5, .ref (ad 18)), (6, .ref (ad 19)), (7, .ref (ad 20)), (8, .ref (ad 21)), (9, .ref (ad 22)), (10, .ref (ad 23)), (11, .int (nI 1)), (12, .int (nI t)), (15, .int (nI (X / 17)))] ⟨rfl, rfl, rfl, rfl, rfl, rfl, rfl, rfl, rfl, rfl, rfl, rfl, rfl, rfl, trivial⟩ ?_
                        exact op_hol hc H hN hY (by omega) (by omega) (next (X / 17) (by omega)) hh60
                  · -- not taken
                    refine j_aload_n hc dL_law_690 rfl ?_
                    refine j_iconst hc (v := nI 2) dL_law_691 (by decide) ?_
                    refine xl_0 hc (i := 2) (by omega) (v := (nI n)) (G.n2) dL_law_692 ?_
                    refine j_if_le hc 857 dL_law_693 (by decide) (fun h693 => ?_) (fun h693 => ?_)
                    · -- taken
                      refine j_iload hc dL_law_857 rfl ?_
                      refine j_bipush hc (v := nI 9) dL_law_859 (by decide) ?_
                      refine j_icmp_ne hc 985 dL_law_861 (by decide) (fun h861 => ?_) (fun h861 => ?_)
                      · -- taken
                        refine j_iload hc dL_law_985 rfl ?_
                        refine j_bipush hc (v := nI 10) dL_law_987 (by decide) ?_
                        refine j_icmp_ne hc 1125 dL_law_989 (by decide) (fun h989 => ?_) (fun h989 => ?_)
                        · -- taken
                          refine j_iload hc dL_law_1125 rfl ?_
                          refine j_bipush hc (v := nI 11) dL_law_1127 (by decide) ?_
                          refine j_icmp_ne hc 1273 dL_law_1129 (by decide) (fun h1129 => ?_) (fun h1129 => ?_)
                          · -- taken
                            refine j_iload hc dL_law_1273 rfl ?_
                            refine j_bipush hc (v := nI 12) dL_law_1275 (by decide) ?_
                            refine j_icmp_ne hc 1343 dL_law_1277 (by decide) (fun h1277 => ?_) (fun h1277 => ?_)
                            · -- taken
                              refine j_lv [(0, .ref bb), (1, .ref (ad 0)), (2, .ref (ad 15)), (3, .ref (ad 16)), (4, .ref (ad 17)), (5, .ref (ad 18)), (6, .ref (ad 19)), (7, .ref (ad 20)), (8, .ref (ad 21)), (9, .ref (ad 22)), (10, .ref (ad 23)), (11, .int (nI 1)), (12, .int (nI t)), (15, .int (nI (X / 17)))] ⟨rfl, rfl, rfl, rfl, rfl, rfl, rfl, rfl, rfl, rfl, rfl, rfl, rfl, rfl, trivial⟩ ?_
                              exact op_pass hc H hN hY (by omega) (by omega) (next (X / 17) (by omega))
                            · -- not taken
                              refine j_iload hc dL_law_1280 rfl ?_
                              refine j_iconst hc (v := nI 3) dL_law_1282 (by decide) ?_
                              refine j_iremE hc (by decide) (z := nI ((X / 17) % 3)) (pk_rem (by omega) (by omega) (by omega)) dL_law_1283 ?_
                              refine j_if_ne hc 1343 dL_law_1284 (by decide) (fun h1284 => ?_) (fun h1284 => ?_)
                              · -- taken
                                refine j_lv [(0, .ref bb), (1, .ref (ad 0)), (2, .ref (ad 15)), (3, .ref (ad 16)), (4, .ref (ad 17)), (5, .ref (ad 18)), (6, .ref (ad 19)), (7, .ref (ad 20)), (8, .ref (ad 21)), (9, .ref (ad 22)), (10, .ref (ad 23)), (11, .int (nI 1)), (12, .int (nI t)), (15, .int (nI (X / 17)))] ⟨rfl, rfl, rfl, rfl, rfl, rfl, rfl, rfl, rfl, rfl, rfl, rfl, rfl, rfl, trivial⟩ ?_
                                exact op_pass hc H hN hY (by omega) (by omega) (next (X / 17) (by omega))
                              · -- not taken
                                refine j_lv [(0, .ref bb), (1, .ref (ad 0)), (2, .ref (ad 15)), (3, .ref (ad 16)), (4, .ref (ad 17)), (5, .ref (ad 18)), (6, .ref (ad 19)), (7, .ref (ad 20)), (8, .ref (ad 21)), (9, .ref (ad 22)), (10, .ref (ad 23)), (11, .int (nI 1)), (12, .int (nI t)), (15, .int (nI (X / 17)))] ⟨rfl, rfl, rfl, rfl, rfl, rfl, rfl, rfl, rfl, rfl, rfl, rfl, rfl, rfl, trivial⟩ ?_
                                exact op_times hc H hN hY (by omega) (by omega) (next (X / 17) (by omega))
                          · -- not taken
                            refine j_lv [(0, .ref bb), (1, .ref (ad 0)), (2, .ref (ad 15)), (3, .ref (ad 16)), (4, .ref (ad 17)), (5, .ref (ad 18)), (6, .ref (ad 19)), (7, .ref (ad 20)), (8, .ref (ad 21)), (9, .ref (ad 22)), (10, .ref (ad 23)), (11, .int (nI 1)), (12, .int (nI t)), (15, .int (nI (X / 17)))] ⟨rfl, rfl, rfl, rfl, rfl, rfl, rfl, rfl, rfl, rfl, rfl, rfl, rfl, rfl, trivial⟩ ?_
                            exact op_gap hc H hN hY (by omega) (by omega) (next (X / 17) (by omega))
                        · -- not taken
                          refine j_lv [(0, .ref bb), (1, .ref (ad 0)), (2, .ref (ad 15)), (3, .ref (ad 16)), (4, .ref (ad 17)), (5, .ref (ad 18)), (6, .ref (ad 19)), (7, .ref (ad 20)), (8, .ref (ad 21)), (9, .ref (ad 22)), (10, .ref (ad 23)), (11, .int (nI 1)), (12, .int (nI t)), (15, .int (nI (X / 17)))] ⟨rfl, rfl, rfl, rfl, rfl, rfl, rfl, rfl, rfl, rfl, rfl, rfl, rfl, rfl, trivial⟩ ?_
                          exact op_wk hc H hN hY (by omega) (by omega) (next (X / 17) (by omega))
                      · -- not taken
                        refine j_aload_n hc dL_law_864 rfl ?_
                        refine j_bipush hc (v := nI 63) dL_law_865 (by decide) ?_
                        refine xl_1 hc (i := 63) (by omega) (v := (nI h)) (G.w63) dL_law_867 ?_
                        refine j_bipush hc (v := nI 60) dL_law_868 (by decide) ?_
                        refine j_icmp_ge hc 985 dL_law_870 (by decide) (fun h870 => ?_) (fun h870 => ?_)
                        · -- taken
                          refine j_iload hc dL_law_985 rfl ?_
                          refine j_bipush hc (v := nI 10) dL_law_987 (by decide) ?_
                          refine j_icmp_ne hc 1125 dL_law_989 (by decide) (fun h989 => ?_) (fun h989 => ?_)
                          · -- taken
                            refine j_iload hc dL_law_1125 rfl ?_
                            refine j_bipush hc (v := nI 11) dL_law_1127 (by decide) ?_
                            refine j_icmp_ne hc 1273 dL_law_1129 (by decide) (fun h1129 => ?_) (fun h1129 => ?_)
                            · -- taken
                              refine j_iload hc dL_law_1273 rfl ?_
                              refine j_bipush hc (v := nI 12) dL_law_1275 (by decide) ?_
                              refine j_icmp_ne hc 1343 dL_law_1277 (by decide) (fun h1277 => ?_) (fun h1277 => ?_)
                              · -- taken
                                refine j_lv [(0, .ref bb), (1, .ref (ad 0)), (2, .ref (ad 15)), (3, .ref (ad 16)), (4, .ref (ad 17)), (5, .ref (ad 18)), (6, .ref (ad 19)), (7, .ref (ad 20)), (8, .ref (ad 21)), (9, .ref (ad 22)), (10, .ref (ad 23)), (11, .int (nI 1)), (12, .int (nI t)), (15, .int (nI (X / 17)))] ⟨rfl, rfl, rfl, rfl, rfl, rfl, rfl, rfl, rfl, rfl, rfl, rfl, rfl, rfl, trivial⟩ ?_
                                exact op_pass hc H hN hY (by omega) (by omega) (next (X / 17) (by omega))
                              · -- not taken
                                refine j_iload hc dL_law_1280 rfl ?_
                                refine j_iconst hc (v := nI 3) dL_law_1282 (by decide) ?_
                                refine j_iremE hc (by decide) (z := nI ((X / 17) % 3)) (pk_rem (by omega) (by omega) (by omega)) dL_law_1283 ?_
                                refine j_if_ne hc 1343 dL_law_1284 (by decide) (fun h1284 => ?_) (fun h1284 => ?_)
                                · -- taken
                                  refine j_lv [(0, .ref bb), (1, .ref (ad 0)), (2, .ref (ad 15)), (3, .ref (ad 16)), (4, .ref (ad 17)), (5, .ref (ad 18)), (6, .ref (ad 19)), (7, .ref (ad 20)), (8, .ref (ad 21)), (9, .ref (ad 22)), (10, .ref (ad 23)), (11, .int (nI 1)), (12, .int (nI t)), (15, .int (nI (X / 17)))] ⟨rfl, rfl, rfl, rfl, rfl, rfl, rfl, rfl, rfl, rfl, rfl, rfl, rfl, rfl, trivial⟩ ?_
                                  exact op_pass hc H hN hY (by omega) (by omega) (next (X / 17) (by omega))
                                · -- not taken
                                  refine j_lv [(0, .ref bb), (1, .ref (ad 0)), (2, .ref (ad 15)), (3, .ref (ad 16)), (4, .ref (ad 17)), (5, .ref (ad 18)), (6, .ref (ad 19)), (7, .ref (ad 20)), (8, .ref (ad 21)), (9, .ref (ad 22)), (10, .ref (ad 23)), (11, .int (nI 1)), (12, .int (nI t)), (15, .int (nI (X / 17)))] ⟨rfl, rfl, rfl, rfl, rfl, rfl, rfl, rfl, rfl, rfl, rfl, rfl, rfl, rfl, trivial⟩ ?_
                                  exact op_times hc H hN hY (by omega) (by omega) (next (X / 17) (by omega))
                            · -- not taken
                              refine j_lv [(0, .ref bb), (1, .ref (ad 0)), (2, .ref (ad 15)), (3, .ref (ad 16)), (4, .ref (ad 17)), (5, .ref (ad 18)), (6, .ref (ad 19)), (7, .ref (ad 20)), (8, .ref (ad 21)), (9, .ref (ad 22)), (10, .ref (ad 23)), (11, .int (nI 1)), (12, .int (nI t)), (15, .int (nI (X / 17)))] ⟨rfl, rfl, rfl, rfl, rfl, rfl, rfl, rfl, rfl, rfl, rfl, rfl, rfl, rfl, trivial⟩ ?_
                              exact op_gap hc H hN hY (by omega) (by omega) (next (X / 17) (by omega))
                          · -- not taken
                            refine j_lv [(0, .ref bb), (1, .ref (ad 0)), (2, .ref (ad 15)), (3, .ref (ad 16)), (4, .ref (ad 17)), (5, .ref (ad 18)), (6, .ref (ad 19)), (7, .ref (ad 20)), (8, .ref (ad 21)), (9, .ref (ad 22)), (10, .ref (ad 23)), (11, .int (nI 1)), (12, .int (nI t)), (15, .int (nI (X / 17)))] ⟨rfl, rfl, rfl, rfl, rfl, rfl, rfl, rfl, rfl, rfl, rfl, rfl, rfl, rfl, trivial⟩ ?_
                            exact op_wk hc H hN hY (by omega) (by omega) (next (X / 17) (by omega))
                        · -- not taken
                          have hh60 : h < 60 := by
                            by_cases z : h < 60
                            · exact z
                            · exact absurd (nI_le (by omega) (by omega)) h870
                          refine j_lv [(0, .ref bb), (1, .ref (ad 0)), (2, .ref (ad 15)), (3, .ref (ad 16)), (4, .ref (ad 17)), (5, .ref (ad 18)), (6, .ref (ad 19)), (7, .ref (ad 20)), (8, .ref (ad 21)), (9, .ref (ad 22)), (10, .ref (ad 23)), (11, .int (nI 1)), (12, .int (nI t)), (15, .int (nI (X / 17)))] ⟨rfl, rfl, rfl, rfl, rfl, rfl, rfl, rfl, rfl, rfl, rfl, rfl, rfl, rfl, trivial⟩ ?_
                          exact op_hol hc H hN hY (by omega) (by omega) (next (X / 17) (by omega)) hh60
                    · -- not taken
                      have hn0 : 0 < n := by
                        by_cases z : n = 0
                        · exact absurd (by rw [z]; decide) h693
                        · omega
                      refine j_lv [(0, .ref bb), (1, .ref (ad 0)), (2, .ref (ad 15)), (3, .ref (ad 16)), (4, .ref (ad 17)), (5, .ref (ad 18)), (6, .ref (ad 19)), (7, .ref (ad 20)), (8, .ref (ad 21)), (9, .ref (ad 22)), (10, .ref (ad 23)), (11, .int (nI 1)), (12, .int (nI t)), (15, .int (nI (X / 17))), (16, .int (nI β))] ⟨rfl, rfl, rfl, rfl, rfl, rfl, rfl, rfl, rfl, rfl, rfl, rfl, rfl, rfl, rfl, trivial⟩ ?_
                      exact op_prom hc H hN hY (by omega) (by omega) (next (X / 17) (by omega)) (hβ hn0)
                · -- not taken
                  have hn0 : 0 < n := by
                    by_cases z : n = 0
                    · exact absurd (by rw [z]; decide) h583
                    · omega
                  refine j_lv [(0, .ref bb), (1, .ref (ad 0)), (2, .ref (ad 15)), (3, .ref (ad 16)), (4, .ref (ad 17)), (5, .ref (ad 18)), (6, .ref (ad 19)), (7, .ref (ad 20)), (8, .ref (ad 21)), (9, .ref (ad 22)), (10, .ref (ad 23)), (11, .int (nI 1)), (12, .int (nI t)), (15, .int (nI (X / 17))), (16, .int (nI β))] ⟨rfl, rfl, rfl, rfl, rfl, rfl, rfl, rfl, rfl, rfl, rfl, rfl, rfl, rfl, rfl, trivial⟩ ?_
                  exact op_pay hc H hN hY (by omega) (by omega) (next (X / 17) (by omega)) (hβ hn0)
            · -- not taken
              have hn0 : 0 < n := by
                by_cases z : n = 0
                · exact absurd (by rw [z]; decide) h399
                · omega
              refine j_lv [(0, .ref bb), (1, .ref (ad 0)), (2, .ref (ad 15)), (3, .ref (ad 16)), (4, .ref (ad 17)), (5, .ref (ad 18)), (6, .ref (ad 19)), (7, .ref (ad 20)), (8, .ref (ad 21)), (9, .ref (ad 22)), (10, .ref (ad 23)), (11, .int (nI 1)), (12, .int (nI t)), (15, .int (nI (X / 17))), (16, .int (nI β))] ⟨rfl, rfl, rfl, rfl, rfl, rfl, rfl, rfl, rfl, rfl, rfl, rfl, rfl, rfl, rfl, trivial⟩ ?_
              exact op_out hc H hN hY (by omega) (by omega) (next (X / 17) (by omega)) (hβ hn0)
        · -- not taken
          have hn12 : n < 12 := by
            by_cases z : n < 12
            · exact z
            · exact absurd (nI_le (by omega) (by omega)) h265
          refine j_lv [(0, .ref bb), (1, .ref (ad 0)), (2, .ref (ad 15)), (3, .ref (ad 16)), (4, .ref (ad 17)), (5, .ref (ad 18)), (6, .ref (ad 19)), (7, .ref (ad 20)), (8, .ref (ad 21)), (9, .ref (ad 22)), (10, .ref (ad 23)), (11, .int (nI 1)), (12, .int (nI t)), (15, .int (nI (X / 17)))] ⟨rfl, rfl, rfl, rfl, rfl, rfl, rfl, rfl, rfl, rfl, rfl, rfl, rfl, rfl, trivial⟩ ?_
          exact op_bill hc H hN hY (by omega) (by omega) (next (X / 17) (by omega)) hn12
    have k227 : ∀ X κ, X < 2 ^ 31 → κ < 17 → J p l e room_1 s m #[Value.ref bb] below meth c D A 21 (2000 + 1700 * t) (16000 + 14000 * t) (lw_Z below #[Value.ref bb] s) (WD ad cs n E S o) 227 [(0, .ref bb), (1, .ref (ad 0)), (2, .ref (ad 15)), (3, .ref (ad 16)), (4, .ref (ad 17)), (5, .ref (ad 18)), (6, .ref (ad 19)), (7, .ref (ad 20)), (8, .ref (ad 21)), (9, .ref (ad 22)), (10, .ref (ad 23)), (11, .int (nI 1)), (12, .int (nI t)), (13, .int (nI X))] [.int (nI κ)] := by
      intro X κ hX31 hκ
      refine j_istore hc dL_law_227 rfl ?_
      refine j_iload hc dL_law_229 rfl ?_
      refine j_bipush hc (v := nI 17) dL_law_231 (by decide) ?_
      refine j_idivE hc (by decide) (z := nI (X / 17)) (pk_div (by omega) (by omega) (by omega)) dL_law_233 ?_
      refine j_istore hc dL_law_234 rfl ?_
      refine j_aload_n hc dL_law_236 rfl ?_
      refine j_iconst hc (v := nI 2) dL_law_237 (by decide) ?_
      refine xl_0 hc (i := 2) (by omega) (v := (nI n)) (G.n2) dL_law_238 ?_
      refine j_if_ne hc 246 dL_law_239 (by decide) (fun h239 => ?_) (fun h239 => ?_)
      · -- taken
        have hn0 : 0 < n := by
          by_cases z : n = 0
          · exact absurd (by rw [z]; rfl) h239
          · omega
        refine j_iload hc dL_law_246 rfl ?_
        refine j_aload_n hc dL_law_248 rfl ?_
        refine j_iconst hc (v := nI 2) dL_law_249 (by decide) ?_
        refine xl_0 hc (i := 2) (by omega) (v := (nI n)) (G.n2) dL_law_250 ?_
        refine j_iremE hc (nI_n0 (by omega) (by omega)) (z := nI ((X / 17) % n)) (pk_rem (by omega) (by omega) (by omega)) dL_law_251 ?_
        refine j_istore hc dL_law_252 rfl ?_
        refine j_lv [(0, .ref bb), (1, .ref (ad 0)), (2, .ref (ad 15)), (3, .ref (ad 16)), (4, .ref (ad 17)), (5, .ref (ad 18)), (6, .ref (ad 19)), (7, .ref (ad 20)), (8, .ref (ad 21)), (9, .ref (ad 22)), (10, .ref (ad 23)), (11, .int (nI 1)), (12, .int (nI t)), (14, .int (nI κ)), (15, .int (nI (X / 17))), (16, .int (nI ((X / 17) % n)))] ⟨rfl, rfl, rfl, rfl, rfl, rfl, rfl, rfl, rfl, rfl, rfl, rfl, rfl, rfl, rfl, rfl, trivial⟩ ?_
        exact k252 X κ _ hX31 hκ (fun z => Nat.mod_lt _ z)
      · -- not taken
        refine j_iconst hc (v := nI 0) dL_law_242 (by decide) ?_
        refine j_goto hc 252 dL_law_243 (by decide) ?_
        refine j_istore hc dL_law_252 rfl ?_
        refine j_lv [(0, .ref bb), (1, .ref (ad 0)), (2, .ref (ad 15)), (3, .ref (ad 16)), (4, .ref (ad 17)), (5, .ref (ad 18)), (6, .ref (ad 19)), (7, .ref (ad 20)), (8, .ref (ad 21)), (9, .ref (ad 22)), (10, .ref (ad 23)), (11, .int (nI 1)), (12, .int (nI t)), (14, .int (nI κ)), (15, .int (nI (X / 17))), (16, .int (nI 0))] ⟨rfl, rfl, rfl, rfl, rfl, rfl, rfl, rfl, rfl, rfl, rfl, rfl, rfl, rfl, rfl, rfl, trivial⟩ ?_
        exact k252 X κ _ hX31 hκ (fun z => absurd z (by have t9 := (nI_eq (b := 0) (by omega) (by decide)).mp h239; omega))
    have k210 : ∀ X, X < 2 ^ 31 → J p l e room_1 s m #[Value.ref bb] below meth c D A 21 (2000 + 1700 * t) (16000 + 14000 * t) (lw_Z below #[Value.ref bb] s) (WD ad cs n E S o) 210 [(0, .ref bb), (1, .ref (ad 0)), (2, .ref (ad 15)), (3, .ref (ad 16)), (4, .ref (ad 17)), (5, .ref (ad 18)), (6, .ref (ad 19)), (7, .ref (ad 20)), (8, .ref (ad 21)), (9, .ref (ad 22)), (10, .ref (ad 23)), (11, .int (nI 1)), (12, .int (nI t))] [.int (nI X)] := by
      intro X hX31
      refine j_istore hc dL_law_210 rfl ?_
      refine j_iload hc dL_law_212 rfl ?_
      refine j_iconst hc (v := nI 2) dL_law_214 (by decide) ?_
      refine j_icmp_ge hc 222 dL_law_215 (by decide) (fun h215 => ?_) (fun h215 => ?_)
      · -- taken
        refine j_iload hc dL_law_222 rfl ?_
        refine j_bipush hc (v := nI 17) dL_law_224 (by decide) ?_
        refine j_iremE hc (by decide) (z := nI (X % 17)) (pk_rem (by omega) (by omega) (by omega)) dL_law_226 ?_
        refine j_lv [(0, .ref bb), (1, .ref (ad 0)), (2, .ref (ad 15)), (3, .ref (ad 16)), (4, .ref (ad 17)), (5, .ref (ad 18)), (6, .ref (ad 19)), (7, .ref (ad 20)), (8, .ref (ad 21)), (9, .ref (ad 22)), (10, .ref (ad 23)), (11, .int (nI 1)), (12, .int (nI t)), (13, .int (nI X))] ⟨rfl, rfl, rfl, rfl, rfl, rfl, rfl, rfl, rfl, rfl, rfl, rfl, rfl, rfl, trivial⟩ ?_
        exact k227 X (X % 17) hX31 (by omega)
      · -- not taken
        refine j_iconst hc (v := nI 0) dL_law_218 (by decide) ?_
        refine j_goto hc 227 dL_law_219 (by decide) ?_
        refine j_lv [(0, .ref bb), (1, .ref (ad 0)), (2, .ref (ad 15)), (3, .ref (ad 16)), (4, .ref (ad 17)), (5, .ref (ad 18)), (6, .ref (ad 19)), (7, .ref (ad 20)), (8, .ref (ad 21)), (9, .ref (ad 22)), (10, .ref (ad 23)), (11, .int (nI 1)), (12, .int (nI t)), (13, .int (nI X))] ⟨rfl, rfl, rfl, rfl, rfl, rfl, rfl, rfl, rfl, rfl, rfl, rfl, rfl, rfl, trivial⟩ ?_
        exact k227 X 0 hX31 (by omega)
    refine j_iload hc dL_law_159 rfl ?_
    refine j_bipush hc (v := nI 110) dL_law_161 (by decide) ?_
    refine j_icmp_ge hc 1464 dL_law_163 (by decide) (fun h163 => by exact absurd h163 (nI_ge (b := 110) (by omega) (by omega))) (fun h163 => ?_)
    refine j_iload hc dL_law_166 rfl ?_
    refine j_if_eq hc 1464 dL_law_168 (by decide) (fun h168 => by exact absurd (show (nI 1) = (0 : Int32) from h168) (by decide)) (fun h168 => ?_)
    refine j_iload hc dL_law_171 rfl ?_
    refine j_aload_n hc dL_law_173 rfl ?_
    refine j_slen hc hX dL_law_174 ?_
    refine j_icmp_ge hc 188 dL_law_175 (by decide) (fun h175 => ?_) (fun h175 => ?_)
    · -- taken
      refine j_sipush hc (v := nI 31013) dL_law_188 (by decide) ?_
      refine j_iload hc dL_law_191 rfl ?_
      refine j_imulE hc (z := nI (31013 * t)) (pk_mul _ _) dL_law_193 ?_
      refine j_iload hc dL_law_194 rfl ?_
      refine j_imulE hc (z := nI ((31013 * t) * t)) (pk_mul _ _) dL_law_196 ?_
      refine j_sipush hc (v := nI 7013) dL_law_197 (by decide) ?_
      refine j_iload hc dL_law_200 rfl ?_
      refine j_imulE hc (z := nI (7013 * t)) (pk_mul _ _) dL_law_202 ?_
      refine j_iaddE hc (z := nI (((31013 * t) * t) + (7013 * t))) (nI_add _ _) dL_law_203 ?_
      refine j_bipush hc (v := nI 37) dL_law_204 (by decide) ?_
      refine j_iaddE hc (z := nI ((((31013 * t) * t) + (7013 * t)) + 37)) (nI_add _ _) dL_law_206 ?_
      refine j_ldc hc wt_514 dL_law_207 ?_
      refine j_iand hc dL_law_209 ?_
      obtain ⟨X, hX31, eX⟩ := and_x (nI ((((31013 * t) * t) + (7013 * t)) + 37))
      rw [eX]
      refine j_lv [(0, .ref bb), (1, .ref (ad 0)), (2, .ref (ad 15)), (3, .ref (ad 16)), (4, .ref (ad 17)), (5, .ref (ad 18)), (6, .ref (ad 19)), (7, .ref (ad 20)), (8, .ref (ad 21)), (9, .ref (ad 22)), (10, .ref (ad 23)), (11, .int (nI 1)), (12, .int (nI t))] ⟨rfl, rfl, rfl, rfl, rfl, rfl, rfl, rfl, rfl, rfl, rfl, rfl, rfl, trivial⟩ ?_
      exact k210 X hX31
    · -- not taken
      have htL : t < L := by
        by_cases z : t < L
        · exact z
        · exact absurd (nI_le (by omega) (by omega)) h175
      refine j_aload_n hc dL_law_178 rfl ?_
      refine j_iload hc dL_law_179 rfl ?_
      refine j_sld hc hX (v := nI t) (j := t) rfl ⟨htL, by omega⟩ dL_law_181 ?_
      refine j_ldc hc wt_514 dL_law_182 ?_
      refine j_iand hc dL_law_184 ?_
      refine j_goto hc 210 dL_law_185 (by decide) ?_
      obtain ⟨X, hX31, eX⟩ := and_x (xs t)
      rw [eX]
      refine j_lv [(0, .ref bb), (1, .ref (ad 0)), (2, .ref (ad 15)), (3, .ref (ad 16)), (4, .ref (ad 17)), (5, .ref (ad 18)), (6, .ref (ad 19)), (7, .ref (ad 20)), (8, .ref (ad 21)), (9, .ref (ad 22)), (10, .ref (ad 23)), (11, .int (nI 1)), (12, .int (nI t))] ⟨rfl, rfl, rfl, rfl, rfl, rfl, rfl, rfl, rfl, rfl, rfl, rfl, rfl, trivial⟩ ?_
      exact k210 X hX31
set_option maxRecDepth 100000 in
set_option maxHeartbeats 4000000 in
theorem law_main (hc : CX p l e room_1 s m #[Value.ref bb] below meth c D cs sa A code 21 RL ret) (hA : ∀ q, A q → s.heap.size ≤ q) {tt : Nat → Nat} (hE : EST tt A s s.heap) (hX : va_X bb L xs s s.heap ∧ bb < s.heap.size ∧ ¬ A bb) (hL : L ≤ 260) : J p l e room_1 s m #[Value.ref bb] below meth c D A 21 0 0 (lw_Z below #[Value.ref bb] s) [] 0 [(0, .ref bb)] [] := by
  have hl := hc.2.2.2.2.2.2
  refine j_new hc (K := RX4) (T := TX4) (N := 12) (ci := 4) uw4 tyX4 tyX4_ok wt_14 wt_15 wt_1 rfl (fs := [.null, .null, .null, .null, .int 0, .int 0, .int 0, .int 0, .int 0, .int 0, .int 0, .int 0]) (fun j hj => by match j, hj with | 0, _ => rfl | 1, _ => rfl | 2, _ => rfl | 3, _ => rfl | 4, _ => rfl | 5, _ => rfl | 6, _ => rfl | 7, _ => rfl | 8, _ => rfl | 9, _ => rfl | 10, _ => rfl | 11, _ => rfl | j + 12, h => exact absurd h (by omega)) (Nat.le_of_ble_eq_true rfl) (Nat.le_of_ble_eq_true rfl) dL_law_0 (fun q0 => ?_)
  refine j_dup hc dL_law_3 rfl ?_
  refine j_callI hc (w := [(q0, .inr (4, [.null, .null, .null, .null, .int 0, .int 0, .int 0, .int 0, .int 0, .int 0, .int 0, .int 0]))]) [] (c_X4_init hl) ic_L_103 (EST_ok tt) hE rfl ⟨rfl, rfl, by decide, by decide⟩ rfl rfl (Nat.le_of_ble_eq_true rfl) ⟨by decide, by decide⟩ dL_law_4 (fun x => ?_)
  obtain ⟨x, rfl⟩ := x
  refine j_astore_n hc dL_law_7 rfl ?_
  refine j_w (w' := EL x cs 0 E0) rfl ?_
  refine j_bipush hc (v := 9) dL_law_8 (by decide) ?_
  refine j_newaI hc (N := 9) (by decide) rfl (Nat.le_of_ble_eq_true rfl) (Nat.le_of_ble_eq_true rfl) (Nat.le_of_ble_eq_true rfl) dL_law_10 (fun q1 => ?_)
  refine j_astore_n hc dL_law_12 rfl ?_
  refine j_bipush hc (v := 64) dL_law_13 (by decide) ?_
  refine j_newaI hc (N := 64) (by decide) rfl (Nat.le_of_ble_eq_true rfl) (Nat.le_of_ble_eq_true rfl) (Nat.le_of_ble_eq_true rfl) dL_law_15 (fun q2 => ?_)
  refine j_astore_n hc dL_law_17 rfl ?_
  refine j_bipush hc (v := 30) dL_law_18 (by decide) ?_
  refine j_newaI hc (N := 30) (by decide) rfl (Nat.le_of_ble_eq_true rfl) (Nat.le_of_ble_eq_true rfl) (Nat.le_of_ble_eq_true rfl) dL_law_20 (fun q3 => ?_)
  refine j_astore hc dL_law_22 rfl ?_
  refine j_iconst hc (v := 5) dL_law_24 (by decide) ?_
  refine j_newaI hc (N := 5) (by decide) rfl (Nat.le_of_ble_eq_true rfl) (Nat.le_of_ble_eq_true rfl) (Nat.le_of_ble_eq_true rfl) dL_law_25 (fun q4 => ?_)
  refine j_astore hc dL_law_27 rfl ?_
  refine j_bipush hc (v := 36) dL_law_29 (by decide) ?_
  refine j_newaI hc (N := 36) (by decide) rfl (Nat.le_of_ble_eq_true rfl) (Nat.le_of_ble_eq_true rfl) (Nat.le_of_ble_eq_true rfl) dL_law_31 (fun q5 => ?_)
  refine j_astore hc dL_law_33 rfl ?_
  refine j_bipush hc (v := 48) dL_law_35 (by decide) ?_
  refine j_newaI hc (N := 48) (by decide) rfl (Nat.le_of_ble_eq_true rfl) (Nat.le_of_ble_eq_true rfl) (Nat.le_of_ble_eq_true rfl) dL_law_37 (fun q6 => ?_)
  refine j_astore hc dL_law_39 rfl ?_
  refine j_bipush hc (v := 60) dL_law_41 (by decide) ?_
  refine j_newaI hc (N := 60) (by decide) rfl (Nat.le_of_ble_eq_true rfl) (Nat.le_of_ble_eq_true rfl) (Nat.le_of_ble_eq_true rfl) dL_law_43 (fun q7 => ?_)
  refine j_astore hc dL_law_45 rfl ?_
  refine j_bipush hc (v := 36) dL_law_47 (by decide) ?_
  refine j_newaI hc (N := 36) (by decide) rfl (Nat.le_of_ble_eq_true rfl) (Nat.le_of_ble_eq_true rfl) (Nat.le_of_ble_eq_true rfl) dL_law_49 (fun q8 => ?_)
  refine j_astore hc dL_law_51 rfl ?_
  refine j_bipush hc (v := 60) dL_law_53 (by decide) ?_
  refine j_newaI hc (N := 60) (by decide) rfl (Nat.le_of_ble_eq_true rfl) (Nat.le_of_ble_eq_true rfl) (Nat.le_of_ble_eq_true rfl) dL_law_55 (fun q9 => ?_)
  refine j_astore hc dL_law_57 rfl ?_
  obtain ⟨qs, e0, e1, e2, e3, e4, e5, e6, e7, e8⟩ : ∃ qs : Nat → Nat, q1 = qs 0 ∧ q2 = qs 1 ∧ q3 = qs 2 ∧ q4 = qs 3 ∧ q5 = qs 4 ∧ q6 = qs 5 ∧ q7 = qs 6 ∧ q8 = qs 7 ∧ q9 = qs 8 := ⟨fun k => match k with | 0 => q1 | 1 => q2 | 2 => q3 | 3 => q4 | 4 => q5 | 5 => q6 | 6 => q7 | 7 => q8 | _ => q9, rfl, rfl, rfl, rfl, rfl, rfl, rfl, rfl, rfl⟩
  subst e0 e1 e2 e3 e4 e5 e6 e7 e8
  refine j_w (w' := WD (adJ x qs) cs 0 E0 Z0 (fun _ => 0)) (wd_j x qs cs E0 _) ?_
  refine j_lv [(0, .ref bb), (1, .ref (adJ x qs 0)), (2, .ref (adJ x qs 15)), (3, .ref (adJ x qs 16)), (4, .ref (adJ x qs 17)), (5, .ref (adJ x qs 18)), (6, .ref (adJ x qs 19)), (7, .ref (adJ x qs 20)), (8, .ref (adJ x qs 21)), (9, .ref (adJ x qs 22)), (10, .ref (adJ x qs 23))] ⟨rfl, rfl, rfl, rfl, rfl, rfl, rfl, rfl, rfl, rfl, rfl, trivial⟩ ?_
  refine j_aload_n hc dL_law_59 rfl ?_
  refine j_iconst hc (v := nI 1) dL_law_60 (by decide) ?_
  refine j_bipush hc (v := nI 31) dL_law_61 (by decide) ?_
  refine xs_0 hc (i := 1) (by omega) dL_law_63 ?_
  refine j_aload_n hc dL_law_64 rfl ?_
  refine j_iconst hc (v := nI 3) dL_law_65 (by decide) ?_
  refine j_bipush hc (v := nI 10) dL_law_66 (by decide) ?_
  refine xs_0 hc (i := 3) (by omega) dL_law_68 ?_
  refine j_aload_n hc dL_law_69 rfl ?_
  refine j_iconst hc (v := nI 4) dL_law_70 (by decide) ?_
  refine j_bipush hc (v := nI 30) dL_law_71 (by decide) ?_
  refine xs_0 hc (i := 4) (by omega) dL_law_73 ?_
  refine j_iconst hc (v := nI 0) dL_law_74 (by decide) ?_
  refine j_istore hc dL_law_75 rfl ?_
  refine j_iload hc dL_law_77 rfl ?_
  refine j_iconst hc (v := nI 4) dL_law_79 (by decide) ?_
  refine j_icmp_ge hc 122 dL_law_80 (by decide) (fun h80 => by exact absurd (show (nI 4) ≤ (nI 0) from h80) (by decide)) (fun h80 => ?_)
  refine j_aload hc dL_law_83 rfl ?_
  refine j_bipush hc (v := nI 6) dL_law_85 (by decide) ?_
  refine j_iload hc dL_law_87 rfl ?_
  refine j_iaddE hc (z := nI (6 + 0)) (nI_add _ _) dL_law_89 ?_
  refine j_iconst hc (v := nI 3) dL_law_90 (by decide) ?_
  refine j_iconst hc (v := nI 2) dL_law_91 (by decide) ?_
  refine j_iload hc dL_law_92 rfl ?_
  refine j_imulE hc (z := nI (2 * 0)) (pk_mul _ _) dL_law_94 ?_
  refine j_iaddE hc (z := nI (3 + (2 * 0))) (nI_add _ _) dL_law_95 ?_
  refine xs_2 hc (i := (6 + 0)) (by omega) dL_law_96 ?_
  refine j_aload hc dL_law_97 rfl ?_
  refine j_bipush hc (v := nI 12) dL_law_99 (by decide) ?_
  refine j_iload hc dL_law_101 rfl ?_
  refine j_iaddE hc (z := nI (12 + 0)) (nI_add _ _) dL_law_103 ?_
  refine j_bipush hc (v := nI 7) dL_law_104 (by decide) ?_
  refine xs_2 hc (i := (12 + 0)) (by omega) dL_law_106 ?_
  refine j_aload hc dL_law_107 rfl ?_
  refine j_bipush hc (v := nI 24) dL_law_109 (by decide) ?_
  refine j_iload hc dL_law_111 rfl ?_
  refine j_iaddE hc (z := nI (24 + 0)) (nI_add _ _) dL_law_113 ?_
  refine j_iconst hc (v := nI 1) dL_law_114 (by decide) ?_
  refine xs_2 hc (i := (24 + 0)) (by omega) dL_law_115 ?_
  refine j_incE hc dL_law_116 rfl (v := nI 1) (nI_1 0) rfl ?_
  refine j_goto hc 77 dL_law_119 (by decide) ?_
  refine j_iload hc dL_law_77 rfl ?_
  refine j_iconst hc (v := nI 4) dL_law_79 (by decide) ?_
  refine j_icmp_ge hc 122 dL_law_80 (by decide) (fun h80 => by exact absurd (show (nI 4) ≤ (nI 1) from h80) (by decide)) (fun h80 => ?_)
  refine j_aload hc dL_law_83 rfl ?_
  refine j_bipush hc (v := nI 6) dL_law_85 (by decide) ?_
  refine j_iload hc dL_law_87 rfl ?_
  refine j_iaddE hc (z := nI (6 + 1)) (nI_add _ _) dL_law_89 ?_
  refine j_iconst hc (v := nI 3) dL_law_90 (by decide) ?_
  refine j_iconst hc (v := nI 2) dL_law_91 (by decide) ?_
  refine j_iload hc dL_law_92 rfl ?_
  refine j_imulE hc (z := nI (2 * 1)) (pk_mul _ _) dL_law_94 ?_
  refine j_iaddE hc (z := nI (3 + (2 * 1))) (nI_add _ _) dL_law_95 ?_
  refine xs_2 hc (i := (6 + 1)) (by omega) dL_law_96 ?_
  refine j_aload hc dL_law_97 rfl ?_
  refine j_bipush hc (v := nI 12) dL_law_99 (by decide) ?_
  refine j_iload hc dL_law_101 rfl ?_
  refine j_iaddE hc (z := nI (12 + 1)) (nI_add _ _) dL_law_103 ?_
  refine j_bipush hc (v := nI 7) dL_law_104 (by decide) ?_
  refine xs_2 hc (i := (12 + 1)) (by omega) dL_law_106 ?_
  refine j_aload hc dL_law_107 rfl ?_
  refine j_bipush hc (v := nI 24) dL_law_109 (by decide) ?_
  refine j_iload hc dL_law_111 rfl ?_
  refine j_iaddE hc (z := nI (24 + 1)) (nI_add _ _) dL_law_113 ?_
  refine j_iconst hc (v := nI 1) dL_law_114 (by decide) ?_
  refine xs_2 hc (i := (24 + 1)) (by omega) dL_law_115 ?_
  refine j_incE hc dL_law_116 rfl (v := nI 2) (nI_1 1) rfl ?_
  refine j_goto hc 77 dL_law_119 (by decide) ?_
  refine j_iload hc dL_law_77 rfl ?_
  refine j_iconst hc (v := nI 4) dL_law_79 (by decide) ?_
  refine j_icmp_ge hc 122 dL_law_80 (by decide) (fun h80 => by exact absurd (show (nI 4) ≤ (nI 2) from h80) (by decide)) (fun h80 => ?_)
  refine j_aload hc dL_law_83 rfl ?_
  refine j_bipush hc (v := nI 6) dL_law_85 (by decide) ?_
  refine j_iload hc dL_law_87 rfl ?_
  refine j_iaddE hc (z := nI (6 + 2)) (nI_add _ _) dL_law_89 ?_
  refine j_iconst hc (v := nI 3) dL_law_90 (by decide) ?_
  refine j_iconst hc (v := nI 2) dL_law_91 (by decide) ?_
  refine j_iload hc dL_law_92 rfl ?_
  refine j_imulE hc (z := nI (2 * 2)) (pk_mul _ _) dL_law_94 ?_
  refine j_iaddE hc (z := nI (3 + (2 * 2))) (nI_add _ _) dL_law_95 ?_
  refine xs_2 hc (i := (6 + 2)) (by omega) dL_law_96 ?_
  refine j_aload hc dL_law_97 rfl ?_
  refine j_bipush hc (v := nI 12) dL_law_99 (by decide) ?_
  refine j_iload hc dL_law_101 rfl ?_
  refine j_iaddE hc (z := nI (12 + 2)) (nI_add _ _) dL_law_103 ?_
  refine j_bipush hc (v := nI 7) dL_law_104 (by decide) ?_
  refine xs_2 hc (i := (12 + 2)) (by omega) dL_law_106 ?_
  refine j_aload hc dL_law_107 rfl ?_
  refine j_bipush hc (v := nI 24) dL_law_109 (by decide) ?_
  refine j_iload hc dL_law_111 rfl ?_
  refine j_iaddE hc (z := nI (24 + 2)) (nI_add _ _) dL_law_113 ?_
  refine j_iconst hc (v := nI 1) dL_law_114 (by decide) ?_
  refine xs_2 hc (i := (24 + 2)) (by omega) dL_law_115 ?_
  refine j_incE hc dL_law_116 rfl (v := nI 3) (nI_1 2) rfl ?_
  refine j_goto hc 77 dL_law_119 (by decide) ?_
  refine j_iload hc dL_law_77 rfl ?_
  refine j_iconst hc (v := nI 4) dL_law_79 (by decide) ?_
  refine j_icmp_ge hc 122 dL_law_80 (by decide) (fun h80 => by exact absurd (show (nI 4) ≤ (nI 3) from h80) (by decide)) (fun h80 => ?_)
  refine j_aload hc dL_law_83 rfl ?_
  refine j_bipush hc (v := nI 6) dL_law_85 (by decide) ?_
  refine j_iload hc dL_law_87 rfl ?_
  refine j_iaddE hc (z := nI (6 + 3)) (nI_add _ _) dL_law_89 ?_
  refine j_iconst hc (v := nI 3) dL_law_90 (by decide) ?_
  refine j_iconst hc (v := nI 2) dL_law_91 (by decide) ?_
  refine j_iload hc dL_law_92 rfl ?_
  refine j_imulE hc (z := nI (2 * 3)) (pk_mul _ _) dL_law_94 ?_
  refine j_iaddE hc (z := nI (3 + (2 * 3))) (nI_add _ _) dL_law_95 ?_
  refine xs_2 hc (i := (6 + 3)) (by omega) dL_law_96 ?_
  refine j_aload hc dL_law_97 rfl ?_
  refine j_bipush hc (v := nI 12) dL_law_99 (by decide) ?_
  refine j_iload hc dL_law_101 rfl ?_
  refine j_iaddE hc (z := nI (12 + 3)) (nI_add _ _) dL_law_103 ?_
  refine j_bipush hc (v := nI 7) dL_law_104 (by decide) ?_
  refine xs_2 hc (i := (12 + 3)) (by omega) dL_law_106 ?_
  refine j_aload hc dL_law_107 rfl ?_
  refine j_bipush hc (v := nI 24) dL_law_109 (by decide) ?_
  refine j_iload hc dL_law_111 rfl ?_
  refine j_iaddE hc (z := nI (24 + 3)) (nI_add _ _) dL_law_113 ?_
  refine j_iconst hc (v := nI 1) dL_law_114 (by decide) ?_
  refine xs_2 hc (i := (24 + 3)) (by omega) dL_law_115 ?_
  refine j_incE hc dL_law_116 rfl (v := nI 4) (nI_1 3) rfl ?_
  refine j_goto hc 77 dL_law_119 (by decide) ?_
  refine j_iload hc dL_law_77 rfl ?_
  refine j_iconst hc (v := nI 4) dL_law_79 (by decide) ?_
  refine j_icmp_ge hc 122 dL_law_80 (by decide) (fun h80 => ?_) (fun h80 => by exact absurd (show ¬ (nI 4) ≤ (nI 4) from h80) (by decide))
  refine j_aload hc dL_law_122 rfl ?_
  refine j_iconst hc (v := nI 1) dL_law_124 (by decide) ?_
  refine j_iconst hc (v := nI 3) dL_law_125 (by decide) ?_
  refine xs_3 hc (i := 1) (by omega) dL_law_126 ?_
  refine j_aload hc dL_law_127 rfl ?_
  refine j_iconst hc (v := nI 2) dL_law_129 (by decide) ?_
  refine j_iconst hc (v := nI 2) dL_law_130 (by decide) ?_
  refine xs_3 hc (i := 2) (by omega) dL_law_131 ?_
  refine j_aload hc dL_law_132 rfl ?_
  refine j_iconst hc (v := nI 4) dL_law_134 (by decide) ?_
  refine j_iconst hc (v := nI 4) dL_law_135 (by decide) ?_
  refine xs_3 hc (i := 4) (by omega) dL_law_136 ?_
  refine j_aload_n hc dL_law_137 rfl ?_
  refine j_aload_n hc dL_law_138 rfl ?_
  refine j_aload_n hc dL_law_139 rfl ?_
  refine j_aload hc dL_law_140 rfl ?_
  refine j_aload hc dL_law_142 rfl ?_
  refine j_aload hc dL_law_144 rfl ?_
  refine j_aload hc dL_law_146 rfl ?_
  refine j_aload hc dL_law_148 rfl ?_
  refine j_iconst hc (v := nI 0) dL_law_150 (by decide) ?_
  refine j_w (w' := WD (adJ x qs) cs 0 E0 S0 (fun _ => 0)) rfl ?_
  refine j_callS' hc (c_L_isEngine hl (X := 0) inv_0 (by decide) (by decide) (by decide)) sc_L_104 rfl ⟨rfl, rfl, by decide, by decide⟩ rfl (Nat.le_of_ble_eq_true rfl) ⟨Nat.le_of_ble_eq_true rfl, Nat.le_of_ble_eq_true rfl⟩ dL_law_151 (fun _ h9 => by cases h9) (fun _ => ?_)
  refine j_istore hc dL_law_154 rfl ?_
  refine j_iconst hc (v := nI 0) dL_law_156 (by decide) ?_
  refine j_istore hc dL_law_157 rfl ?_
  refine j_lv [(0, .ref bb), (1, .ref (adJ x qs 0)), (2, .ref (adJ x qs 15)), (3, .ref (adJ x qs 16)), (4, .ref (adJ x qs 17)), (5, .ref (adJ x qs 18)), (6, .ref (adJ x qs 19)), (7, .ref (adJ x qs 20)), (8, .ref (adJ x qs 21)), (9, .ref (adJ x qs 22)), (10, .ref (adJ x qs 23)), (11, .int (nI 1)), (12, .int (nI 0))] ⟨rfl, rfl, rfl, rfl, rfl, rfl, rfl, rfl, rfl, rfl, rfl, rfl, rfl, trivial⟩ ?_
  refine j_widen (k := 2000 + 1700 * 0) (n := 16000 + 14000 * 0) (by decide) (by decide) ?_
  exact law_loop hc hA hX hL _ 110 0 rfl _ 0 0 0 0 E0 S0 inv_0 (by decide) (by decide)
end LAW
theorem whole_start {p : Program} {e : Env} {s : State} {m : MethodId} {below : List Frame} {meth : Method} {c : Code} (l : Launch) (hflags : l.flags = flags0) {b L : Nat} {xs : Nat → Int32} (hL : L ≤ 260) (C0 : lw_At p s m meth c b L xs) : W p l e room_1 s m #[Value.ref b] below meth c s.heap [] 0 0 (lw_Z below #[Value.ref b] s) (entryFrame m ([Value.ref b] : List Value).toArray 21) := by
  obtain ⟨hx, hb, hr, hml, hown, hts, hX, hbl, hlocks, hgv⟩ := C0
  have hl : l.stackTraces = false := by
    unfold Launch.stackTraces
    rw [hflags]
    decide
  have hA0 : ∀ q : Nat, q < s.heap.size → ¬ s.heap.size ≤ q := fun q h => by omega
  obtain ⟨D, cs, hK⟩ := en_K hts
  obtain ⟨sa, hST⟩ := en_ST (A := fun q => s.heap.size ≤ q) hA0 hts hgv
  obtain ⟨tt, hE⟩ := en_E (A := fun q => s.heap.size ≤ q) hA0 hts hgv
  have hc : CX p l e room_1 s m #[Value.ref b] below meth c D cs sa (fun q => s.heap.size ≤ q) code 21 RL ret := ⟨⟨hx, hb, hml, hown, fun w hw => hts w (wt_sub w hw)⟩, hr, hlocks, hK, fun q h => h, hST, hl⟩
  rw [lg_entry_eq]
  exact law_main hc (fun q h => h) hE ⟨hX, hbl, hA0 b hbl⟩ hL s.heap [] _ (fun k q h => (by cases h)) ⟨fun i j p q h => (by cases h), fun k q h => (by cases h)⟩ va_S.rf (lv_entry [.ref b] (n := 21) (Nat.le_of_ble_eq_true rfl))
