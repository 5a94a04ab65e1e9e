section ENTRY
variable {args : Array Value} {s : State}
theorem en_prim {ty : FieldType} (h : (Cond.arrayClass ty).before args s = true) (hp : ∀ c, ty ≠ .object c) : ∃ c : ClassId, ArrOfT s c ty ∧ va_RA s c ty := by
  obtain ⟨c, k, comp, h1, h2, h3⟩ := Cond.arrayClass_spec h
  refine ⟨c, fun N z => ⟨(fun k h => by cases h), k, h2, comp, h3⟩, ?_⟩
  cases ty with
  | object C => exact absurd rfl (hp C)
  | _ => exact h1
theorem en_obj {C : String} (h : (Cond.arrayOver (.object C)).before args s = true) : ∃ c : ClassId, ArrOfT s c (.object C) ∧ va_RA s c (.object C) := by
  obtain ⟨comp, c, k, h1, h2, h3, h4, h5⟩ := Cond.arrayOver_spec h
  exact ⟨c, fun N z => ⟨(fun k h => by cases h), k, h3, comp, h4⟩, k, comp, h3, h4, h1, h5⟩
theorem en_str {own : String} {k : Nat} {cn : String} (h : (Cond.exactly (.string own k) cn).before args s = true) : ∃ a : Nat, (Term.string own k).eval args s none [] s = some (.ref a) := by
  obtain ⟨a, c, cell, k, h1, h2⟩ := Cond.exactly_spec h
  exact ⟨a, h1⟩
set_option maxRecDepth 100000 in
set_option maxHeartbeats 4000000 in
theorem en_K (hts : ∀ w ∈ lw_tbl, w.before args s = true) : ∃ (D : va_G) (cs : Nat → ClassId), va_K D vwCl (tysW cs) s := by
  have hW : ∀ w ∈ WT, w.before args s = true := fun w hw => hts w (wt_sub w hw)
  obtain ⟨c0, i0, k0⟩ := u_known (C := RX0) (T := TX0) (N := 11) (n := 11) hW uw0 (hts (.instantiable RX0 11) (by decide +kernel))
  obtain ⟨c1, i1, k1⟩ := u_known (C := RX1) (T := TX1) (N := 2) (n := 2) hW uw1 (hts (.instantiable RX1 2) (by decide +kernel))
  obtain ⟨c2, i2, k2⟩ := u_known (C := RX2) (T := TX2) (N := 2) (n := 2) hW uw2 (hts (.instantiable RX2 2) (by decide +kernel))
  obtain ⟨c3, i3, k3⟩ := u_known (C := RX3) (T := TX3) (N := 2) (n := 2) hW uw3 (hts (.instantiable RX3 2) (by decide +kernel))
  obtain ⟨c4, i4, k4⟩ := u_known (C := RX4) (T := TX4) (N := 12) (n := 12) hW uw4 (hts (.instantiable RX4 12) (by decide +kernel))
  obtain ⟨a0, x0, y0⟩ := en_prim (ty := .int) (hts (.arrayClass .int) (by decide +kernel)) (fun _ h => by cases h)
  obtain ⟨a1, x1, y1⟩ := en_prim (ty := .long) (hts (.arrayClass .long) (by decide +kernel)) (fun _ h => by cases h)
  obtain ⟨a2, x2, y2⟩ := en_prim (ty := .byte) (hts (.arrayClass .byte) (by decide +kernel)) (fun _ h => by cases h)
  obtain ⟨a3, x3, y3⟩ := en_obj (C := RX0) (hts (.arrayOver (.object RX0)) (by decide +kernel))
  obtain ⟨a4, x4, y4⟩ := en_obj (C := RX3) (hts (.arrayOver (.object RX3)) (by decide +kernel))
  refine ⟨(fun k => match k with | 0 => c0 | 1 => c1 | 2 => c2 | 3 => c3 | _ => c4, fun k => match k with | 0 => i0 | 1 => i1 | 2 => i2 | 3 => i3 | _ => i4), fun k => match k with | 0 => a0 | 1 => a1 | 2 => a2 | 3 => a3 | _ => a4, fun k q hq => ?_, fun k q hq => ?_⟩
  · match k, hq with
    | 0, hq => cases hq; exact k0
    | 1, hq => cases hq; exact k1
    | 2, hq => cases hq; exact k2
    | 3, hq => cases hq; exact k3
    | 4, hq => cases hq; exact k4
    | k + 5, hq => cases hq
  · match k, hq with
    | 0, hq => cases hq; exact ⟨x0, y0⟩
    | 1, hq => cases hq; exact ⟨x1, y1⟩
    | 2, hq => cases hq; exact ⟨x2, y2⟩
    | 3, hq => cases hq; exact ⟨x3, y3⟩
    | 4, hq => cases hq; exact ⟨x4, y4⟩
    | k + 5, hq => cases hq
set_option maxRecDepth 100000 in
set_option maxHeartbeats 4000000 in
theorem en_ST {A : Nat → Prop} (hA : ∀ q : Nat, q < s.heap.size → ¬ A q) (hts : ∀ w ∈ lw_tbl, w.before args s = true) (hn : (Jvm.Cond.and given_1 narrow_1).before args s = true) : ∃ sa : Nat → Nat, ST sa A s s.heap := by
  have hs := flat_of_before _ hn
  obtain ⟨q60, e60⟩ := en_str (hs (.exactly (.string "CollectionsEngine" 60) "java/lang/String") (by decide +kernel))
  obtain ⟨q71, e71⟩ := en_str (hs (.exactly (.string "CollectionsEngine" 71) "java/lang/String") (by decide +kernel))
  obtain ⟨q222, e222⟩ := en_str (hs (.exactly (.string "CollectionsEngine" 222) "java/lang/String") (by decide +kernel))
  obtain ⟨q227, e227⟩ := en_str (hs (.exactly (.string "CollectionsEngine" 227) "java/lang/String") (by decide +kernel))
  obtain ⟨q104, e104⟩ := en_str (hs (.exactly (.string "CollectionsEngine" 104) "java/lang/String") (by decide +kernel))
  obtain ⟨q225, e225⟩ := en_str (hs (.exactly (.string "CollectionsEngine" 225) "java/lang/String") (by decide +kernel))
  obtain ⟨q115, e115⟩ := en_str (hs (.exactly (.string "CollectionsEngine" 115) "java/lang/String") (by decide +kernel))
  obtain ⟨q229, e229⟩ := en_str (hs (.exactly (.string "CollectionsEngine" 229) "java/lang/String") (by decide +kernel))
  obtain ⟨q136, e136⟩ := en_str (hs (.exactly (.string "CollectionsEngine" 136) "java/lang/String") (by decide +kernel))
  obtain ⟨q148, e148⟩ := en_str (hs (.exactly (.string "CollectionsEngine" 148) "java/lang/String") (by decide +kernel))
  obtain ⟨q153, e153⟩ := en_str (hs (.exactly (.string "CollectionsEngine" 153) "java/lang/String") (by decide +kernel))
  obtain ⟨q212, e212⟩ := en_str (hs (.exactly (.string "CollectionsEngine" 212) "java/lang/String") (by decide +kernel))
  refine ⟨fun k => match k with | 60 => q60 | 71 => q71 | 222 => q222 | 227 => q227 | 104 => q104 | 225 => q225 | 115 => q115 | 229 => q229 | 136 => q136 | 148 => q148 | 153 => q153 | 212 => q212 | _ => 0, vx_Zqof (hts (.laysStatic Bundle.tN "UNASSIGNED_STACK" Bundle.steD) (by decide +kernel)) (hts (.initialized Bundle.tN) (by decide +kernel)) (hs (.isRef (.static Bundle.tN "UNASSIGNED_STACK" Bundle.steD)) (by decide +kernel)) hA, vx_Zqof (hts (.laysStatic Bundle.tN "SUPPRESSED_SENTINEL" Bundle.listD) (by decide +kernel)) (hts (.initialized Bundle.tN) (by decide +kernel)) (hs (.isRef (.static Bundle.tN "SUPPRESSED_SENTINEL" Bundle.listD)) (by decide +kernel)) hA, ?_, ?_, ?_, ?_⟩
  · have h9 : ∀ x ∈ nwD, Cond.declares x ∈ lw_tbl := by decide +kernel
    exact fun x hx => va_Nw.of rfl (hts _ (h9 x hx))
  · have h9 : ∀ x ∈ nwC, Cond.castable x x ∈ lw_tbl := by decide +kernel
    exact fun x hx => va_Nw.of rfl (hts _ (h9 x hx))
  · have h9 : ∀ q ∈ strs, Cond.stringRef RX4 q.1 q.2 ∈ lw_tbl := by decide +kernel
    intro q hq
    have h8 := hts _ (h9 q hq)
    simp only [strs, List.mem_cons, List.mem_nil_iff, or_false] at hq
    rcases hq with rfl | rfl | rfl | rfl | rfl | rfl | rfl | rfl | rfl | rfl | rfl | rfl
    · exact vk_R.of h8 e60
    · exact vk_R.of h8 e71
    · exact vk_R.of h8 e222
    · exact vk_R.of h8 e227
    · exact vk_R.of h8 e104
    · exact vk_R.of h8 e225
    · exact vk_R.of h8 e115
    · exact vk_R.of h8 e229
    · exact vk_R.of h8 e136
    · exact vk_R.of h8 e148
    · exact vk_R.of h8 e153
    · exact vk_R.of h8 e212
  · have h9 : ∀ q ∈ ncs, Cond.not (.castable q.1 q.2) ∈ flatC (Jvm.Cond.and given_1 narrow_1) := by decide +kernel
    exact fun q hq => va_Nc.of (hs _ (h9 q hq))
set_option maxRecDepth 100000 in
set_option maxHeartbeats 4000000 in
theorem en_E {A : Nat → Prop} (hA : ∀ q : Nat, q < s.heap.size → ¬ A q) (hts : ∀ w ∈ lw_tbl, w.before args s = true) (hn : (Jvm.Cond.and given_1 narrow_1).before args s = true) : ∃ tt : Nat → Nat, EST tt A s s.heap := by
  have hs := flat_of_before _ hn
  obtain ⟨t0, z0, w0⟩ := va_Tof (tm := .static "CollectionsEngine" "FIRST_GAPS_NO_MONEY" "[I") (ty := .int) (N := 3) (f := fun j => .int (g0 j)) (by decide) (hs (.arrayOf (.static "CollectionsEngine" "FIRST_GAPS_NO_MONEY" "[I") .int) (by decide +kernel)) (va_eqt (hs (.eq (.length (.static "CollectionsEngine" "FIRST_GAPS_NO_MONEY" "[I")) (.int 3)) (by decide +kernel))) (fun j hj => match j, hj with | 0, _ => va_eqt (hs (.eq (.elem (.static "CollectionsEngine" "FIRST_GAPS_NO_MONEY" "[I") (.int 0)) (.int 3)) (by decide +kernel)) | 1, _ => va_eqt (hs (.eq (.elem (.static "CollectionsEngine" "FIRST_GAPS_NO_MONEY" "[I") (.int 1)) (.int 5)) (by decide +kernel)) | 2, _ => va_eqt (hs (.eq (.elem (.static "CollectionsEngine" "FIRST_GAPS_NO_MONEY" "[I") (.int 2)) (.int 7)) (by decide +kernel)) | j + 3, h => absurd h (by omega)) hA
  obtain ⟨t1, z1, w1⟩ := va_Tof (tm := .static "CollectionsEngine" "FIRST_GAPS_EXPIRED" "[I") (ty := .int) (N := 2) (f := fun j => .int (g1 j)) (by decide) (hs (.arrayOf (.static "CollectionsEngine" "FIRST_GAPS_EXPIRED" "[I") .int) (by decide +kernel)) (va_eqt (hs (.eq (.length (.static "CollectionsEngine" "FIRST_GAPS_EXPIRED" "[I")) (.int 2)) (by decide +kernel))) (fun j hj => match j, hj with | 0, _ => va_eqt (hs (.eq (.elem (.static "CollectionsEngine" "FIRST_GAPS_EXPIRED" "[I") (.int 0)) (.int 7)) (by decide +kernel)) | 1, _ => va_eqt (hs (.eq (.elem (.static "CollectionsEngine" "FIRST_GAPS_EXPIRED" "[I") (.int 1)) (.int 7)) (by decide +kernel)) | j + 2, h => absurd h (by omega)) hA
  obtain ⟨t2, z2, w2⟩ := va_Tof (tm := .static "CollectionsEngine" "FIRST_GAPS_BLOCKED" "[I") (ty := .int) (N := 0) (f := fun j => .int (g2 j)) (by decide) (hs (.arrayOf (.static "CollectionsEngine" "FIRST_GAPS_BLOCKED" "[I") .int) (by decide +kernel)) (va_eqt (hs (.eq (.length (.static "CollectionsEngine" "FIRST_GAPS_BLOCKED" "[I")) (.int 0)) (by decide +kernel))) (fun j hj => match j, hj with  | j + 0, h => absurd h (by omega)) hA
  obtain ⟨t3, z3, w3⟩ := va_Tof (tm := .static "CollectionsEngine" "FIRST_GAPS_ERROR" "[I") (ty := .int) (N := 4) (f := fun j => .int (g3 j)) (by decide) (hs (.arrayOf (.static "CollectionsEngine" "FIRST_GAPS_ERROR" "[I") .int) (by decide +kernel)) (va_eqt (hs (.eq (.length (.static "CollectionsEngine" "FIRST_GAPS_ERROR" "[I")) (.int 4)) (by decide +kernel))) (fun j hj => match j, hj with | 0, _ => va_eqt (hs (.eq (.elem (.static "CollectionsEngine" "FIRST_GAPS_ERROR" "[I") (.int 0)) (.int 1)) (by decide +kernel)) | 1, _ => va_eqt (hs (.eq (.elem (.static "CollectionsEngine" "FIRST_GAPS_ERROR" "[I") (.int 1)) (.int 1)) (by decide +kernel)) | 2, _ => va_eqt (hs (.eq (.elem (.static "CollectionsEngine" "FIRST_GAPS_ERROR" "[I") (.int 2)) (.int 1)) (by decide +kernel)) | 3, _ => va_eqt (hs (.eq (.elem (.static "CollectionsEngine" "FIRST_GAPS_ERROR" "[I") (.int 3)) (.int 1)) (by decide +kernel)) | j + 4, h => absurd h (by omega)) hA
  refine ⟨fun k => match k with | 0 => t0 | 1 => t1 | 2 => t2 | _ => t3, va_AO.of (hts (.arrayOver (.object RX3)) (by decide +kernel)), va_AO.of (hts (.arrayOver (.object RX0)) (by decide +kernel)), fun k hk => ?_⟩
  match k, hk with
  | 0, _ => exact ⟨va_Zof (hts (.laysStatic RX4 "FIRST_GAPS_NO_MONEY" "[I") (by decide +kernel)) (hts (.initialized RX4) (by decide +kernel)) z0 hA, w0⟩
  | 1, _ => exact ⟨va_Zof (hts (.laysStatic RX4 "FIRST_GAPS_EXPIRED" "[I") (by decide +kernel)) (hts (.initialized RX4) (by decide +kernel)) z1 hA, w1⟩
  | 2, _ => exact ⟨va_Zof (hts (.laysStatic RX4 "FIRST_GAPS_BLOCKED" "[I") (by decide +kernel)) (hts (.initialized RX4) (by decide +kernel)) z2 hA, w2⟩
  | 3, _ => exact ⟨va_Zof (hts (.laysStatic RX4 "FIRST_GAPS_ERROR" "[I") (by decide +kernel)) (hts (.initialized RX4) (by decide +kernel)) z3 hA, w3⟩
  | k + 4, h => exact absurd h (by omega)
end ENTRY
def Z0 : MS := fun _ _ => 0
/-- the law's rows when they are filled -/
abbrev S0 : MS := (mA (mA (mA (mA (mA (mA (mA (mA (mA (mA (mA (mA (mA (mA (mA (mA (mA (mA Z0 0 1 (nI 31)) 0 3 (nI 10)) 0 4 (nI 30)) 2 (6 + 0) (nI (3 + (2 * 0)))) 2 (12 + 0) (nI 7)) 2 (24 + 0) (nI 1)) 2 (6 + 1) (nI (3 + (2 * 1)))) 2 (12 + 1) (nI 7)) 2 (24 + 1) (nI 1)) 2 (6 + 2) (nI (3 + (2 * 2)))) 2 (12 + 2) (nI 7)) 2 (24 + 2) (nI 1)) 2 (6 + 3) (nI (3 + (2 * 3)))) 2 (12 + 3) (nI 7)) 2 (24 + 3) (nI 1)) 3 1 (nI 3)) 3 2 (nI 2)) 3 4 (nI 4))
set_option maxRecDepth 100000 in
set_option maxHeartbeats 4000000 in
theorem inv_0 : Rel 0 0 0 0 E0 S0 := by
  refine ⟨⟨rfl, rfl, rfl, rfl, by decide +kernel, by decide +kernel, rfl, by decide +kernel, by decide +kernel, by decide +kernel, rfl, rfl, fun t ht => absurd ht (Nat.not_lt_zero t), fun j hj => ⟨0, by decide, rfl⟩, ?_, ⟨31, by decide, by decide, by decide +kernel, by decide +kernel⟩, rfl, fun x hx => ⟨fun _ j hj => absurd hj (Nat.not_lt_zero j), fun _ => ?_⟩, fun j hj => absurd hj (Nat.not_lt_zero j), by decide, by decide⟩, fun c hc => absurd hc (Nat.not_lt_zero c), fun c _ _ => ⟨rfl, rfl, rfl, rfl, rfl, fun r hr => by rw [bv_f S0 c r hr]; rfl⟩⟩
  · refine all4 ⟨3, by decide, by decide +kernel, by decide +kernel, fun j hj => ⟨3 + 2 * j, by omega, by omega, (show ∀ j, j < 3 → E0.2.1 (20 + 0) j = nI (3 + 2 * j) by decide +kernel) j hj, (show ∀ j, j < 3 → S0 2 (6 * (0 + 1) + j) = nI (3 + 2 * j) by decide +kernel) j hj⟩⟩ ⟨2, by decide, by decide +kernel, by decide +kernel, fun j hj => ⟨7, by decide, by decide, (show ∀ j, j < 2 → E0.2.1 (20 + 1) j = nI 7 by decide +kernel) j hj, (show ∀ j, j < 2 → S0 2 (6 * (1 + 1) + j) = nI 7 by decide +kernel) j hj⟩⟩ ⟨0, by decide, by decide +kernel, by decide +kernel, fun j hj => absurd hj (Nat.not_lt_zero j)⟩ ⟨4, by decide, by decide +kernel, by decide +kernel, fun j hj => ⟨1, by decide, by decide, (show ∀ j, j < 4 → E0.2.1 (20 + 3) j = nI 1 by decide +kernel) j hj, (show ∀ j, j < 4 → S0 2 (6 * (3 + 1) + j) = nI 1 by decide +kernel) j hj⟩⟩
  · unfold dbit
    show (decide (x < 31040) && (0 : Int64).toBitVec.getLsbD (x % 64)) = false
    simp
