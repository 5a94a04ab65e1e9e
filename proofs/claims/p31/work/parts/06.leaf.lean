theorem xor_neg (x y : Int32) : (x ^^^ y).toInt < 0 ↔ ¬ (x.toInt < 0 ↔ y.toInt < 0) := by
  have h : ∀ z : Int32, z.toInt < 0 ↔ z.toBitVec.msb = true := fun z => by
    rw [BitVec.msb_eq_toInt, decide_eq_true_eq]; rfl
  rw [h, h, h, Int32.toBitVec_xor, BitVec.msb_xor]
  cases x.toBitVec.msb <;> cases y.toBitVec.msb <;> simp
theorem fmod_fmv {x m : Int32} (hm : 0 < m.toInt) : fmod x m = fmv x m := by
  have z0 : (0 : Int32).toInt = 0 := by decide
  have hx := xor_neg x m
  have hr := rem_toInt x m
  obtain ⟨b1, b2⟩ := tmod_bounds (a := x.toInt) hm
  unfold fmod fmv fmOf
  simp only [i32_le, z0, ← Int32.toInt_inj, hr]
  by_cases h : x.toInt < 0
  · have h1 : ¬ 0 ≤ (x ^^^ m).toInt := by have := hx.mpr (by omega); omega
    rw [if_neg h1]
    have h2 : x.toInt.tmod m.toInt ≤ 0 := by
      have := Int.tmod_nonneg (a := - x.toInt) m.toInt (by omega)
      rw [Int.neg_tmod] at this; omega
    by_cases h3 : x.toInt.tmod m.toInt = 0
    · rw [if_pos h3, if_pos (by omega)]
    · rw [if_neg h3, if_neg (by omega)]
  · have h1 : 0 ≤ (x ^^^ m).toInt := by
      have := fun z => hx.mp z
      omega
    have h2 := Int.tmod_nonneg (a := x.toInt) m.toInt (by omega)
    rw [if_pos h1, if_pos h2]
theorem fmod_in {x m : Int32} {k : Nat} (hm : m.toInt = k) (hk : 0 < k) : vp_in (fmod x m) k := by
  rw [fmod_fmv (by omega), vp_in_iff]
  have := fmv_bounds (a := x) (m := m) (by omega)
  omega
set_option maxRecDepth 100000 in
set_option maxHeartbeats 4000000 in
theorem c_J9_floorMod_7cf53 {l : Launch} {D : va_G} {cs : Nat → ClassId} {sa : Nat → Nat} (hl : l.stackTraces = false)  {w : va_W} {x y : Int32} (hy : ¬ y = 0) : CM l D cs sa yJ9_floorMod_7cf53 cJ9_floorMod_7cf53 3 (Option.some Jvm.ClassFile.FieldType.int) (RM 0 0 0) 0 0 [.int x, .int y] w (none, some (.int (fmod x y)), w) := by
  refine CM.ofF RJ9 hl (by decide +kernel) rfl (Nat.le_of_ble_eq_true rfl) ?_
  intro p e s m args below meth c A hc ho hmn
  refine j_iload_n hc dJ9_floorMod_7cf53_0 rfl ?_
  refine j_iload_n hc dJ9_floorMod_7cf53_1 rfl ?_
  refine j_irem hc dJ9_floorMod_7cf53_2 hy ?_
  refine j_istore_n hc dJ9_floorMod_7cf53_3 rfl ?_
  refine j_iload_n hc dJ9_floorMod_7cf53_4 rfl ?_
  refine j_iload_n hc dJ9_floorMod_7cf53_5 rfl ?_
  refine j_ixor hc dJ9_floorMod_7cf53_6 ?_
  refine j_if_ge hc 18 dJ9_floorMod_7cf53_7 (by decide) (fun h7 => ?_) (fun h7 => ?_)
  · -- if_pos h7
    refine j_iload_n hc dJ9_floorMod_7cf53_18 rfl ?_
    exact j_iret hc rfl (by decide) (by decide) (by simp only [fmod, if_pos h7] <;> rfl) dJ9_floorMod_7cf53_19
  · -- if_neg h7
    refine j_iload_n hc dJ9_floorMod_7cf53_10 rfl ?_
    refine j_if_eq hc 18 dJ9_floorMod_7cf53_11 (by decide) (fun h11 => ?_) (fun h11 => ?_)
    · -- if_pos h11
      refine j_iload_n hc dJ9_floorMod_7cf53_18 rfl ?_
      exact j_iret hc rfl (by decide) (by decide) (by simp only [fmod, if_neg h7, if_pos h11] <;> rfl) dJ9_floorMod_7cf53_19
    · -- if_neg h11
      refine j_iload_n hc dJ9_floorMod_7cf53_14 rfl ?_
      refine j_iload_n hc dJ9_floorMod_7cf53_15 rfl ?_
      refine j_iadd hc dJ9_floorMod_7cf53_16 ?_
      exact j_iret hc rfl (by decide) (by decide) (by simp only [fmod, if_neg h7, if_neg h11] <;> rfl) dJ9_floorMod_7cf53_17
set_option maxRecDepth 100000 in
set_option maxHeartbeats 4000000 in
theorem c_X1_weekdaysWith {l : Launch} {D : va_G} {cs : Nat → ClassId} {sa : Nat → Nat} (hl : l.stackTraces = false)  {ad : Nat → Nat} {n : Nat} {E : ES} {S : MS} {o : Nat → Int64} {k f : Int32} : CM l D cs sa yX1_weekdaysWith cX1_weekdaysWith 4 (Option.some Jvm.ClassFile.FieldType.int) (RM 0 0 0) 0 0 [.ref (ad 1), .int k, .int f] (WD ad cs n E S o) (none, some (.int (e_ww E k f)), (WD ad cs n E S o)) := by
  refine CM.of RX1 hl (by decide +kernel) rfl (Nat.le_of_ble_eq_true rfl) ?_
  intro p e s m args below meth c A hc ho hmn
  refine j_iconst hc (v := 1) dX1_weekdaysWith_0 (by decide) ?_
  refine j_iload_n hc dX1_weekdaysWith_1 rfl ?_
  refine j_ishl hc dX1_weekdaysWith_2 ?_
  refine j_istore_n hc dX1_weekdaysWith_3 rfl ?_
  refine j_iload_n hc dX1_weekdaysWith_4 rfl ?_
  refine j_if_eq hc 17 dX1_weekdaysWith_5 (by decide) (fun h5 => ?_) (fun h5 => ?_)
  · -- if_pos h5
    refine j_aload_n hc dX1_weekdaysWith_17 rfl ?_
    refine gf_X1_9 hc dX1_weekdaysWith_18 ?_
    refine j_iload_n hc dX1_weekdaysWith_21 rfl ?_
    refine j_iconst hc (v := -1) dX1_weekdaysWith_22 (by decide) ?_
    refine j_ixor hc dX1_weekdaysWith_23 ?_
    refine j_iand hc dX1_weekdaysWith_24 ?_
    exact j_iret hc rfl (by decide) (by decide) (by simp only [e_ww, if_pos h5] <;> rfl) dX1_weekdaysWith_25
  · -- if_neg h5
    refine j_aload_n hc dX1_weekdaysWith_8 rfl ?_
    refine gf_X1_9 hc dX1_weekdaysWith_9 ?_
    refine j_iload_n hc dX1_weekdaysWith_12 rfl ?_
    refine j_ior hc dX1_weekdaysWith_13 ?_
    refine j_goto hc 25 dX1_weekdaysWith_14 (by decide) ?_
    exact j_iret hc rfl (by decide) (by decide) (by simp only [e_ww, if_neg h5] <;> rfl) dX1_weekdaysWith_25
set_option maxRecDepth 100000 in
set_option maxHeartbeats 4000000 in
theorem c_X1_isHoliday {l : Launch} {D : va_G} {cs : Nat → ClassId} {sa : Nat → Nat} (hl : l.stackTraces = false)  {ad : Nat → Nat} {n : Nat} {E : ES} {S : MS} {o : Nat → Int64} {d : Int32} : CM l D cs sa yX1_isHoliday cX1_isHoliday 3 (Option.some Jvm.ClassFile.FieldType.boolean) (RM 0 0 0) 0 0 [.ref (ad 1), .int d] (WD ad cs n E S o) (none, some (.int (e_hol E d)), (WD ad cs n E S o)) := by
  refine CM.of RX1 hl (by decide +kernel) rfl (Nat.le_of_ble_eq_true rfl) ?_
  intro p e s m args below meth c A hc ho hmn
  refine j_iload_n hc dX1_isHoliday_0 rfl ?_
  refine j_bipush hc (v := 6) dX1_isHoliday_1 (by decide) ?_
  refine j_ishr hc dX1_isHoliday_3 ?_
  refine j_istore_n hc dX1_isHoliday_4 rfl ?_
  refine j_iload_n hc dX1_isHoliday_5 rfl ?_
  refine j_if_lt hc 40 dX1_isHoliday_6 (by decide) (fun h6 => ?_) (fun h6 => ?_)
  · -- if_pos h6
    refine j_iconst hc (v := 0) dX1_isHoliday_40 (by decide) ?_
    exact j_zret hc rfl rfl (by decide) (by decide) (by simp only [e_hol, if_pos h6] <;> rfl) dX1_isHoliday_41
  · -- if_neg h6
    refine j_iload_n hc dX1_isHoliday_9 rfl ?_
    refine j_aload_n hc dX1_isHoliday_10 rfl ?_
    refine gf_X1_13 hc dX1_isHoliday_11 ?_
    refine ln_hol hc dX1_isHoliday_14 ?_
    refine j_icmp_ge hc 40 dX1_isHoliday_15 (by decide) (fun h15 => ?_) (fun h15 => ?_)
    · -- if_pos h15
      refine j_iconst hc (v := 0) dX1_isHoliday_40 (by decide) ?_
      exact j_zret hc rfl rfl (by decide) (by decide) (by simp only [e_hol, if_neg h6, if_pos h15] <;> rfl) dX1_isHoliday_41
    · -- if_neg h15
      refine j_aload_n hc dX1_isHoliday_18 rfl ?_
      refine gf_X1_13 hc dX1_isHoliday_19 ?_
      refine j_iload_n hc dX1_isHoliday_22 rfl ?_
      refine al_hol hc (vpi (n := 485) h6 h15 (by decide)) dX1_isHoliday_23 ?_
      refine j_iload_n hc dX1_isHoliday_24 rfl ?_
      refine j_bipush hc (v := 63) dX1_isHoliday_25 (by decide) ?_
      refine j_iand hc dX1_isHoliday_27 ?_
      refine j_lushr hc dX1_isHoliday_28 ?_
      refine j_lconst hc (v := 1) dX1_isHoliday_29 (by decide) ?_
      refine j_land hc dX1_isHoliday_30 ?_
      refine j_lconst hc (v := 1) dX1_isHoliday_31 (by decide) ?_
      refine j_lcmp hc dX1_isHoliday_32 ?_
      refine j_if_ne hc 40 dX1_isHoliday_33 (by decide) (fun h33 => ?_) (fun h33 => ?_)
      · -- if_neg h33
        refine j_iconst hc (v := 0) dX1_isHoliday_40 (by decide) ?_
        exact j_zret hc rfl rfl (by decide) (by decide) (by simp only [e_hol, if_neg h6, if_neg h15, if_neg h33] <;> rfl) dX1_isHoliday_41
      · -- if_pos h33
        refine j_iconst hc (v := 1) dX1_isHoliday_36 (by decide) ?_
        refine j_goto hc 41 dX1_isHoliday_37 (by decide) ?_
        exact j_zret hc rfl rfl (by decide) (by decide) (by simp only [e_hol, if_neg h6, if_neg h15, if_pos h33] <;> rfl) dX1_isHoliday_41
set_option maxRecDepth 100000 in
set_option maxHeartbeats 4000000 in
theorem c_X1_keepHoliday {l : Launch} {D : va_G} {cs : Nat → ClassId} {sa : Nat → Nat} (hl : l.stackTraces = false)  {ad : Nat → Nat} {n : Nat} {E : ES} {S : MS} {o : Nat → Int64} {d : Int32} : CM l D cs sa yX1_keepHoliday cX1_keepHoliday 3 (Option.none : Option Jvm.ClassFile.FieldType) (RM 0 0 0) 0 0 [.ref (ad 1), .int d] (WD ad cs n E S o) (none, none, WD ad cs n (e_khol E d) S o) := by
  refine CM.of RX1 hl (by decide +kernel) rfl (Nat.le_of_ble_eq_true rfl) ?_
  intro p e s m args below meth c A hc ho hmn
  refine j_iload_n hc dX1_keepHoliday_0 rfl ?_
  refine j_bipush hc (v := 6) dX1_keepHoliday_1 (by decide) ?_
  refine j_ishr hc dX1_keepHoliday_3 ?_
  refine j_istore_n hc dX1_keepHoliday_4 rfl ?_
  refine j_iload_n hc dX1_keepHoliday_5 rfl ?_
  refine j_if_lt hc 33 dX1_keepHoliday_6 (by decide) (fun h6 => ?_) (fun h6 => ?_)
  · -- if_pos h6
    exact j_vret hc rfl (by decide) (by decide) (by simp only [e_khol, if_pos h6] <;> rfl) dX1_keepHoliday_33
  · -- if_neg h6
    refine j_iload_n hc dX1_keepHoliday_9 rfl ?_
    refine j_aload_n hc dX1_keepHoliday_10 rfl ?_
    refine gf_X1_13 hc dX1_keepHoliday_11 ?_
    refine ln_hol hc dX1_keepHoliday_14 ?_
    refine j_icmp_ge hc 33 dX1_keepHoliday_15 (by decide) (fun h15 => ?_) (fun h15 => ?_)
    · -- if_pos h15
      exact j_vret hc rfl (by decide) (by decide) (by simp only [e_khol, if_neg h6, if_pos h15] <;> rfl) dX1_keepHoliday_33
    · -- if_neg h15
      refine j_aload_n hc dX1_keepHoliday_18 rfl ?_
      refine gf_X1_13 hc dX1_keepHoliday_19 ?_
      refine j_iload_n hc dX1_keepHoliday_22 rfl ?_
      refine j_dup2 hc dX1_keepHoliday_23 rfl rfl ?_
      refine al_hol hc (vpi (n := 485) h6 h15 (by decide)) dX1_keepHoliday_24 ?_
      refine j_lconst hc (v := 1) dX1_keepHoliday_25 (by decide) ?_
      refine j_iload_n hc dX1_keepHoliday_26 rfl ?_
      refine j_bipush hc (v := 63) dX1_keepHoliday_27 (by decide) ?_
      refine j_iand hc dX1_keepHoliday_29 ?_
      refine j_lshl hc dX1_keepHoliday_30 ?_
      refine j_lor hc dX1_keepHoliday_31 ?_
      refine as_hol hc (vpi (n := 485) h6 h15 (by decide)) dX1_keepHoliday_32 ?_
      exact j_vret hc rfl (by decide) (by decide) (by simp only [e_khol, if_neg h6, if_neg h15] <;> rfl) dX1_keepHoliday_33
set_option maxRecDepth 100000 in
set_option maxHeartbeats 4000000 in
theorem c_X1_allowsCharging {l : Launch} {D : va_G} {cs : Nat → ClassId} {sa : Nat → Nat} (hl : l.stackTraces = false)  {ad : Nat → Nat} {n : Nat} {E : ES} {S : MS} {o : Nat → Int64} {d : Int32} : CM l D cs sa yX1_allowsCharging cX1_allowsCharging 3 (Option.some Jvm.ClassFile.FieldType.boolean) (RM 1 0 0) 0 0 [.ref (ad 1), .int d] (WD ad cs n E S o) (none, some (.int (e_chg E d)), (WD ad cs n E S o)) := by
  refine CM.of RX1 hl (by decide +kernel) rfl (Nat.le_of_ble_eq_true rfl) ?_
  intro p e s m args below meth c A hc ho hmn
  refine j_iconst hc (v := 1) dX1_allowsCharging_0 (by decide) ?_
  refine j_iload_n hc dX1_allowsCharging_1 rfl ?_
  refine j_bipush hc (v := 7) dX1_allowsCharging_2 (by decide) ?_
  refine j_callS hc ho (c_J9_floorMod_7cf53 (y := 7) hl (by decide)) sc_X1_17 rfl ⟨rfl, rfl, by decide, by decide⟩ rfl (Nat.le_of_ble_eq_true rfl) ⟨by decide, by decide⟩ dX1_allowsCharging_4 ⟨by decide, by decide⟩ (fun _ h => by cases h) (fun hr4 => ?_)
  refine j_ishl hc dX1_allowsCharging_7 ?_
  refine j_istore_n hc dX1_allowsCharging_8 rfl ?_
  refine j_aload_n hc dX1_allowsCharging_9 rfl ?_
  refine gf_X1_9 hc dX1_allowsCharging_10 ?_
  refine j_iload_n hc dX1_allowsCharging_13 rfl ?_
  refine j_iand hc dX1_allowsCharging_14 ?_
  refine j_if_eq hc 30 dX1_allowsCharging_15 (by decide) (fun h15 => ?_) (fun h15 => ?_)
  · -- if_pos h15
    refine j_iconst hc (v := 0) dX1_allowsCharging_30 (by decide) ?_
    exact j_zret hc rfl rfl (by decide) (by decide) (by simp only [e_chg, if_pos h15] <;> rfl) dX1_allowsCharging_31
  · -- if_neg h15
    refine j_aload_n hc dX1_allowsCharging_18 rfl ?_
    refine j_iload_n hc dX1_allowsCharging_19 rfl ?_
    refine j_callV hc ho (c_X1_isHoliday hl) vc_X1_23 rfl ⟨rfl, rfl, by decide, by decide⟩ 1 rfl rfl rfl (Nat.le_of_ble_eq_true rfl) ⟨by decide, by decide⟩ dX1_allowsCharging_20 ⟨by decide, by decide⟩ (fun _ h => by cases h) (fun hr20 => ?_)
    refine j_if_ne hc 30 dX1_allowsCharging_23 (by decide) (fun h23 => ?_) (fun h23 => ?_)
    · -- if_neg h23
      refine j_iconst hc (v := 0) dX1_allowsCharging_30 (by decide) ?_
      exact j_zret hc rfl rfl (by decide) (by decide) (by simp only [e_chg, if_neg h15, if_neg h23] <;> rfl) dX1_allowsCharging_31
    · -- if_pos h23
      refine j_iconst hc (v := 1) dX1_allowsCharging_26 (by decide) ?_
      refine j_goto hc 31 dX1_allowsCharging_27 (by decide) ?_
      exact j_zret hc rfl rfl (by decide) (by decide) (by simp only [e_chg, if_neg h15, if_pos h23] <;> rfl) dX1_allowsCharging_31
set_option maxRecDepth 100000 in
set_option maxHeartbeats 4000000 in
theorem c_X1_firstChargingFrom {l : Launch} {D : va_G} {cs : Nat → ClassId} {sa : Nat → Nat} (hl : l.stackTraces = false)  {ad : Nat → Nat} {n : Nat} {E : ES} {S : MS} {o : Nat → Int64} {d : Int32} : CM l D cs sa yX1_firstChargingFrom cX1_firstChargingFrom 4 (Option.some Jvm.ClassFile.FieldType.int) (RM 2 0 0) 0 0 [.ref (ad 1), .int d] (WD ad cs n E S o) (none, some (.int (e_fcf E 1000 d)), (WD ad cs n E S o)) := by
  refine CM.of RX1 hl (by decide +kernel) rfl (Nat.le_of_ble_eq_true rfl) ?_
  intro p e s m args below meth c A hc ho hmn
  have loop : ∀ (k i : Nat) (d0 : Int32), i + k = 1000 → e_fcf E 1000 d = e_fcf E k d0 → J p l e (RM 2 0 0) s m args below meth c D A 4 0 0 (QE below args s D A 0 0 (WD ad cs n E S o) (none, some (.int (e_fcf E 1000 d)), WD ad cs n E S o)) (WD ad cs n E S o) 4 [(0, .ref (ad 1)), (2, .int d0), (3, .int (nI i))] [] := by
    intro k
    induction k with
    | zero =>
      intro i d0 hi hd
      refine j_iload_n hc dX1_firstChargingFrom_4 rfl ?_
      refine j_sipush hc (v := 1000) dX1_firstChargingFrom_5 (by decide) ?_
      refine j_icmp_ge hc 28 dX1_firstChargingFrom_8 (by decide) (fun h8 => ?_) (fun h8 => by exact absurd h8 (fun z => z (nI_le (a := 1000) (by omega) (by omega))))
      refine j_iload_n hc dX1_firstChargingFrom_28 rfl ?_
      exact j_iret hc rfl (by decide) (by decide) (by rw [hd]; rfl) dX1_firstChargingFrom_29
    | succ k ih =>
      intro i d0 hi hd
      refine j_iload_n hc dX1_firstChargingFrom_4 rfl ?_
      refine j_sipush hc (v := 1000) dX1_firstChargingFrom_5 (by decide) ?_
      refine j_icmp_ge hc 28 dX1_firstChargingFrom_8 (by decide) (fun h8 => by exact absurd h8 (nI_ge (b := 1000) (by omega) (by omega))) (fun h8 => ?_)
      refine j_aload_n hc dX1_firstChargingFrom_11 rfl ?_
      refine j_iload_n hc dX1_firstChargingFrom_12 rfl ?_
      refine j_callV hc ho (c_X1_allowsCharging hl) vc_X1_27 rfl ⟨rfl, rfl, by decide, by decide⟩ 1 rfl rfl rfl (Nat.le_of_ble_eq_true rfl) ⟨by decide, by decide⟩ dX1_firstChargingFrom_13 ⟨by decide, by decide⟩ (fun _ h => by cases h) (fun hr13 => ?_)
      refine j_if_ne hc 28 dX1_firstChargingFrom_16 (by decide) (fun h16 => ?_) (fun h16 => ?_)
      · -- if_neg h16
        refine j_iload_n hc dX1_firstChargingFrom_28 rfl ?_
        exact j_iret hc rfl (by decide) (by decide) (by rw [hd]; simp only [e_fcf, if_neg h8, if_neg h16]) dX1_firstChargingFrom_29
      · -- if_pos h16
        refine j_inc hc dX1_firstChargingFrom_19 rfl (z := 1) (by decide) rfl ?_
        refine j_inc hc dX1_firstChargingFrom_22 rfl (z := 1) (by decide) rfl ?_
        refine j_goto hc 4 dX1_firstChargingFrom_25 (by decide) ?_
        refine j_lv [(0, .ref (ad 1)), (2, .int (d0 + 1)), (3, .int (nI i + 1))] ⟨rfl, rfl, rfl, trivial⟩ ?_
        rw [nI_1]
        exact ih (i + 1) (d0 + 1) (by omega) (by rw [hd]; simp only [e_fcf, if_neg h8, if_pos h16])
  refine j_iload_n hc dX1_firstChargingFrom_0 rfl ?_
  refine j_istore_n hc dX1_firstChargingFrom_1 rfl ?_
  refine j_iconst hc (v := 0) dX1_firstChargingFrom_2 (by decide) ?_
  refine j_istore_n hc dX1_firstChargingFrom_3 rfl ?_
  refine j_lv [(0, .ref (ad 1)), (2, .int d), (3, .int (nI 0))] ⟨rfl, rfl, rfl, trivial⟩ ?_
  exact loop 1000 0 d rfl rfl
set_option maxRecDepth 100000 in
set_option maxHeartbeats 4000000 in
theorem c_X2_add {l : Launch} {D : va_G} {cs : Nat → ClassId} {sa : Nat → Nat} (hl : l.stackTraces = false)  {ad : Nat → Nat} {n : Nat} {E : ES} {S : MS} {o : Nat → Int64} {d b s0 : Int32} : CM l D cs sa yX2_add cX2_add 4 (Option.none : Option Jvm.ClassFile.FieldType) (RM 1 0 0) 0 0 [.ref (ad 13), .int d, .int b, .int s0] (WD ad cs n E S o) (none, none, WD ad cs n (e_add E d b s0) S o) := by
  refine CM.of RX2 hl (by decide +kernel) rfl (Nat.le_of_ble_eq_true rfl) ?_
  intro p e s m args below meth c A hc ho hmn
  refine j_aload_n hc dX2_add_0 rfl ?_
  refine gf_X2_9 hc dX2_add_1 ?_
  refine j_aload_n hc dX2_add_4 rfl ?_
  refine gf_X2_15 hc dX2_add_5 ?_
  refine j_sipush hc (v := 400) dX2_add_8 (by decide) ?_
  refine j_callS hc ho (c_J9_floorMod_7cf53 (y := 400) hl (by decide)) sc_X2_19 rfl ⟨rfl, rfl, by decide, by decide⟩ rfl (Nat.le_of_ble_eq_true rfl) ⟨by decide, by decide⟩ dX2_add_11 ⟨by decide, by decide⟩ (fun _ h => by cases h) (fun hr11 => ?_)
  refine j_sipush hc (v := 1000) dX2_add_14 (by decide) ?_
  refine j_iload_n hc dX2_add_17 rfl ?_
  refine j_imul hc dX2_add_18 ?_
  refine j_bipush hc (v := 10) dX2_add_19 (by decide) ?_
  refine j_iload_n hc dX2_add_21 rfl ?_
  refine j_imul hc dX2_add_22 ?_
  refine j_iadd hc dX2_add_23 ?_
  refine j_iload_n hc dX2_add_24 rfl ?_
  refine j_iadd hc dX2_add_25 ?_
  refine as_codes hc (fmod_in (by decide) (by decide)) dX2_add_26 ?_
  refine j_aload_n hc dX2_add_27 rfl ?_
  refine j_dup hc dX2_add_28 rfl ?_
  refine gf_X2_15 hc dX2_add_29 ?_
  refine j_iconst hc (v := 1) dX2_add_32 (by decide) ?_
  refine j_iadd hc dX2_add_33 ?_
  refine pf_X2_15 hc dX2_add_34 ?_
  exact j_vret hc rfl (by decide) (by decide) (rfl) dX2_add_37
set_option maxRecDepth 100000 in
set_option maxHeartbeats 4000000 in
theorem c_X2_told {l : Launch} {D : va_G} {cs : Nat → ClassId} {sa : Nat → Nat} (hl : l.stackTraces = false)  {ad : Nat → Nat} {n : Nat} {E : ES} {S : MS} {o : Nat → Int64} : CM l D cs sa yX2_told cX2_told 1 (Option.some Jvm.ClassFile.FieldType.int) (RM 1 0 0) 0 0 [.ref (ad 13)] (WD ad cs n E S o) (none, some (.int (e_told E)), (WD ad cs n E S o)) := by
  refine CM.of RX2 hl (by decide +kernel) rfl (Nat.le_of_ble_eq_true rfl) ?_
  intro p e s m args below meth c A hc ho hmn
  refine j_aload_n hc dX2_told_0 rfl ?_
  refine gf_X2_15 hc dX2_told_1 ?_
  refine j_sipush hc (v := 400) dX2_told_4 (by decide) ?_
  refine j_min_X2_25 hc (by decide) (Nat.le_of_ble_eq_true rfl) (by decide) (by decide) dX2_told_7 ?_
  exact j_iret hc rfl (by decide) (by decide) rfl dX2_told_10
set_option maxRecDepth 100000 in
set_option maxHeartbeats 4000000 in
theorem c_X2_codeAt {l : Launch} {D : va_G} {cs : Nat → ClassId} {sa : Nat → Nat} (hl : l.stackTraces = false)  {ad : Nat → Nat} {n : Nat} {E : ES} {S : MS} {o : Nat → Int64} {k : Int32} : CM l D cs sa yX2_codeAt cX2_codeAt 2 (Option.some Jvm.ClassFile.FieldType.int) (RM 1 0 0) 0 0 [.ref (ad 13), .int k] (WD ad cs n E S o) (none, some (.int (e_cda E k)), (WD ad cs n E S o)) := by
  refine CM.of RX2 hl (by decide +kernel) rfl (Nat.le_of_ble_eq_true rfl) ?_
  intro p e s m args below meth c A hc ho hmn
  refine j_aload_n hc dX2_codeAt_0 rfl ?_
  refine gf_X2_9 hc dX2_codeAt_1 ?_
  refine j_aload_n hc dX2_codeAt_4 rfl ?_
  refine gf_X2_15 hc dX2_codeAt_5 ?_
  refine j_iconst hc (v := 1) dX2_codeAt_8 (by decide) ?_
  refine j_isub hc dX2_codeAt_9 ?_
  refine j_iload_n hc dX2_codeAt_10 rfl ?_
  refine j_isub hc dX2_codeAt_11 ?_
  refine j_sipush hc (v := 400) dX2_codeAt_12 (by decide) ?_
  refine j_callS hc ho (c_J9_floorMod_7cf53 (y := 400) hl (by decide)) sc_X2_19 rfl ⟨rfl, rfl, by decide, by decide⟩ rfl (Nat.le_of_ble_eq_true rfl) ⟨by decide, by decide⟩ dX2_codeAt_15 ⟨by decide, by decide⟩ (fun _ h => by cases h) (fun hr15 => ?_)
  refine al_codes hc (fmod_in (by decide) (by decide)) dX2_codeAt_18 ?_
  exact j_iret hc rfl (by decide) (by decide) (rfl) dX2_codeAt_19
set_option maxRecDepth 100000 in
set_option maxHeartbeats 4000000 in
theorem c_X2_lastStateOf {l : Launch} {D : va_G} {cs : Nat → ClassId} {sa : Nat → Nat} (hl : l.stackTraces = false)  {ad : Nat → Nat} {n : Nat} {E : ES} {S : MS} {o : Nat → Int64} {b d : Int32} (hE : 0 ≤ (e_told E).toInt) : CM l D cs sa yX2_lastStateOf cX2_lastStateOf 7 (Option.some Jvm.ClassFile.FieldType.int) (RM 2 0 0) 0 0 [.ref (ad 13), .int b, .int d] (WD ad cs n E S o) (none, some (.int (e_lso E b d (e_told E).toNatClampNeg 0)), WD ad cs n E S o) := by
  refine CM.of RX2 hl (by decide +kernel) rfl (Nat.le_of_ble_eq_true rfl) ?_
  intro p e s m args below meth c A hc ho hmn
  have loop : ∀ (k : Nat) (i : Int32), 0 ≤ i.toInt → i.toInt + k = (e_told E).toInt → e_lso E b d (e_told E).toNatClampNeg 0 = e_lso E b d k i → J p l e (RM 2 0 0) s m args below meth c D A 7 0 0 (QE below args s D A 0 0 (WD ad cs n E S o) (none, some (.int (e_lso E b d (e_told E).toNatClampNeg 0)), WD ad cs n E S o)) (WD ad cs n E S o) 8 [(0, .ref (ad 13)), (1, .int b), (2, .int d), (3, .int (e_told E)), (4, .int i)] [] := by
    intro k
    induction k with
    | zero =>
      intro i h0 hi hd
      refine j_iload hc dX2_lastStateOf_8 rfl ?_
      refine j_iload_n hc dX2_lastStateOf_10 rfl ?_
      refine j_icmp_ge hc 69 dX2_lastStateOf_11 (by decide) (fun h11 => ?_) (fun h11 => by exact absurd h11 (fun z => z (by rw [i32_le]; omega)))
      refine j_iconst hc (v := -1) dX2_lastStateOf_69 (by decide) ?_
      exact j_iret hc rfl (by decide) (by decide) (by rw [hd]; rfl) dX2_lastStateOf_70
    | succ k ih =>
      intro i h0 hi hd
      have hb := i32_b (e_told E)
      have hi1 : (i + 1).toInt = i.toInt + 1 := i32_inc (by omega)
      refine j_iload hc dX2_lastStateOf_8 rfl ?_
      refine j_iload_n hc dX2_lastStateOf_10 rfl ?_
      refine j_icmp_ge hc 69 dX2_lastStateOf_11 (by decide) (fun h11 => by exact absurd h11 (by rw [i32_le]; omega)) (fun h11 => ?_)
      refine j_aload_n hc dX2_lastStateOf_14 rfl ?_
      refine j_iload hc dX2_lastStateOf_15 rfl ?_
      refine j_callV hc ho (c_X2_codeAt hl) vc_X2_32 rfl ⟨rfl, rfl, by decide, by decide⟩ 13 rfl rfl rfl (Nat.le_of_ble_eq_true rfl) ⟨by decide, by decide⟩ dX2_lastStateOf_17 ⟨by decide, by decide⟩ (fun _ h => by cases h) (fun hr17 => ?_)
      refine j_istore hc dX2_lastStateOf_20 rfl ?_
      refine j_iload hc dX2_lastStateOf_22 rfl ?_
      refine j_sipush hc (v := 1000) dX2_lastStateOf_24 (by decide) ?_
      refine j_irem hc dX2_lastStateOf_27 (by decide) ?_
      refine j_bipush hc (v := 10) dX2_lastStateOf_28 (by decide) ?_
      refine j_idiv hc dX2_lastStateOf_30 (by decide) ?_
      refine j_iload_n hc dX2_lastStateOf_31 rfl ?_
      refine j_icmp_ne hc 39 dX2_lastStateOf_32 (by decide) (fun h32 => ?_) (fun h32 => ?_)
      · -- if_neg h32
        refine j_iconst hc (v := 0) dX2_lastStateOf_39 (by decide) ?_
        refine j_istore hc dX2_lastStateOf_40 rfl ?_
        refine j_iload hc dX2_lastStateOf_42 rfl ?_
        refine j_if_eq hc 63 dX2_lastStateOf_44 (by decide) (fun h44 => ?_) (fun h44 => by exact absurd (show ¬ (0 : Int32) = (0 : Int32) from h44) (by decide))
        refine j_inc hc dX2_lastStateOf_63 rfl (z := 1) (by decide) rfl ?_
        refine j_goto hc 8 dX2_lastStateOf_66 (by decide) ?_
        refine j_lv [(0, .ref (ad 13)), (1, .int b), (2, .int d), (3, .int (e_told E)), (4, .int (i + 1))] ⟨rfl, rfl, rfl, rfl, rfl, trivial⟩ ?_
        exact ih (i + 1) (by omega) (by omega) (by rw [hd]; simp only [e_lso, if_neg h11, if_neg h32])
      · -- if_pos h32
        refine j_iconst hc (v := 1) dX2_lastStateOf_35 (by decide) ?_
        refine j_goto hc 40 dX2_lastStateOf_36 (by decide) ?_
        refine j_istore hc dX2_lastStateOf_40 rfl ?_
        refine j_iload hc dX2_lastStateOf_42 rfl ?_
        refine j_if_eq hc 63 dX2_lastStateOf_44 (by decide) (fun h44 => by exact absurd (show (1 : Int32) = (0 : Int32) from h44) (by decide)) (fun h44 => ?_)
        refine j_iload hc dX2_lastStateOf_47 rfl ?_
        refine j_sipush hc (v := 1000) dX2_lastStateOf_49 (by decide) ?_
        refine j_idiv hc dX2_lastStateOf_52 (by decide) ?_
        refine j_iload_n hc dX2_lastStateOf_53 rfl ?_
        refine j_icmp_gt hc 63 dX2_lastStateOf_54 (by decide) (fun h54 => ?_) (fun h54 => ?_)
        · -- if_pos h54
          refine j_inc hc dX2_lastStateOf_63 rfl (z := 1) (by decide) rfl ?_
          refine j_goto hc 8 dX2_lastStateOf_66 (by decide) ?_
          refine j_lv [(0, .ref (ad 13)), (1, .int b), (2, .int d), (3, .int (e_told E)), (4, .int (i + 1))] ⟨rfl, rfl, rfl, rfl, rfl, trivial⟩ ?_
          exact ih (i + 1) (by omega) (by omega) (by rw [hd]; simp only [e_lso, if_neg h11, if_pos h32, if_pos h54])
        · -- if_neg h54
          refine j_iload hc dX2_lastStateOf_57 rfl ?_
          refine j_bipush hc (v := 10) dX2_lastStateOf_59 (by decide) ?_
          refine j_irem hc dX2_lastStateOf_61 (by decide) ?_
          exact j_iret hc rfl (by decide) (by decide) (by rw [hd]; simp only [e_lso, if_neg h11, if_pos h32, if_neg h54]) dX2_lastStateOf_62
  refine j_aload_n hc dX2_lastStateOf_0 rfl ?_
  refine j_callV hc ho (c_X2_told hl) vc_X2_28 rfl ⟨rfl, rfl, by decide, by decide⟩ 13 rfl rfl rfl (Nat.le_of_ble_eq_true rfl) ⟨by decide, by decide⟩ dX2_lastStateOf_1 ⟨by decide, by decide⟩ (fun _ h => by cases h) (fun hr1 => ?_)
  refine j_istore_n hc dX2_lastStateOf_4 rfl ?_
  refine j_iconst hc (v := 0) dX2_lastStateOf_5 (by decide) ?_
  refine j_istore hc dX2_lastStateOf_6 rfl ?_
  refine j_lv [(0, .ref (ad 13)), (1, .int b), (2, .int d), (3, .int (e_told E)), (4, .int 0)] ⟨rfl, rfl, rfl, rfl, rfl, trivial⟩ ?_
  exact loop (e_told E).toNatClampNeg 0 (by decide) (by rw [show (0 : Int32).toInt = 0 by decide]; show 0 + ((e_told E).toInt.toNat : Int) = _; omega) rfl
set_option maxRecDepth 100000 in
set_option maxHeartbeats 4000000 in
theorem c_X3_append {l : Launch} {D : va_G} {cs : Nat → ClassId} {sa : Nat → Nat} (hl : l.stackTraces = false)  {ad : Nat → Nat} {n : Nat} {E : ES} {S : MS} {o : Nat → Int64} {i : Nat} (hi : i < 4) {v : Int32} : CM l D cs sa yX3_append cX3_append 2 (Option.none : Option Jvm.ClassFile.FieldType) (RM 0 0 0) 0 0 [.ref (ad (4 + 2 * i)), .int v] (WD ad cs n E S o) (none, none, WD ad cs n (e_app E i v) S o) := by
  refine CM.of RX3 hl (by decide +kernel) rfl (Nat.le_of_ble_eq_true rfl) ?_
  intro p e s m args below meth c A hc ho hmn
  refine j_aload_n hc dX3_append_0 rfl ?_
  refine gf_X3_15 hc hi dX3_append_1 ?_
  refine j_if_lt hc 39 dX3_append_4 (by decide) (fun h4 => ?_) (fun h4 => ?_)
  · -- if_pos h4
    exact j_vret hc rfl (by decide) (by decide) (by simp only [e_app, if_pos h4] <;> rfl) dX3_append_39
  · -- if_neg h4
    refine j_aload_n hc dX3_append_7 rfl ?_
    refine gf_X3_15 hc hi dX3_append_8 ?_
    refine j_aload_n hc dX3_append_11 rfl ?_
    refine gf_X3_9 hc hi dX3_append_12 ?_
    refine ln_gap hc hi dX3_append_15 ?_
    refine j_icmp_ge hc 39 dX3_append_16 (by decide) (fun h16 => ?_) (fun h16 => ?_)
    · -- if_pos h16
      exact j_vret hc rfl (by decide) (by decide) (by simp only [e_app, if_neg h4, if_pos h16] <;> rfl) dX3_append_39
    · -- if_neg h16
      refine j_aload_n hc dX3_append_19 rfl ?_
      refine gf_X3_9 hc hi dX3_append_20 ?_
      refine j_aload_n hc dX3_append_23 rfl ?_
      refine gf_X3_15 hc hi dX3_append_24 ?_
      refine j_iload_n hc dX3_append_27 rfl ?_
      refine as_gap hc hi (vpi (n := 6) h4 h16 (by decide)) dX3_append_28 ?_
      refine j_aload_n hc dX3_append_29 rfl ?_
      refine j_dup hc dX3_append_30 rfl ?_
      refine gf_X3_15 hc hi dX3_append_31 ?_
      refine j_iconst hc (v := 1) dX3_append_34 (by decide) ?_
      refine j_iadd hc dX3_append_35 ?_
      refine pf_X3_15 hc hi dX3_append_36 ?_
      exact j_vret hc rfl (by decide) (by decide) (by simp only [e_app, if_neg h4, if_neg h16] <;> rfl) dX3_append_39
theorem vdb {k : Int32} (h1 : ¬ k < 1) (h2 : ¬ 6 < k) : vp_in (k - 1) 6 := by
  rw [i32_lt] at h1 h2
  have e1 : (1 : Int32).toInt = 1 := by decide
  have e6 : (6 : Int32).toInt = 6 := by decide
  rw [vp_in_iff, i32_sub (by omega) (by omega)]
  omega
set_option maxRecDepth 100000 in
set_option maxHeartbeats 4000000 in
theorem c_X3_daysBehind {l : Launch} {D : va_G} {cs : Nat → ClassId} {sa : Nat → Nat} (hl : l.stackTraces = false)  {ad : Nat → Nat} {n : Nat} {E : ES} {S : MS} {o : Nat → Int64} {i : Nat} (hi : i < 4) {k : Int32} : CM l D cs sa yX3_daysBehind cX3_daysBehind 3 (Option.some Jvm.ClassFile.FieldType.int) (RM 0 0 0) 0 0 [.ref (ad (4 + 2 * i)), .int k] (WD ad cs n E S o) (none, some (.int (e_db E i k)), (WD ad cs n E S o)) := by
  refine CM.of RX3 hl (by decide +kernel) rfl (Nat.le_of_ble_eq_true rfl) ?_
  intro p e s m args below meth c A hc ho hmn
  refine j_iload_n hc dX3_daysBehind_0 rfl ?_
  refine j_iconst hc (v := 1) dX3_daysBehind_1 (by decide) ?_
  refine j_icmp_lt hc 26 dX3_daysBehind_2 (by decide) (fun h2 => ?_) (fun h2 => ?_)
  · -- if_pos h2
    refine j_iconst hc (v := 0) dX3_daysBehind_26 (by decide) ?_
    refine j_istore_n hc dX3_daysBehind_27 rfl ?_
    refine j_iload_n hc dX3_daysBehind_28 rfl ?_
    refine j_if_eq hc 43 dX3_daysBehind_29 (by decide) (fun h29 => ?_) (fun h29 => by exact absurd (show ¬ (0 : Int32) = (0 : Int32) from h29) (by decide))
    refine j_iconst hc (v := 0) dX3_daysBehind_43 (by decide) ?_
    exact j_iret hc rfl (by decide) (by decide) (by simp only [e_db, if_pos h2] <;> rfl) dX3_daysBehind_44
  · -- if_neg h2
    refine j_iload_n hc dX3_daysBehind_5 rfl ?_
    refine j_aload_n hc dX3_daysBehind_6 rfl ?_
    refine gf_X3_15 hc hi dX3_daysBehind_7 ?_
    refine j_icmp_gt hc 26 dX3_daysBehind_10 (by decide) (fun h10 => ?_) (fun h10 => ?_)
    · -- if_pos h10
      refine j_iconst hc (v := 0) dX3_daysBehind_26 (by decide) ?_
      refine j_istore_n hc dX3_daysBehind_27 rfl ?_
      refine j_iload_n hc dX3_daysBehind_28 rfl ?_
      refine j_if_eq hc 43 dX3_daysBehind_29 (by decide) (fun h29 => ?_) (fun h29 => by exact absurd (show ¬ (0 : Int32) = (0 : Int32) from h29) (by decide))
      refine j_iconst hc (v := 0) dX3_daysBehind_43 (by decide) ?_
      exact j_iret hc rfl (by decide) (by decide) (by simp only [e_db, if_neg h2, if_pos h10] <;> rfl) dX3_daysBehind_44
    · -- if_neg h10
      refine j_iload_n hc dX3_daysBehind_13 rfl ?_
      refine j_aload_n hc dX3_daysBehind_14 rfl ?_
      refine gf_X3_9 hc hi dX3_daysBehind_15 ?_
      refine ln_gap hc hi dX3_daysBehind_18 ?_
      refine j_icmp_gt hc 26 dX3_daysBehind_19 (by decide) (fun h19 => ?_) (fun h19 => ?_)
      · -- if_pos h19
        refine j_iconst hc (v := 0) dX3_daysBehind_26 (by decide) ?_
        refine j_istore_n hc dX3_daysBehind_27 rfl ?_
        refine j_iload_n hc dX3_daysBehind_28 rfl ?_
        refine j_if_eq hc 43 dX3_daysBehind_29 (by decide) (fun h29 => ?_) (fun h29 => by exact absurd (show ¬ (0 : Int32) = (0 : Int32) from h29) (by decide))
        refine j_iconst hc (v := 0) dX3_daysBehind_43 (by decide) ?_
        exact j_iret hc rfl (by decide) (by decide) (by simp only [e_db, if_neg h2, if_neg h10, if_pos h19] <;> rfl) dX3_daysBehind_44
      · -- if_neg h19
        refine j_iconst hc (v := 1) dX3_daysBehind_22 (by decide) ?_
        refine j_goto hc 27 dX3_daysBehind_23 (by decide) ?_
        refine j_istore_n hc dX3_daysBehind_27 rfl ?_
        refine j_iload_n hc dX3_daysBehind_28 rfl ?_
        refine j_if_eq hc 43 dX3_daysBehind_29 (by decide) (fun h29 => by exact absurd (show (1 : Int32) = (0 : Int32) from h29) (by decide)) (fun h29 => ?_)
        refine j_aload_n hc dX3_daysBehind_32 rfl ?_
        refine gf_X3_9 hc hi dX3_daysBehind_33 ?_
        refine j_iload_n hc dX3_daysBehind_36 rfl ?_
        refine j_iconst hc (v := 1) dX3_daysBehind_37 (by decide) ?_
        refine j_isub hc dX3_daysBehind_38 ?_
        refine al_gap hc hi (vdb h2 h19) dX3_daysBehind_39 ?_
        refine j_goto hc 44 dX3_daysBehind_40 (by decide) ?_
        exact j_iret hc rfl (by decide) (by decide) (by simp only [e_db, if_neg h2, if_neg h10, if_neg h19] <;> rfl) dX3_daysBehind_44
set_option maxRecDepth 100000 in
set_option maxHeartbeats 4000000 in
theorem c_X4_checkRange {l : Launch} {D : va_G} {cs : Nat → ClassId} {sa : Nat → Nat} (hl : l.stackTraces = false)  {w : va_W} {k x y : Int32} : CM l D cs sa yX4_checkRange cX4_checkRange 3 (Option.none : Option Jvm.ClassFile.FieldType) (RM 6 1 6) 1 6 [.int k, .int x, .int y] w (e_rng k x y, none, w) := by
  refine CM.of RX4 hl (by decide +kernel) rfl (Nat.le_of_ble_eq_true rfl) ?_
  intro p e s m args below meth c A hc ho hmn
  refine j_iload_n hc dX4_checkRange_0 rfl ?_
  refine j_iload_n hc dX4_checkRange_1 rfl ?_
  refine j_icmp_lt hc 10 dX4_checkRange_2 (by decide) (fun h2 => ?_) (fun h2 => ?_)
  · -- if_pos h2
    exact j_thr_224 hc ho 222 (tx := "an argument is out of range") (by decide) dX4_checkRange_10 dX4_checkRange_13 dX4_checkRange_14 dX4_checkRange_16 dX4_checkRange_19 (by decide) (Nat.le_of_ble_eq_true rfl) (by decide) (by decide) (by decide) (by decide) ⟨by simp only [e_rng, if_pos h2] <;> rfl, rfl⟩
  · -- if_neg h2
    refine j_iload_n hc dX4_checkRange_5 rfl ?_
    refine j_iload_n hc dX4_checkRange_6 rfl ?_
    refine j_icmp_le hc 20 dX4_checkRange_7 (by decide) (fun h7 => ?_) (fun h7 => ?_)
    · -- if_pos h7
      exact j_vret hc rfl (by decide) (by decide) (by simp only [e_rng, if_neg h2, if_pos h7] <;> rfl) dX4_checkRange_20
    · -- if_neg h7
      exact j_thr_224 hc ho 222 (tx := "an argument is out of range") (by decide) dX4_checkRange_10 dX4_checkRange_13 dX4_checkRange_14 dX4_checkRange_16 dX4_checkRange_19 (by decide) (Nat.le_of_ble_eq_true rfl) (by decide) (by decide) (by decide) (by decide) ⟨by simp only [e_rng, if_neg h2, if_neg h7] <;> rfl, rfl⟩
set_option maxRecDepth 100000 in
set_option maxHeartbeats 4000000 in
theorem c_X4_checkAccount {l : Launch} {D : va_G} {cs : Nat → ClassId} {sa : Nat → Nat} (hl : l.stackTraces = false)  {w : va_W} {k : Int32} : CM l D cs sa yX4_checkAccount cX4_checkAccount 1 (Option.none : Option Jvm.ClassFile.FieldType) (RM 6 1 6) 1 6 [.int k] w (e_acc k, none, w) := by
  refine CM.of RX4 hl (by decide +kernel) rfl (Nat.le_of_ble_eq_true rfl) ?_
  intro p e s m args below meth c A hc ho hmn
  refine j_iload_n hc dX4_checkAccount_0 rfl ?_
  refine j_if_lt hc 10 dX4_checkAccount_1 (by decide) (fun h1 => ?_) (fun h1 => ?_)
  · -- if_pos h1
    exact j_thr_62 hc ho 225 (tx := "no such account") (by decide) dX4_checkAccount_10 dX4_checkAccount_13 dX4_checkAccount_14 dX4_checkAccount_16 dX4_checkAccount_19 (by decide) (Nat.le_of_ble_eq_true rfl) (by decide) (by decide) (by decide) (by decide) ⟨by simp only [e_acc, if_pos h1] <;> rfl, rfl⟩
  · -- if_neg h1
    refine j_iload_n hc dX4_checkAccount_4 rfl ?_
    refine j_bipush hc (v := 8) dX4_checkAccount_5 (by decide) ?_
    refine j_icmp_lt hc 20 dX4_checkAccount_7 (by decide) (fun h7 => ?_) (fun h7 => ?_)
    · -- if_pos h7
      exact j_vret hc rfl (by decide) (by decide) (by simp only [e_acc, if_neg h1, if_pos h7] <;> rfl) dX4_checkAccount_20
    · -- if_neg h7
      exact j_thr_62 hc ho 225 (tx := "no such account") (by decide) dX4_checkAccount_10 dX4_checkAccount_13 dX4_checkAccount_14 dX4_checkAccount_16 dX4_checkAccount_19 (by decide) (Nat.le_of_ble_eq_true rfl) (by decide) (by decide) (by decide) (by decide) ⟨by simp only [e_acc, if_neg h1, if_neg h7] <;> rfl, rfl⟩
set_option maxRecDepth 100000 in
set_option maxHeartbeats 4000000 in
theorem c_X4_indexOfReason {l : Launch} {D : va_G} {cs : Nat → ClassId} {sa : Nat → Nat} (hl : l.stackTraces = false)  {w : va_W} {k : Int32} : CM l D cs sa yX4_indexOfReason cX4_indexOfReason 1 (Option.some Jvm.ClassFile.FieldType.int) (RM 6 1 6) 1 6 [.int k] w (e_rsn k, some (.int (k - 1)), w) := by
  refine CM.of RX4 hl (by decide +kernel) rfl (Nat.le_of_ble_eq_true rfl) ?_
  intro p e s m args below meth c A hc ho hmn
  refine j_iload_n hc dX4_indexOfReason_0 rfl ?_
  refine j_iconst hc (v := 1) dX4_indexOfReason_1 (by decide) ?_
  refine j_icmp_lt hc 10 dX4_indexOfReason_2 (by decide) (fun h2 => ?_) (fun h2 => ?_)
  · -- if_pos h2
    exact j_thr_62 hc ho 227 (tx := "no such reason") (by decide) dX4_indexOfReason_10 dX4_indexOfReason_13 dX4_indexOfReason_14 dX4_indexOfReason_16 dX4_indexOfReason_19 (by decide) (Nat.le_of_ble_eq_true rfl) (by decide) (by decide) (by decide) (by decide) ⟨by simp only [e_rsn, if_pos h2] <;> rfl, rfl⟩
  · -- if_neg h2
    refine j_iload_n hc dX4_indexOfReason_5 rfl ?_
    refine j_iconst hc (v := 4) dX4_indexOfReason_6 (by decide) ?_
    refine j_icmp_le hc 20 dX4_indexOfReason_7 (by decide) (fun h7 => ?_) (fun h7 => ?_)
    · -- if_pos h7
      refine j_iload_n hc dX4_indexOfReason_20 rfl ?_
      refine j_iconst hc (v := 1) dX4_indexOfReason_21 (by decide) ?_
      refine j_isub hc dX4_indexOfReason_22 ?_
      exact j_iret hc rfl (by decide) (by decide) (by simp only [e_rsn, if_neg h2, if_pos h7] <;> rfl) dX4_indexOfReason_23
    · -- if_neg h7
      exact j_thr_62 hc ho 227 (tx := "no such reason") (by decide) dX4_indexOfReason_10 dX4_indexOfReason_13 dX4_indexOfReason_14 dX4_indexOfReason_16 dX4_indexOfReason_19 (by decide) (Nat.le_of_ble_eq_true rfl) (by decide) (by decide) (by decide) (by decide) ⟨by simp only [e_rsn, if_neg h2, if_neg h7] <;> rfl, rfl⟩
set_option maxRecDepth 100000 in
set_option maxHeartbeats 4000000 in
theorem c_X4_indexOfReason_ok {l : Launch} {D : va_G} {cs : Nat → ClassId} {sa : Nat → Nat} (hl : l.stackTraces = false)  {w : va_W} {k : Int32} (hk : e_rsn k = none) : CM l D cs sa yX4_indexOfReason cX4_indexOfReason 1 (Option.some Jvm.ClassFile.FieldType.int) (RM 0 0 0) 0 0 [.int k] w (none, some (.int (k - 1)), w) := by
  refine CM.of RX4 hl (by decide +kernel) rfl (Nat.le_of_ble_eq_true rfl) ?_
  intro p e s m args below meth c A hc ho hmn
  refine j_iload_n hc dX4_indexOfReason_0 rfl ?_
  refine j_iconst hc (v := 1) dX4_indexOfReason_1 (by decide) ?_
  refine j_icmp_lt hc 10 dX4_indexOfReason_2 (by decide) (fun h2 => by simp only [e_rsn, h2, if_true] at hk; cases hk) (fun h2 => ?_)
  refine j_iload_n hc dX4_indexOfReason_5 rfl ?_
  refine j_iconst hc (v := 4) dX4_indexOfReason_6 (by decide) ?_
  refine j_icmp_le hc 20 dX4_indexOfReason_7 (by decide) (fun h7 => ?_) (fun h7 => by rw [e_rsn, if_neg h2, if_neg h7] at hk; cases hk)
  refine j_iload_n hc dX4_indexOfReason_20 rfl ?_
  refine j_iconst hc (v := 1) dX4_indexOfReason_21 (by decide) ?_
  refine j_isub hc dX4_indexOfReason_22 ?_
  exact j_iret hc rfl (by decide) (by decide) (rfl) dX4_indexOfReason_23
set_option maxRecDepth 100000 in
set_option maxHeartbeats 4000000 in
theorem c_X4_findBill {l : Launch} {D : va_G} {cs : Nat → ClassId} {sa : Nat → Nat} (hl : l.stackTraces = false)  {ad : Nat → Nat} {n : Nat} {E : ES} {S : MS} {o : Nat → Int64} (hn30 : n ≤ 30) {k : Int32} : CM l D cs sa yX4_findBill cX4_findBill 3 (Option.some (Jvm.ClassFile.FieldType.object "CollectionsEngine$Bill")) (RM 6 1 6) 1 6 [.ref (ad 0), .int k] (WD ad cs n E S o) (e_fb n k, some (.ref (ad (24 + 2 * k.toNatClampNeg))), WD ad cs n E S o) := by
  refine CM.of RX4 hl (by decide +kernel) rfl (Nat.le_of_ble_eq_true rfl) ?_
  intro p e s m args below meth c A hc ho hmn
  refine j_iload_n hc dX4_findBill_0 rfl ?_
  refine j_if_lt hc 22 dX4_findBill_1 (by decide) (fun h1 => ?_) (fun h1 => ?_)
  · -- if_pos h1
    refine j_null hc dX4_findBill_22 ?_
    refine j_astore_nN hc dX4_findBill_23 rfl ?_
    refine j_aload_nN hc dX4_findBill_24 rfl ?_
    refine j_ifnonnullN hc dX4_findBill_25 ?_
    exact j_thr_62 hc ho 229 (tx := "no such bill") (by decide) dX4_findBill_28 dX4_findBill_31 dX4_findBill_32 dX4_findBill_34 dX4_findBill_37 (by decide) (Nat.le_of_ble_eq_true rfl) (by decide) (by decide) (by decide) (by decide) ⟨by simp only [e_fb, if_pos h1] <;> rfl, rfl⟩
  · -- if_neg h1
    refine j_iload_n hc dX4_findBill_4 rfl ?_
    refine j_aload_n hc dX4_findBill_5 rfl ?_
    refine gf_X4_40 hc dX4_findBill_6 ?_
    refine ln_row hc dX4_findBill_9 ?_
    refine j_icmp_ge hc 22 dX4_findBill_10 (by decide) (fun h10 => ?_) (fun h10 => ?_)
    · -- if_pos h10
      refine j_null hc dX4_findBill_22 ?_
      refine j_astore_nN hc dX4_findBill_23 rfl ?_
      refine j_aload_nN hc dX4_findBill_24 rfl ?_
      refine j_ifnonnullN hc dX4_findBill_25 ?_
      exact j_thr_62 hc ho 229 (tx := "no such bill") (by decide) dX4_findBill_28 dX4_findBill_31 dX4_findBill_32 dX4_findBill_34 dX4_findBill_37 (by decide) (Nat.le_of_ble_eq_true rfl) (by decide) (by decide) (by decide) (by decide) ⟨by simp only [e_fb, if_neg h1, if_pos h10] <;> rfl, rfl⟩
    · -- if_neg h10
      refine j_aload_n hc dX4_findBill_13 rfl ?_
      refine gf_X4_40 hc dX4_findBill_14 ?_
      refine j_iload_n hc dX4_findBill_17 rfl ?_
      by_cases hb : k.toNatClampNeg < n
      · refine al_rowp hc hn30 (vpi (n := 30) h1 h10 (by decide)) hb dX4_findBill_18 ?_
        refine j_goto hc 23 dX4_findBill_19 (by decide) ?_
        refine j_astore_n hc dX4_findBill_23 rfl ?_
        refine j_aload_n hc dX4_findBill_24 rfl ?_
        refine j_ifnonnull hc 38 dX4_findBill_25 (by decide) ?_
        refine j_aload_n hc dX4_findBill_38 rfl ?_
        exact j_aret hc rfl (by decide) (by decide) (by simp only [e_fb, if_neg h1, if_neg h10, if_pos hb] <;> rfl) dX4_findBill_39
      · refine al_rowNp hc (vpi (n := 30) h1 h10 (by decide)) hb dX4_findBill_18 ?_
        refine j_goto hc 23 dX4_findBill_19 (by decide) ?_
        refine j_astore_nN hc dX4_findBill_23 rfl ?_
        refine j_aload_nN hc dX4_findBill_24 rfl ?_
        refine j_ifnonnullN hc dX4_findBill_25 ?_
        exact j_thr_62 hc ho 229 (tx := "no such bill") (by decide) dX4_findBill_28 dX4_findBill_31 dX4_findBill_32 dX4_findBill_34 dX4_findBill_37 (by decide) (Nat.le_of_ble_eq_true rfl) (by decide) (by decide) (by decide) (by decide) ⟨by simp only [e_fb, if_neg h1, if_neg h10, if_neg hb] <;> rfl, rfl⟩
