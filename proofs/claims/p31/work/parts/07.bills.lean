set_option maxRecDepth 100000 in
set_option maxHeartbeats 4000000 in
theorem c_X4_enter {l : Launch} {D : va_G} {cs : Nat → ClassId} {sa : Nat → Nat} (hl : l.stackTraces = false)  {ad : Nat → Nat} {n : Nat} {E : ES} {S : MS} {o : Nat → Int64} {b : Nat} (hb : b < n) {s0 wd : Int32} : CM l D cs sa yX4_enter cX4_enter 4 (Option.none : Option Jvm.ClassFile.FieldType) (RM 2 0 0) 0 0 [.ref (ad 0), .ref (ad (24 + 2 * b)), .int s0, .int wd] (WD ad cs n E S o) (none, none, WD ad cs n (e_enter E b s0 wd) S o) := by
  refine CM.of RX4 hl (by decide +kernel) rfl (Nat.le_of_ble_eq_true rfl) ?_
  intro p e s m args below meth c A hc ho hmn
  refine j_aload_n hc dX4_enter_0 rfl ?_
  refine j_iload_n hc dX4_enter_1 rfl ?_
  refine pf_X4_133 hc hb dX4_enter_2 ?_
  refine j_aload_n hc dX4_enter_5 rfl ?_
  refine j_iload_n hc dX4_enter_6 rfl ?_
  refine pf_X4_158 hc hb dX4_enter_7 ?_
  refine j_aload_n hc dX4_enter_10 rfl ?_
  refine gf_X4_47 hc dX4_enter_11 ?_
  refine j_aload_n hc dX4_enter_14 rfl ?_
  refine gf_X4_83 hc dX4_enter_15 ?_
  refine j_aload_n hc dX4_enter_18 rfl ?_
  refine gf_X4_231 hc hb dX4_enter_19 ?_
  refine j_iload_n hc dX4_enter_22 rfl ?_
  refine j_callV hc ho (c_X2_add hl) vc_X4_234 rfl ⟨rfl, rfl, by decide, by decide⟩ 13 rfl rfl rfl (Nat.le_of_ble_eq_true rfl) ⟨by decide, by decide⟩ dX4_enter_23 ⟨by decide, by decide⟩ (fun _ h => by cases h) (fun hr23 => ?_)
  exact j_vret hc rfl (by decide) (by decide) (rfl) dX4_enter_26
set_option maxRecDepth 100000 in
set_option maxHeartbeats 4000000 in
theorem c_X4_takePayment {l : Launch} {D : va_G} {cs : Nat → ClassId} {sa : Nat → Nat} (hl : l.stackTraces = false)  {ad : Nat → Nat} {n : Nat} {E : ES} {S : MS} {o : Nat → Int64} {b : Nat} (hb : b < n) {v : Int32} : CM l D cs sa yX4_takePayment cX4_takePayment 3 (Option.none : Option Jvm.ClassFile.FieldType) (RM 3 0 0) 0 0 [.ref (ad 0), .ref (ad (24 + 2 * b)), .int v] (WD ad cs n E S o) (none, none, WD ad cs n (e_take E b v) S o) := by
  refine CM.of RX4 hl (by decide +kernel) rfl (Nat.le_of_ble_eq_true rfl) ?_
  intro p e s m args below meth c A hc ho hmn
  refine j_aload_n hc dX4_takePayment_0 rfl ?_
  refine j_dup hc dX4_takePayment_1 rfl ?_
  refine gf_X4_138 hc hb dX4_takePayment_2 ?_
  refine j_iload_n hc dX4_takePayment_5 rfl ?_
  refine j_isub hc dX4_takePayment_6 ?_
  refine pf_X4_138 hc hb dX4_takePayment_7 ?_
  refine j_aload_n hc dX4_takePayment_10 rfl ?_
  refine j_dup hc dX4_takePayment_11 rfl ?_
  refine gf_X4_197 hc dX4_takePayment_12 ?_
  refine j_iload_n hc dX4_takePayment_15 rfl ?_
  refine j_iadd hc dX4_takePayment_16 ?_
  refine pf_X4_197 hc dX4_takePayment_17 ?_
  refine j_aload_n hc dX4_takePayment_20 rfl ?_
  refine gf_X4_133 hc hb dX4_takePayment_21 ?_
  refine j_iconst hc (v := 5) dX4_takePayment_24 (by decide) ?_
  refine j_icmp_ne hc 38 dX4_takePayment_25 (by decide) (fun h25 => ?_) (fun h25 => ?_)
  · -- if_neg h25
    refine j_aload_n hc dX4_takePayment_38 rfl ?_
    refine gf_X4_138 hc hb dX4_takePayment_39 ?_
    refine j_if_ne hc 53 dX4_takePayment_42 (by decide) (fun h42 => ?_) (fun h42 => ?_)
    · -- if_neg h42
      exact j_vret hc rfl (by decide) (by decide) (by simp only [e_take, if_neg h25, if_neg h42] <;> rfl) dX4_takePayment_53
    · -- if_pos h42
      refine j_aload_n hc dX4_takePayment_45 rfl ?_
      refine j_aload_n hc dX4_takePayment_46 rfl ?_
      refine j_bipush hc (v := 6) dX4_takePayment_47 (by decide) ?_
      refine j_iconst hc (v := -1) dX4_takePayment_49 (by decide) ?_
      refine j_callV hc ho (c_X4_enter hl hb) vc_X4_125 rfl ⟨rfl, rfl, by decide, by decide⟩ 0 rfl rfl rfl (Nat.le_of_ble_eq_true rfl) ⟨by decide, by decide⟩ dX4_takePayment_50 ⟨by decide, by decide⟩ (fun _ h => by cases h) (fun hr50 => ?_)
      exact j_vret hc rfl (by decide) (by decide) (by simp only [e_take, if_neg h25, if_pos h42] <;> rfl) dX4_takePayment_53
  · -- if_pos h25
    refine j_aload_n hc dX4_takePayment_28 rfl ?_
    refine j_dup hc dX4_takePayment_29 rfl ?_
    refine gf_X4_203 hc dX4_takePayment_30 ?_
    refine j_iload_n hc dX4_takePayment_33 rfl ?_
    refine j_iadd hc dX4_takePayment_34 ?_
    refine pf_X4_203 hc dX4_takePayment_35 ?_
    refine j_aload_n hc dX4_takePayment_38 rfl ?_
    refine gf_X4_138 hc hb dX4_takePayment_39 ?_
    refine j_if_ne hc 53 dX4_takePayment_42 (by decide) (fun h42 => ?_) (fun h42 => ?_)
    · -- if_neg h42
      exact j_vret hc rfl (by decide) (by decide) (by simp only [e_take, if_pos h25, if_neg h42] <;> rfl) dX4_takePayment_53
    · -- if_pos h42
      refine j_aload_n hc dX4_takePayment_45 rfl ?_
      refine j_aload_n hc dX4_takePayment_46 rfl ?_
      refine j_bipush hc (v := 6) dX4_takePayment_47 (by decide) ?_
      refine j_iconst hc (v := -1) dX4_takePayment_49 (by decide) ?_
      refine j_callV hc ho (c_X4_enter hl hb) vc_X4_125 rfl ⟨rfl, rfl, by decide, by decide⟩ 0 rfl rfl rfl (Nat.le_of_ble_eq_true rfl) ⟨by decide, by decide⟩ dX4_takePayment_50 ⟨by decide, by decide⟩ (fun _ h => by cases h) (fun hr50 => ?_)
      exact j_vret hc rfl (by decide) (by decide) (by simp only [e_take, if_pos h25, if_pos h42] <;> rfl) dX4_takePayment_53
theorem vrs {k : Int32} (h : e_rsn k = none) : vp_in (k - 1) 4 := by
  have e1 : (1 : Int32).toInt = 1 := by decide
  have e4 : (4 : Int32).toInt = 4 := by decide
  unfold e_rsn at h
  simp only [i32_lt, i32_le] at h
  have h1 : ¬ k.toInt < 1 := fun z => by rw [if_pos (by omega)] at h; cases h
  rw [if_neg (by omega)] at h
  have h2 : k.toInt ≤ 4 := by
    by_cases z : k.toInt ≤ 4
    · exact z
    · rw [if_neg (by omega)] at h; cases h
  rw [vp_in_iff, i32_sub (by omega) (by omega)]
  omega
theorem vrs4 {k : Int32} (h : e_rsn k = none) : (k - 1).toNatClampNeg < 4 := by
  have := vp_in_iff.mp (vrs h)
  show (k - 1).toInt.toNat < 4
  omega
set_option maxRecDepth 100000 in
set_option maxHeartbeats 4000000 in
theorem c_X4_fail {l : Launch} {D : va_G} {cs : Nat → ClassId} {sa : Nat → Nat} (hl : l.stackTraces = false)  {ad : Nat → Nat} {n : Nat} {E : ES} {S : MS} {o : Nat → Int64} {b : Nat} (hb : b < n) {r : Int32} (hr : e_rsn r = none) : CM l D cs sa yX4_fail cX4_fail 5 (Option.none : Option Jvm.ClassFile.FieldType) (RM 3 0 0) 0 0 [.ref (ad 0), .ref (ad (24 + 2 * b)), .int r] (WD ad cs n E S o) (none, none, WD ad cs n (e_fail E b r) S o) := by
  refine CM.of RX4 hl (by decide +kernel) rfl (Nat.le_of_ble_eq_true rfl) ?_
  intro p e s m args below meth c A hc ho hmn
  refine j_iload_n hc dX4_fail_0 rfl ?_
  refine j_callS hc ho (c_X4_indexOfReason_ok hl hr) sc_X4_98 rfl ⟨rfl, rfl, by decide, by decide⟩ rfl (Nat.le_of_ble_eq_true rfl) ⟨by decide, by decide⟩ dX4_fail_1 ⟨by decide, by decide⟩ (fun _ h => by cases h) (fun hr1 => ?_)
  refine j_istore_n hc dX4_fail_4 rfl ?_
  refine j_aload_n hc dX4_fail_5 rfl ?_
  refine gf_X4_178 hc hb dX4_fail_6 ?_
  refine j_iload_n hc dX4_fail_9 rfl ?_
  refine j_dup2 hc dX4_fail_10 rfl rfl ?_
  refine al_fails hc hb (vrs hr) dX4_fail_11 ?_
  refine j_iconst hc (v := 1) dX4_fail_12 (by decide) ?_
  refine j_iadd hc dX4_fail_13 ?_
  refine as_fails hc hb (vrs hr) dX4_fail_14 ?_
  refine j_aload_n hc dX4_fail_15 rfl ?_
  refine gf_X4_34 hc dX4_fail_16 ?_
  refine j_iload_n hc dX4_fail_19 rfl ?_
  refine al_gapsp hc (vrs hr) dX4_fail_20 ?_
  refine j_aload_n hc dX4_fail_21 rfl ?_
  refine gf_X4_178 hc hb dX4_fail_22 ?_
  refine j_iload_n hc dX4_fail_25 rfl ?_
  refine al_fails hc hb (vrs hr) dX4_fail_26 ?_
  refine j_callV hc ho (c_X3_daysBehind hl (vrs4 hr)) vc_X4_237 rfl ⟨rfl, rfl, by decide, by decide⟩ _ (wd_gap (vrs4 hr)) rfl rfl (Nat.le_of_ble_eq_true rfl) ⟨by decide, by decide⟩ dX4_fail_27 ⟨by decide, by decide⟩ (fun _ h => by cases h) (fun hr27 => ?_)
  refine j_istore hc dX4_fail_30 rfl ?_
  refine j_iload hc dX4_fail_32 rfl ?_
  refine j_if_ne hc 55 dX4_fail_34 (by decide) (fun h34 => ?_) (fun h34 => ?_)
  · -- if_neg h34
    refine j_aload_n hc dX4_fail_55 rfl ?_
    refine j_aload_n hc dX4_fail_56 rfl ?_
    refine j_iconst hc (v := 0) dX4_fail_57 (by decide) ?_
    refine j_aload_n hc dX4_fail_58 rfl ?_
    refine gf_X4_10 hc dX4_fail_59 ?_
    refine j_aload_n hc dX4_fail_62 rfl ?_
    refine gf_X4_83 hc dX4_fail_63 ?_
    refine j_iload hc dX4_fail_66 rfl ?_
    refine j_iadd hc dX4_fail_68 ?_
    refine j_callV hc ho (c_X1_firstChargingFrom hl) vc_X4_122 rfl ⟨rfl, rfl, by decide, by decide⟩ 1 rfl rfl rfl (Nat.le_of_ble_eq_true rfl) ⟨by decide, by decide⟩ dX4_fail_69 ⟨by decide, by decide⟩ (fun _ h => by cases h) (fun hr69 => ?_)
    refine j_callV hc ho (c_X4_enter hl hb) vc_X4_125 rfl ⟨rfl, rfl, by decide, by decide⟩ 0 rfl rfl rfl (Nat.le_of_ble_eq_true rfl) ⟨by decide, by decide⟩ dX4_fail_72 ⟨by decide, by decide⟩ (fun _ h => by cases h) (fun hr72 => ?_)
    exact j_vret hc rfl (by decide) (by decide) (by simp only [e_fail, if_neg h34] <;> rfl) dX4_fail_75
  · -- if_pos h34
    refine j_aload_n hc dX4_fail_37 rfl ?_
    refine j_aload_n hc dX4_fail_38 rfl ?_
    refine j_iconst hc (v := 2) dX4_fail_39 (by decide) ?_
    refine j_aload_n hc dX4_fail_40 rfl ?_
    refine gf_X4_83 hc dX4_fail_41 ?_
    refine j_aload_n hc dX4_fail_44 rfl ?_
    refine gf_X4_51 hc dX4_fail_45 ?_
    refine j_iadd hc dX4_fail_48 ?_
    refine j_callV hc ho (c_X4_enter hl hb) vc_X4_125 rfl ⟨rfl, rfl, by decide, by decide⟩ 0 rfl rfl rfl (Nat.le_of_ble_eq_true rfl) ⟨by decide, by decide⟩ dX4_fail_49 ⟨by decide, by decide⟩ (fun _ h => by cases h) (fun hr49 => ?_)
    refine j_goto hc 75 dX4_fail_52 (by decide) ?_
    exact j_vret hc rfl (by decide) (by decide) (by simp only [e_fail, if_pos h34] <;> rfl) dX4_fail_75
set_option maxRecDepth 100000 in
set_option maxHeartbeats 4000000 in
theorem c_X4_breakPromise {l : Launch} {D : va_G} {cs : Nat → ClassId} {sa : Nat → Nat} (hl : l.stackTraces = false)  {ad : Nat → Nat} {n : Nat} {E : ES} {S : MS} {o : Nat → Int64} {b : Nat} (hb : b < n) : CM l D cs sa yX4_breakPromise cX4_breakPromise 2 (Option.none : Option Jvm.ClassFile.FieldType) (RM 3 0 0) 0 0 [.ref (ad 0), .ref (ad (24 + 2 * b))] (WD ad cs n E S o) (none, none, WD ad cs n (e_bp E b) S o) := by
  refine CM.of RX4 hl (by decide +kernel) rfl (Nat.le_of_ble_eq_true rfl) ?_
  intro p e s m args below meth c A hc ho hmn
  refine j_aload_n hc dX4_breakPromise_0 rfl ?_
  refine j_dup hc dX4_breakPromise_1 rfl ?_
  refine gf_X4_181 hc hb dX4_breakPromise_2 ?_
  refine j_iconst hc (v := 1) dX4_breakPromise_5 (by decide) ?_
  refine j_iadd hc dX4_breakPromise_6 ?_
  refine pf_X4_181 hc hb dX4_breakPromise_7 ?_
  refine j_aload_n hc dX4_breakPromise_10 rfl ?_
  refine gf_X4_155 hc hb dX4_breakPromise_11 ?_
  refine j_if_ne hc 39 dX4_breakPromise_14 (by decide) (fun h14 => ?_) (fun h14 => ?_)
  · -- if_neg h14
    refine j_aload_n hc dX4_breakPromise_39 rfl ?_
    refine j_aload_n hc dX4_breakPromise_40 rfl ?_
    refine j_aload_n hc dX4_breakPromise_41 rfl ?_
    refine gf_X4_155 hc hb dX4_breakPromise_42 ?_
    refine j_aload_n hc dX4_breakPromise_45 rfl ?_
    refine gf_X4_83 hc dX4_breakPromise_46 ?_
    refine j_aload_n hc dX4_breakPromise_49 rfl ?_
    refine gf_X4_161 hc hb dX4_breakPromise_50 ?_
    refine j_iadd hc dX4_breakPromise_53 ?_
    refine j_callV hc ho (c_X4_enter hl hb) vc_X4_125 rfl ⟨rfl, rfl, by decide, by decide⟩ 0 rfl rfl rfl (Nat.le_of_ble_eq_true rfl) ⟨by decide, by decide⟩ dX4_breakPromise_54 ⟨by decide, by decide⟩ (fun _ h => by cases h) (fun hr54 => ?_)
    exact j_vret hc rfl (by decide) (by decide) (by simp only [e_bp, if_neg h14] <;> rfl) dX4_breakPromise_57
  · -- if_pos h14
    refine j_aload_n hc dX4_breakPromise_17 rfl ?_
    refine j_aload_n hc dX4_breakPromise_18 rfl ?_
    refine j_iconst hc (v := 0) dX4_breakPromise_19 (by decide) ?_
    refine j_aload_n hc dX4_breakPromise_20 rfl ?_
    refine gf_X4_10 hc dX4_breakPromise_21 ?_
    refine j_aload_n hc dX4_breakPromise_24 rfl ?_
    refine gf_X4_83 hc dX4_breakPromise_25 ?_
    refine j_iconst hc (v := 1) dX4_breakPromise_28 (by decide) ?_
    refine j_iadd hc dX4_breakPromise_29 ?_
    refine j_callV hc ho (c_X1_firstChargingFrom hl) vc_X4_122 rfl ⟨rfl, rfl, by decide, by decide⟩ 1 rfl rfl rfl (Nat.le_of_ble_eq_true rfl) ⟨by decide, by decide⟩ dX4_breakPromise_30 ⟨by decide, by decide⟩ (fun _ h => by cases h) (fun hr30 => ?_)
    refine j_callV hc ho (c_X4_enter hl hb) vc_X4_125 rfl ⟨rfl, rfl, by decide, by decide⟩ 0 rfl rfl rfl (Nat.le_of_ble_eq_true rfl) ⟨by decide, by decide⟩ dX4_breakPromise_33 ⟨by decide, by decide⟩ (fun _ h => by cases h) (fun hr33 => ?_)
    refine j_goto hc 57 dX4_breakPromise_36 (by decide) ?_
    exact j_vret hc rfl (by decide) (by decide) (by simp only [e_bp, if_pos h14] <;> rfl) dX4_breakPromise_57
set_option maxRecDepth 100000 in
set_option maxHeartbeats 4000000 in
theorem c_X4_beginTry {l : Launch} {D : va_G} {cs : Nat → ClassId} {sa : Nat → Nat} (hl : l.stackTraces = false)  {ad : Nat → Nat} {n : Nat} {E : ES} {S : MS} {o : Nat → Int64} {b : Nat} (hb : b < n) : CM l D cs sa yX4_beginTry cX4_beginTry 2 (Option.some Jvm.ClassFile.FieldType.boolean) (RM 3 0 0) 0 0 [.ref (ad 0), .ref (ad (24 + 2 * b))] (WD ad cs n E S o) (none, some (.int (e_bt E b).1), WD ad cs n (e_bt E b).2 S o) := by
  refine CM.of RX4 hl (by decide +kernel) rfl (Nat.le_of_ble_eq_true rfl) ?_
  intro p e s m args below meth c A hc ho hmn
  refine j_aload_n hc dX4_beginTry_0 rfl ?_
  refine gf_X4_10 hc dX4_beginTry_1 ?_
  refine j_aload_n hc dX4_beginTry_4 rfl ?_
  refine gf_X4_83 hc dX4_beginTry_5 ?_
  refine j_callV hc ho (c_X1_allowsCharging hl) vc_X4_172 rfl ⟨rfl, rfl, by decide, by decide⟩ 1 rfl rfl rfl (Nat.le_of_ble_eq_true rfl) ⟨by decide, by decide⟩ dX4_beginTry_8 ⟨by decide, by decide⟩ (fun _ h => by cases h) (fun hr8 => ?_)
  refine j_if_ne hc 33 dX4_beginTry_11 (by decide) (fun h11 => ?_) (fun h11 => ?_)
  · -- if_neg h11
    refine j_aload_n hc dX4_beginTry_33 rfl ?_
    refine j_dup hc dX4_beginTry_34 rfl ?_
    refine gf_X4_175 hc hb dX4_beginTry_35 ?_
    refine j_iconst hc (v := 1) dX4_beginTry_38 (by decide) ?_
    refine j_iadd hc dX4_beginTry_39 ?_
    refine pf_X4_175 hc hb dX4_beginTry_40 ?_
    refine j_aload_n hc dX4_beginTry_43 rfl ?_
    refine j_aload_n hc dX4_beginTry_44 rfl ?_
    refine j_iconst hc (v := 1) dX4_beginTry_45 (by decide) ?_
    refine j_iconst hc (v := -1) dX4_beginTry_46 (by decide) ?_
    refine j_callV hc ho (c_X4_enter hl hb) vc_X4_125 rfl ⟨rfl, rfl, by decide, by decide⟩ 0 rfl rfl rfl (Nat.le_of_ble_eq_true rfl) ⟨by decide, by decide⟩ dX4_beginTry_47 ⟨by decide, by decide⟩ (fun _ h => by cases h) (fun hr47 => ?_)
    refine j_iconst hc (v := 1) dX4_beginTry_50 (by decide) ?_
    exact j_zret hc rfl rfl (by decide) (by decide) (by simp only [e_bt, if_neg h11] <;> rfl) dX4_beginTry_51
  · -- if_pos h11
    refine j_aload_n hc dX4_beginTry_14 rfl ?_
    refine j_aload_n hc dX4_beginTry_15 rfl ?_
    refine gf_X4_10 hc dX4_beginTry_16 ?_
    refine j_aload_n hc dX4_beginTry_19 rfl ?_
    refine gf_X4_83 hc dX4_beginTry_20 ?_
    refine j_iconst hc (v := 1) dX4_beginTry_23 (by decide) ?_
    refine j_iadd hc dX4_beginTry_24 ?_
    refine j_callV hc ho (c_X1_firstChargingFrom hl) vc_X4_122 rfl ⟨rfl, rfl, by decide, by decide⟩ 1 rfl rfl rfl (Nat.le_of_ble_eq_true rfl) ⟨by decide, by decide⟩ dX4_beginTry_25 ⟨by decide, by decide⟩ (fun _ h => by cases h) (fun hr25 => ?_)
    refine pf_X4_158 hc hb dX4_beginTry_28 ?_
    refine j_iconst hc (v := 0) dX4_beginTry_31 (by decide) ?_
    exact j_zret hc rfl rfl (by decide) (by decide) (by simp only [e_bt, if_pos h11] <;> rfl) dX4_beginTry_32
theorem bt_01 (E : ES) (b : Nat) : (e_bt E b).1 = 0 ∨ (e_bt E b).1 = 1 := by
  unfold e_bt
  split
  · exact Or.inl rfl
  · exact Or.inr rfl
theorem look_01 (E : ES) (b : Nat) : (e_look E b).1 = 0 ∨ (e_look E b).1 = 1 := by
  unfold e_look
  split
  · split
    · exact Or.inl rfl
    · exact bt_01 E b
  · split
    · split
      · exact Or.inl rfl
      · split
        · exact Or.inl rfl
        · split <;> exact Or.inl rfl
    · exact Or.inl rfl
set_option maxRecDepth 100000 in
set_option maxHeartbeats 4000000 in
theorem c_X4_lookAt {l : Launch} {D : va_G} {cs : Nat → ClassId} {sa : Nat → Nat} (hl : l.stackTraces = false)  {ad : Nat → Nat} {n : Nat} {E : ES} {S : MS} {o : Nat → Int64} {b : Nat} (hb : b < n) : CM l D cs sa yX4_lookAt cX4_lookAt 2 (Option.some Jvm.ClassFile.FieldType.boolean) (RM 4 0 0) 0 0 [.ref (ad 0), .ref (ad (24 + 2 * b))] (WD ad cs n E S o) (none, some (.int (e_look E b).1), WD ad cs n (e_look E b).2 S o) := by
  refine CM.of RX4 hl (by decide +kernel) rfl (Nat.le_of_ble_eq_true rfl) ?_
  intro p e s m args below meth c A hc ho hmn
  refine j_aload_n hc dX4_lookAt_0 rfl ?_
  refine gf_X4_133 hc hb dX4_lookAt_1 ?_
  refine j_if_ne hc 32 dX4_lookAt_4 (by decide) (fun h4 => ?_) (fun h4 => ?_)
  · -- if_neg h4
    refine j_aload_n hc dX4_lookAt_32 rfl ?_
    refine gf_X4_158 hc hb dX4_lookAt_33 ?_
    refine j_aload_n hc dX4_lookAt_36 rfl ?_
    refine gf_X4_83 hc dX4_lookAt_37 ?_
    refine j_icmp_eq hc 45 dX4_lookAt_40 (by decide) (fun h40 => ?_) (fun h40 => ?_)
    · -- if_pos h40
      refine j_aload_n hc dX4_lookAt_45 rfl ?_
      refine gf_X4_133 hc hb dX4_lookAt_46 ?_
      refine j_iconst hc (v := 2) dX4_lookAt_49 (by decide) ?_
      refine j_icmp_ne hc 71 dX4_lookAt_50 (by decide) (fun h50 => ?_) (fun h50 => ?_)
      · -- if_neg h50
        refine j_aload_n hc dX4_lookAt_71 rfl ?_
        refine gf_X4_133 hc hb dX4_lookAt_72 ?_
        refine j_iconst hc (v := 3) dX4_lookAt_75 (by decide) ?_
        refine j_icmp_ne hc 102 dX4_lookAt_76 (by decide) (fun h76 => ?_) (fun h76 => ?_)
        · -- if_neg h76
          refine j_aload_n hc dX4_lookAt_102 rfl ?_
          refine gf_X4_133 hc hb dX4_lookAt_103 ?_
          refine j_iconst hc (v := 4) dX4_lookAt_106 (by decide) ?_
          refine j_icmp_ne hc 115 dX4_lookAt_107 (by decide) (fun h107 => ?_) (fun h107 => ?_)
          · -- if_neg h107
            refine j_iconst hc (v := 0) dX4_lookAt_115 (by decide) ?_
            exact j_zret hc rfl rfl (by decide) (by decide) (by simp only [e_look, if_neg h4, if_pos h40, if_neg h50, if_neg h76, if_neg h107] <;> rfl) dX4_lookAt_116
          · -- if_pos h107
            refine j_aload_n hc dX4_lookAt_110 rfl ?_
            refine j_aload_n hc dX4_lookAt_111 rfl ?_
            refine j_callV hc ho (c_X4_breakPromise hl hb) vc_X4_247 rfl ⟨rfl, rfl, by decide, by decide⟩ 0 rfl rfl rfl (Nat.le_of_ble_eq_true rfl) ⟨by decide, by decide⟩ dX4_lookAt_112 ⟨by decide, by decide⟩ (fun _ h => by cases h) (fun hr112 => ?_)
            refine j_iconst hc (v := 0) dX4_lookAt_115 (by decide) ?_
            exact j_zret hc rfl rfl (by decide) (by decide) (by simp only [e_look, if_neg h4, if_pos h40, if_neg h50, if_neg h76, if_pos h107] <;> rfl) dX4_lookAt_116
        · -- if_pos h76
          refine j_aload_n hc dX4_lookAt_79 rfl ?_
          refine j_dup hc dX4_lookAt_80 rfl ?_
          refine gf_X4_200 hc dX4_lookAt_81 ?_
          refine j_aload_n hc dX4_lookAt_84 rfl ?_
          refine gf_X4_138 hc hb dX4_lookAt_85 ?_
          refine j_iadd hc dX4_lookAt_88 ?_
          refine pf_X4_200 hc dX4_lookAt_89 ?_
          refine j_aload_n hc dX4_lookAt_92 rfl ?_
          refine j_aload_n hc dX4_lookAt_93 rfl ?_
          refine j_iconst hc (v := 5) dX4_lookAt_94 (by decide) ?_
          refine j_iconst hc (v := -1) dX4_lookAt_95 (by decide) ?_
          refine j_callV hc ho (c_X4_enter hl hb) vc_X4_125 rfl ⟨rfl, rfl, by decide, by decide⟩ 0 rfl rfl rfl (Nat.le_of_ble_eq_true rfl) ⟨by decide, by decide⟩ dX4_lookAt_96 ⟨by decide, by decide⟩ (fun _ h => by cases h) (fun hr96 => ?_)
          refine j_goto hc 115 dX4_lookAt_99 (by decide) ?_
          refine j_iconst hc (v := 0) dX4_lookAt_115 (by decide) ?_
          exact j_zret hc rfl rfl (by decide) (by decide) (by simp only [e_look, if_neg h4, if_pos h40, if_neg h50, if_pos h76] <;> rfl) dX4_lookAt_116
      · -- if_pos h50
        refine j_aload_n hc dX4_lookAt_53 rfl ?_
        refine j_aload_n hc dX4_lookAt_54 rfl ?_
        refine j_iconst hc (v := 3) dX4_lookAt_55 (by decide) ?_
        refine j_aload_n hc dX4_lookAt_56 rfl ?_
        refine gf_X4_83 hc dX4_lookAt_57 ?_
        refine j_aload_n hc dX4_lookAt_60 rfl ?_
        refine gf_X4_55 hc dX4_lookAt_61 ?_
        refine j_iadd hc dX4_lookAt_64 ?_
        refine j_callV hc ho (c_X4_enter hl hb) vc_X4_125 rfl ⟨rfl, rfl, by decide, by decide⟩ 0 rfl rfl rfl (Nat.le_of_ble_eq_true rfl) ⟨by decide, by decide⟩ dX4_lookAt_65 ⟨by decide, by decide⟩ (fun _ h => by cases h) (fun hr65 => ?_)
        refine j_goto hc 115 dX4_lookAt_68 (by decide) ?_
        refine j_iconst hc (v := 0) dX4_lookAt_115 (by decide) ?_
        exact j_zret hc rfl rfl (by decide) (by decide) (by simp only [e_look, if_neg h4, if_pos h40, if_pos h50] <;> rfl) dX4_lookAt_116
    · -- if_neg h40
      refine j_iconst hc (v := 0) dX4_lookAt_43 (by decide) ?_
      exact j_zret hc rfl rfl (by decide) (by decide) (by simp only [e_look, if_neg h4, if_neg h40] <;> rfl) dX4_lookAt_44
  · -- if_pos h4
    refine j_aload_n hc dX4_lookAt_7 rfl ?_
    refine gf_X4_158 hc hb dX4_lookAt_8 ?_
    refine j_aload_n hc dX4_lookAt_11 rfl ?_
    refine gf_X4_83 hc dX4_lookAt_12 ?_
    refine j_icmp_gt hc 30 dX4_lookAt_15 (by decide) (fun h15 => ?_) (fun h15 => ?_)
    · -- if_pos h15
      refine j_iconst hc (v := 0) dX4_lookAt_30 (by decide) ?_
      exact j_zret hc rfl rfl (by decide) (by decide) (by simp only [e_look, if_pos h4, if_pos h15] <;> rfl) dX4_lookAt_31
    · -- if_neg h15
      refine j_aload_n hc dX4_lookAt_18 rfl ?_
      refine j_aload_n hc dX4_lookAt_19 rfl ?_
      refine j_callV hc ho (c_X4_beginTry hl hb) vc_X4_244 rfl ⟨rfl, rfl, by decide, by decide⟩ 0 rfl rfl rfl (Nat.le_of_ble_eq_true rfl) ⟨by decide, by decide⟩ dX4_lookAt_20 ⟨by decide, by decide⟩ (fun _ h => by cases h) (fun hr20 => ?_)
      refine j_if_eq hc 30 dX4_lookAt_23 (by decide) (fun h23 => ?_) (fun h23 => ?_)
      · -- if_pos h23
        refine j_iconst hc (v := 0) dX4_lookAt_30 (by decide) ?_
        exact j_zret hc rfl rfl (by decide) (by decide) (by simp only [e_look, if_pos h4, if_neg h15]; rw [show e_bt E b = ((e_bt E b).1, (e_bt E b).2) from rfl]; simp only [h23]) dX4_lookAt_31
      · -- if_neg h23
        refine j_iconst hc (v := 1) dX4_lookAt_26 (by decide) ?_
        refine j_goto hc 31 dX4_lookAt_27 (by decide) ?_
        exact j_zret hc rfl rfl (by decide) (by decide) (by simp only [e_look, if_pos h4, if_neg h15]; rw [show e_bt E b = ((e_bt E b).1, (e_bt E b).2) from rfl]; simp only [((bt_01 E b).resolve_left h23)]) dX4_lookAt_31
set_option maxRecDepth 100000 in
set_option maxHeartbeats 4000000 in
theorem c_X4_serviceWith {l : Launch} {D : va_G} {cs : Nat → ClassId} {sa : Nat → Nat} (hl : l.stackTraces = false)  {ad : Nat → Nat} {n : Nat} {E : ES} {S : MS} {o : Nat → Int64} {b : Nat} (hb : b < n) : CM l D cs sa yX4_serviceWith cX4_serviceWith 2 (Option.some Jvm.ClassFile.FieldType.int) (RM 0 0 0) 0 0 [.ref (ad (24 + 2 * b))] (WD ad cs n E S o) (none, some (.int (e_sw E b)), (WD ad cs n E S o)) := by
  refine CM.of RX4 hl (by decide +kernel) rfl (Nat.le_of_ble_eq_true rfl) ?_
  intro p e s m args below meth c A hc ho hmn
  refine j_aload_n hc dX4_serviceWith_0 rfl ?_
  refine gf_X4_133 hc hb dX4_serviceWith_1 ?_
  refine j_iconst hc (v := 3) dX4_serviceWith_4 (by decide) ?_
  refine j_icmp_eq hc 16 dX4_serviceWith_5 (by decide) (fun h5 => ?_) (fun h5 => ?_)
  · -- if_pos h5
    refine j_iconst hc (v := 0) dX4_serviceWith_16 (by decide) ?_
    exact j_iret hc rfl (by decide) (by decide) (by simp only [e_sw, if_pos h5] <;> rfl) dX4_serviceWith_17
  · -- if_neg h5
    refine j_aload_n hc dX4_serviceWith_8 rfl ?_
    refine gf_X4_133 hc hb dX4_serviceWith_9 ?_
    refine j_iconst hc (v := 5) dX4_serviceWith_12 (by decide) ?_
    refine j_icmp_ne hc 18 dX4_serviceWith_13 (by decide) (fun h13 => ?_) (fun h13 => ?_)
    · -- if_neg h13
      refine j_aload_n hc dX4_serviceWith_18 rfl ?_
      refine gf_X4_133 hc hb dX4_serviceWith_19 ?_
      refine j_iconst hc (v := 4) dX4_serviceWith_22 (by decide) ?_
      refine j_icmp_ne hc 37 dX4_serviceWith_23 (by decide) (fun h23 => ?_) (fun h23 => ?_)
      · -- if_neg h23
        refine j_iconst hc (v := 0) dX4_serviceWith_37 (by decide) ?_
        refine j_istore_n hc dX4_serviceWith_38 rfl ?_
        refine j_aload_n hc dX4_serviceWith_39 rfl ?_
        refine gf_X4_133 hc hb dX4_serviceWith_40 ?_
        refine j_iconst hc (v := 2) dX4_serviceWith_43 (by decide) ?_
        refine j_icmp_eq hc 51 dX4_serviceWith_44 (by decide) (fun h44 => ?_) (fun h44 => ?_)
        · -- if_pos h44
          refine j_iconst hc (v := 1) dX4_serviceWith_51 (by decide) ?_
          refine j_goto hc 56 dX4_serviceWith_52 (by decide) ?_
          exact j_iret hc rfl (by decide) (by decide) (by simp only [e_sw, if_neg h5, if_neg h13, if_neg h23, if_pos h44] <;> rfl) dX4_serviceWith_56
        · -- if_neg h44
          refine j_iload_n hc dX4_serviceWith_47 rfl ?_
          refine j_if_eq hc 55 dX4_serviceWith_48 (by decide) (fun h48 => ?_) (fun h48 => by exact absurd (show ¬ (0 : Int32) = (0 : Int32) from h48) (by decide))
          refine j_iconst hc (v := 2) dX4_serviceWith_55 (by decide) ?_
          exact j_iret hc rfl (by decide) (by decide) (by simp only [e_sw, if_neg h5, if_neg h13, if_neg h23, if_neg h44] <;> rfl) dX4_serviceWith_56
      · -- if_pos h23
        refine j_aload_n hc dX4_serviceWith_26 rfl ?_
        refine gf_X4_155 hc hb dX4_serviceWith_27 ?_
        refine j_if_eq hc 37 dX4_serviceWith_30 (by decide) (fun h30 => ?_) (fun h30 => ?_)
        · -- if_pos h30
          refine j_iconst hc (v := 0) dX4_serviceWith_37 (by decide) ?_
          refine j_istore_n hc dX4_serviceWith_38 rfl ?_
          refine j_aload_n hc dX4_serviceWith_39 rfl ?_
          refine gf_X4_133 hc hb dX4_serviceWith_40 ?_
          refine j_iconst hc (v := 2) dX4_serviceWith_43 (by decide) ?_
          refine j_icmp_eq hc 51 dX4_serviceWith_44 (by decide) (fun h44 => ?_) (fun h44 => ?_)
          · -- if_pos h44
            refine j_iconst hc (v := 1) dX4_serviceWith_51 (by decide) ?_
            refine j_goto hc 56 dX4_serviceWith_52 (by decide) ?_
            exact j_iret hc rfl (by decide) (by decide) (by simp only [e_sw, if_neg h5, if_neg h13, if_pos h23, if_pos h30, if_pos h44] <;> rfl) dX4_serviceWith_56
          · -- if_neg h44
            refine j_iload_n hc dX4_serviceWith_47 rfl ?_
            refine j_if_eq hc 55 dX4_serviceWith_48 (by decide) (fun h48 => ?_) (fun h48 => by exact absurd (show ¬ (0 : Int32) = (0 : Int32) from h48) (by decide))
            refine j_iconst hc (v := 2) dX4_serviceWith_55 (by decide) ?_
            exact j_iret hc rfl (by decide) (by decide) (by simp only [e_sw, if_neg h5, if_neg h13, if_pos h23, if_pos h30, if_neg h44] <;> rfl) dX4_serviceWith_56
        · -- if_neg h30
          refine j_iconst hc (v := 1) dX4_serviceWith_33 (by decide) ?_
          refine j_goto hc 38 dX4_serviceWith_34 (by decide) ?_
          refine j_istore_n hc dX4_serviceWith_38 rfl ?_
          refine j_aload_n hc dX4_serviceWith_39 rfl ?_
          refine gf_X4_133 hc hb dX4_serviceWith_40 ?_
          refine j_iconst hc (v := 2) dX4_serviceWith_43 (by decide) ?_
          refine j_icmp_eq hc 51 dX4_serviceWith_44 (by decide) (fun h44 => ?_) (fun h44 => ?_)
          · -- if_pos h44
            refine j_iconst hc (v := 1) dX4_serviceWith_51 (by decide) ?_
            refine j_goto hc 56 dX4_serviceWith_52 (by decide) ?_
            exact j_iret hc rfl (by decide) (by decide) (by simp only [e_sw, if_neg h5, if_neg h13, if_pos h23, if_neg h30, if_pos h44] <;> rfl) dX4_serviceWith_56
          · -- if_neg h44
            refine j_iload_n hc dX4_serviceWith_47 rfl ?_
            refine j_if_eq hc 55 dX4_serviceWith_48 (by decide) (fun h48 => by exact absurd (show (1 : Int32) = (0 : Int32) from h48) (by decide)) (fun h48 => ?_)
            refine j_iconst hc (v := 1) dX4_serviceWith_51 (by decide) ?_
            refine j_goto hc 56 dX4_serviceWith_52 (by decide) ?_
            exact j_iret hc rfl (by decide) (by decide) (by simp only [e_sw, if_neg h5, if_neg h13, if_pos h23, if_neg h30, if_neg h44] <;> rfl) dX4_serviceWith_56
    · -- if_pos h13
      refine j_iconst hc (v := 0) dX4_serviceWith_16 (by decide) ?_
      exact j_iret hc rfl (by decide) (by decide) (by simp only [e_sw, if_neg h5, if_pos h13] <;> rfl) dX4_serviceWith_17
set_option maxRecDepth 100000 in
set_option maxHeartbeats 4000000 in
theorem c_X4_failUnansweredTries {l : Launch} {D : va_G} {cs : Nat → ClassId} {sa : Nat → Nat} (hl : l.stackTraces = false)  {ad : Nat → Nat} {n : Nat} {E : ES} {S : MS} {o : Nat → Int64} (hn30 : n ≤ 30) : CM l D cs sa yX4_failUnansweredTries cX4_failUnansweredTries 3 (Option.none : Option Jvm.ClassFile.FieldType) (RM 4 0 0) 0 0 [.ref (ad 0)] (WD ad cs n E S o) (none, none, WD ad cs n (e_fut n 30 0 E) S o) := by
  refine CM.of RX4 hl (by decide +kernel) rfl (Nat.le_of_ble_eq_true rfl) ?_
  intro p e s m args below meth c A hc ho hmn
  have loop : ∀ (k i : Nat) (E2 : ES), i + k = 30 → e_fut n 30 0 E = e_fut n k i E2 → J p l e (RM 4 0 0) s m args below meth c D A 3 0 0 (QE below args s D A 0 0 (WD ad cs n E S o) (none, none, WD ad cs n (e_fut n 30 0 E) S o)) (WD ad cs n E2 S o) 2 [(0, .ref (ad 0)), (1, .int (nI i))] [] := by
    intro k
    induction k with
    | zero =>
      intro i E2 hi hd
      refine j_iload_n hc dX4_failUnansweredTries_2 rfl ?_
      refine j_aload_n hc dX4_failUnansweredTries_3 rfl ?_
      refine gf_X4_40 hc dX4_failUnansweredTries_4 ?_
      refine ln_row hc dX4_failUnansweredTries_7 ?_
      refine j_icmp_ge hc 42 dX4_failUnansweredTries_8 (by decide) (fun h8 => ?_) (fun h8 => by exact absurd h8 (fun z => z (nI_le (a := 30) (by omega) (by omega))))
      exact j_vret hc rfl (by decide) (by decide) (by rw [hd]; rfl) dX4_failUnansweredTries_42
    | succ k ih =>
      intro i E2 hi hd
      refine j_iload_n hc dX4_failUnansweredTries_2 rfl ?_
      refine j_aload_n hc dX4_failUnansweredTries_3 rfl ?_
      refine gf_X4_40 hc dX4_failUnansweredTries_4 ?_
      refine ln_row hc dX4_failUnansweredTries_7 ?_
      refine j_icmp_ge hc 42 dX4_failUnansweredTries_8 (by decide) (fun h8 => by exact absurd h8 (nI_ge (b := 30) (by omega) (by omega))) (fun h8 => ?_)
      refine j_aload_n hc dX4_failUnansweredTries_11 rfl ?_
      refine gf_X4_40 hc dX4_failUnansweredTries_12 ?_
      refine j_iload_n hc dX4_failUnansweredTries_15 rfl ?_
      by_cases hb : i < n
      · refine al_row hc hb hn30 rfl dX4_failUnansweredTries_16 ?_
        refine j_astore_n hc dX4_failUnansweredTries_17 rfl ?_
        refine j_aload_n hc dX4_failUnansweredTries_18 rfl ?_
        refine j_ifnull hc dX4_failUnansweredTries_19 ?_
        refine j_aload_n hc dX4_failUnansweredTries_22 rfl ?_
        refine gf_X4_133 hc hb dX4_failUnansweredTries_23 ?_
        refine j_iconst hc (v := 1) dX4_failUnansweredTries_26 (by decide) ?_
        refine j_icmp_ne hc 36 dX4_failUnansweredTries_27 (by decide) (fun h27 => ?_) (fun h27 => ?_)
        · -- if_neg h27
          refine j_inc hc dX4_failUnansweredTries_36 rfl (z := 1) (by decide) rfl ?_
          refine j_goto hc 2 dX4_failUnansweredTries_39 (by decide) ?_
          refine j_lv [(0, .ref (ad 0)), (1, .int (nI i + 1))] ⟨rfl, rfl, trivial⟩ ?_
          rw [nI_1]
          exact ih (i + 1) _ (by omega) (by rw [hd]; simp only [e_fut, if_neg h8, if_pos hb, if_neg h27])
        · -- if_pos h27
          refine j_aload_n hc dX4_failUnansweredTries_30 rfl ?_
          refine j_aload_n hc dX4_failUnansweredTries_31 rfl ?_
          refine j_iconst hc (v := 4) dX4_failUnansweredTries_32 (by decide) ?_
          refine j_callV hc ho (c_X4_fail hl hb (by decide)) vc_X4_145 rfl ⟨rfl, rfl, by decide, by decide⟩ 0 rfl rfl rfl (Nat.le_of_ble_eq_true rfl) ⟨by decide, by decide⟩ dX4_failUnansweredTries_33 ⟨by decide, by decide⟩ (fun _ h => by cases h) (fun hr33 => ?_)
          refine j_inc hc dX4_failUnansweredTries_36 rfl (z := 1) (by decide) rfl ?_
          refine j_goto hc 2 dX4_failUnansweredTries_39 (by decide) ?_
          refine j_lv [(0, .ref (ad 0)), (1, .int (nI i + 1))] ⟨rfl, rfl, trivial⟩ ?_
          rw [nI_1]
          exact ih (i + 1) _ (by omega) (by rw [hd]; simp only [e_fut, if_neg h8, if_pos hb, if_pos h27])
      · refine al_rowN hc hb (by omega) rfl dX4_failUnansweredTries_16 ?_
        refine j_astore_nN hc dX4_failUnansweredTries_17 rfl ?_
        refine j_aload_nN hc dX4_failUnansweredTries_18 rfl ?_
        refine j_ifnullN hc 36 dX4_failUnansweredTries_19 (by decide) ?_
        refine j_inc hc dX4_failUnansweredTries_36 rfl (z := 1) (by decide) rfl ?_
        refine j_goto hc 2 dX4_failUnansweredTries_39 (by decide) ?_
        refine j_lv [(0, .ref (ad 0)), (1, .int (nI i + 1))] ⟨rfl, rfl, trivial⟩ ?_
        rw [nI_1]
        exact ih (i + 1) _ (by omega) (by rw [hd]; simp only [e_fut, if_neg h8, if_neg hb])
  refine j_iconst hc (v := 0) dX4_failUnansweredTries_0 (by decide) ?_
  refine j_istore_n hc dX4_failUnansweredTries_1 rfl ?_
  refine j_lv [(0, .ref (ad 0)), (1, .int 0)] ⟨rfl, rfl, trivial⟩ ?_
  exact loop 30 0 E rfl rfl
set_option maxRecDepth 100000 in
set_option maxHeartbeats 4000000 in
theorem c_X4_lookAtBills {l : Launch} {D : va_G} {cs : Nat → ClassId} {sa : Nat → Nat} (hl : l.stackTraces = false)  {ad : Nat → Nat} {n : Nat} {E : ES} {S : MS} {o : Nat → Int64} (hn30 : n ≤ 30) : CM l D cs sa yX4_lookAtBills cX4_lookAtBills 4 (Option.some Jvm.ClassFile.FieldType.int) (RM 5 0 0) 0 0 [.ref (ad 0)] (WD ad cs n E S o) (none, some (.int (e_lab n 30 0 0 E).1), WD ad cs n (e_lab n 30 0 0 E).2 S o) := by
  refine CM.of RX4 hl (by decide +kernel) rfl (Nat.le_of_ble_eq_true rfl) ?_
  intro p e s m args below meth c A hc ho hmn
  have loop : ∀ (k i : Nat) (c0 : Int32) (E2 : ES), i + k = 30 → e_lab n 30 0 0 E = e_lab n k i c0 E2 → J p l e (RM 5 0 0) s m args below meth c D A 4 0 0 (QE below args s D A 0 0 (WD ad cs n E S o) (none, some (.int (e_lab n 30 0 0 E).1), WD ad cs n (e_lab n 30 0 0 E).2 S o)) (WD ad cs n E2 S o) 4 [(0, .ref (ad 0)), (1, .int c0), (2, .int (nI i))] [] := by
    intro k
    induction k with
    | zero =>
      intro i c0 E2 hi hd
      refine j_iload_n hc dX4_lookAtBills_4 rfl ?_
      refine j_aload_n hc dX4_lookAtBills_5 rfl ?_
      refine gf_X4_40 hc dX4_lookAtBills_6 ?_
      refine ln_row hc dX4_lookAtBills_9 ?_
      refine j_icmp_ge hc 41 dX4_lookAtBills_10 (by decide) (fun h10 => ?_) (fun h10 => by exact absurd h10 (fun z => z (nI_le (a := 30) (by omega) (by omega))))
      refine j_iload_n hc dX4_lookAtBills_41 rfl ?_
      exact j_iret hc rfl (by decide) (by decide) (by rw [hd]; rfl) dX4_lookAtBills_42
    | succ k ih =>
      intro i c0 E2 hi hd
      refine j_iload_n hc dX4_lookAtBills_4 rfl ?_
      refine j_aload_n hc dX4_lookAtBills_5 rfl ?_
      refine gf_X4_40 hc dX4_lookAtBills_6 ?_
      refine ln_row hc dX4_lookAtBills_9 ?_
      refine j_icmp_ge hc 41 dX4_lookAtBills_10 (by decide) (fun h10 => by exact absurd h10 (nI_ge (b := 30) (by omega) (by omega))) (fun h10 => ?_)
      refine j_aload_n hc dX4_lookAtBills_13 rfl ?_
      refine gf_X4_40 hc dX4_lookAtBills_14 ?_
      refine j_iload_n hc dX4_lookAtBills_17 rfl ?_
      by_cases hb : i < n
      · refine al_row hc hb hn30 rfl dX4_lookAtBills_18 ?_
        refine j_astore_n hc dX4_lookAtBills_19 rfl ?_
        refine j_aload_n hc dX4_lookAtBills_20 rfl ?_
        refine j_ifnull hc dX4_lookAtBills_21 ?_
        refine j_aload_n hc dX4_lookAtBills_24 rfl ?_
        refine j_aload_n hc dX4_lookAtBills_25 rfl ?_
        refine j_callV hc ho (c_X4_lookAt hl hb) vc_X4_240 rfl ⟨rfl, rfl, by decide, by decide⟩ 0 rfl rfl rfl (Nat.le_of_ble_eq_true rfl) ⟨by decide, by decide⟩ dX4_lookAtBills_26 ⟨by decide, by decide⟩ (fun _ h => by cases h) (fun hr26 => ?_)
        refine j_if_eq hc 35 dX4_lookAtBills_29 (by decide) (fun h29 => ?_) (fun h29 => ?_)
        · -- if_pos h29
          refine j_inc hc dX4_lookAtBills_35 rfl (z := 1) (by decide) rfl ?_
          refine j_goto hc 4 dX4_lookAtBills_38 (by decide) ?_
          refine j_lv [(0, .ref (ad 0)), (1, .int c0), (2, .int (nI i + 1))] ⟨rfl, rfl, rfl, trivial⟩ ?_
          rw [nI_1]
          exact ih (i + 1) _ _ (by omega) (by rw [hd]; simp only [e_lab, if_neg h10, if_pos hb, if_pos h29])
        · -- if_neg h29
          refine j_inc hc dX4_lookAtBills_32 rfl (z := 1) (by decide) rfl ?_
          refine j_inc hc dX4_lookAtBills_35 rfl (z := 1) (by decide) rfl ?_
          refine j_goto hc 4 dX4_lookAtBills_38 (by decide) ?_
          refine j_lv [(0, .ref (ad 0)), (1, .int (c0 + 1)), (2, .int (nI i + 1))] ⟨rfl, rfl, rfl, trivial⟩ ?_
          rw [nI_1]
          exact ih (i + 1) _ _ (by omega) (by rw [hd]; simp only [e_lab, if_neg h10, if_pos hb, if_neg h29])
      · refine al_rowN hc hb (by omega) rfl dX4_lookAtBills_18 ?_
        refine j_astore_nN hc dX4_lookAtBills_19 rfl ?_
        refine j_aload_nN hc dX4_lookAtBills_20 rfl ?_
        refine j_ifnullN hc 35 dX4_lookAtBills_21 (by decide) ?_
        refine j_inc hc dX4_lookAtBills_35 rfl (z := 1) (by decide) rfl ?_
        refine j_goto hc 4 dX4_lookAtBills_38 (by decide) ?_
        refine j_lv [(0, .ref (ad 0)), (1, .int c0), (2, .int (nI i + 1))] ⟨rfl, rfl, rfl, trivial⟩ ?_
        rw [nI_1]
        exact ih (i + 1) _ _ (by omega) (by rw [hd]; simp only [e_lab, if_neg h10, if_neg hb])
  refine j_iconst hc (v := 0) dX4_lookAtBills_0 (by decide) ?_
  refine j_istore_n hc dX4_lookAtBills_1 rfl ?_
  refine j_iconst hc (v := 0) dX4_lookAtBills_2 (by decide) ?_
  refine j_istore_n hc dX4_lookAtBills_3 rfl ?_
  refine j_lv [(0, .ref (ad 0)), (1, .int 0), (2, .int 0)] ⟨rfl, rfl, rfl, trivial⟩ ?_
  exact loop 30 0 0 E rfl rfl
