def ush (x k : Int32) : Int32 := (x.toUInt32 >>> (k.toUInt32 &&& Int32.toUInt32 31)).toInt32
/-- Integer.bitCount -/
def e_bc (x : Int32) : Int32 :=
  let x1 := x - (ush x 1 &&& 1431655765)
  let x2 := (x1 &&& 858993459) + (ush x1 2 &&& 858993459)
  let x3 := (x2 + ush x2 4) &&& 252645135
  let x4 := x3 + ush x3 8
  let x5 := x4 + ush x4 16
  x5 &&& 63
theorem fb_lt {n : Nat} {k : Int32} (h : e_fb n k = none) : k.toNatClampNeg < n := by
  unfold e_fb at h
  split at h
  · cases h
  · split at h
    · cases h
    · split at h
      · assumption
      · cases h
theorem fb_in {n : Nat} {k : Int32} (h : e_fb n k = none) : vp_in k 30 := by
  unfold e_fb at h
  split at h
  · cases h
  · rename_i h1
    split at h
    · cases h
    · rename_i h2
      exact vpi (n := 30) h1 h2 (by decide)
theorem rng_none {k x y : Int32} (h : e_rng k x y = none) : x.toInt ≤ k.toInt ∧ k.toInt ≤ y.toInt := by
  unfold e_rng at h
  split at h
  · cases h
  · rename_i h1
    split at h
    · rename_i h2
      rw [i32_lt] at h1
      rw [i32_le] at h2
      omega
    · cases h
/-- a throw, or the answer of a state -/
def e_setWeekday (E : ES) (k f : Int32) : ER := if k < 0 then (some xIO, 0, E) else if k < 7 then (if e_ww E k f = 0 then (some xIS, 0, E) else (none, e_bc (e_ww E k f), eG E 12 (e_ww E k f))) else (some xIO, 0, E)
def e_addHoliday (E : ES) (d : Int32) : ER := ck (e_rng d (E.1 5 + 1) (E.1 5 + 60)) E (none, if e_hol E d = 0 then 1 else 0, e_khol E d)
def e_addGap (E : ES) (r v : Int32) : ER := ck (e_rsn r) E (ck (e_rng v 1 30) E (if E.1 (14 + (r - 1).toNatClampNeg) < 6 then (none, (e_app E (r - 1).toNatClampNeg v).1 (14 + (r - 1).toNatClampNeg), e_app E (r - 1).toNatClampNeg v) else (some xIS, 0, E)))
def e_clearGaps (E : ES) (r : Int32) : ER := ck (e_rsn r) E (none, E.1 (14 + (r - 1).toNatClampNeg), eG E (14 + (r - 1).toNatClampNeg) 0)
def e_setTimes (E : ES) (x y : Int32) : ER := ck (e_rng x 1 60) E (ck (e_rng y 1 90) E (none, E.1 6, eG (eG E 6 x) 7 y))
def e_outcome (n : Nat) (E : ES) (p x : Int32) : ER := ck (e_fb n p) E (ck (e_rng x 0 4) E (if E.2.1 4 p.toNatClampNeg = 1 then (if x = 0 then (none, (e_take E p.toNatClampNeg (E.2.1 3 p.toNatClampNeg)).2.1 4 p.toNatClampNeg, e_take E p.toNatClampNeg (E.2.1 3 p.toNatClampNeg)) else (none, (e_fail E p.toNatClampNeg x).2.1 4 p.toNatClampNeg, e_fail E p.toNatClampNeg x)) else (some xIS, 0, E)))
def e_pay (n : Nat) (E : ES) (p v : Int32) : ER := ck (e_fb n p) E (ck (e_rng v 1 9999) E (if E.2.1 4 p.toNatClampNeg = 1 then (some xIS, 0, E) else if E.2.1 4 p.toNatClampNeg = 6 then (some xIS, 0, E) else if v ≤ E.2.1 3 p.toNatClampNeg then (none, (e_take E p.toNatClampNeg v).2.1 3 p.toNatClampNeg, e_take E p.toNatClampNeg v) else (some xIS, 0, E)))
def e_prom1 (E : ES) (b : Nat) (v : Int32) : ES :=
  let E1 := eV E 7 b (E.2.1 7 b + 1)
  let E2 := eV E1 9 b (E1.2.1 4 b)
  let E3 := eV E2 10 b (E2.2.1 5 b - E2.1 5)
  e_enter E3 b 4 (E3.1 5 + v)
def e_prom0 (E : ES) (b : Nat) (v : Int32) : ER := if E.2.1 7 b < 2 then (none, (e_prom1 E b v).2.1 5 b, e_prom1 E b v) else (some xIS, 0, E)
def e_promise (n : Nat) (E : ES) (p v : Int32) : ER := ck (e_fb n p) E (ck (e_rng v 1 30) E (if E.2.1 4 p.toNatClampNeg = 0 then e_prom0 E p.toNatClampNeg v else if E.2.1 4 p.toNatClampNeg = 2 then e_prom0 E p.toNatClampNeg v else if E.2.1 4 p.toNatClampNeg = 3 then e_prom0 E p.toNatClampNeg v else (some xIS, 0, E)))
def e_day (n : Nat) (E : ES) : Int32 × ES := e_lab n 30 0 0 (eG (e_fut n 30 0 E) 5 ((e_fut n 30 0 E).1 5 + 1))
def e_days (n : Nat) : Nat → Int32 → ES → Int32 × ES
  | 0, c, E => (c, E)
  | k + 1, c, E => e_days n k (c + (e_day n E).1) (e_day n E).2
def e_pass (n : Nat) (E : ES) (p : Int32) : ER := ck (e_rng p 1 60) E (none, (e_days n p.toNatClampNeg 0 E).1, (e_days n p.toNatClampNeg 0 E).2)
def e_isCharging (E : ES) (d : Int32) : ER := ck (e_rng d 0 1000000) E (none, e_chg E d, E)
def e_bf (n : Nat) (E : ES) (k : Nat) (p : Int32) : ER := ck (e_fb n p) E (none, E.2.1 k p.toNatClampNeg, E)
def e_failures (n : Nat) (E : ES) (p r : Int32) : ER := ck (e_fb n p) E (ck (e_rsn r) E (none, E.2.1 (40 + p.toNatClampNeg) (r - 1).toNatClampNeg, E))
def e_svc (n : Nat) (E : ES) (x : Int32) : Nat → Nat → Int32 → Int32
  | 0, _, c => c
  | k + 1, i, c => if i < n then (if E.2.1 1 i = x then e_svc n E x k (i + 1) (if e_sw E i < c then e_sw E i else c) else e_svc n E x k (i + 1) c) else e_svc n E x k (i + 1) c
def e_service (n : Nat) (E : ES) (x : Int32) : ER := ck (e_acc x) E (none, e_svc n E x 30 0 2, E)
def e_lin (n : Nat) (E : ES) (x y : Int32) : Nat → Nat → Int32 → Int32
  | 0, _, c => c
  | k + 1, i, c => if i < n then (if E.2.1 1 i = x then (if E.2.1 4 i = y then e_lin n E x y k (i + 1) (c + E.2.1 3 i) else e_lin n E x y k (i + 1) c) else e_lin n E x y k (i + 1) c) else e_lin n E x y k (i + 1) c
def e_leftIn (n : Nat) (E : ES) (x y : Int32) : ER := ck (e_acc x) E (ck (e_rng y 0 6) E (none, e_lin n E x y 30 0 0, E))
def e_event (E : ES) (k : Int32) : ER := if k < 0 then (some xIO, 0, E) else if k < e_told E then (none, e_cda E k, E) else (some xIO, 0, E)
def e_stateAt (n : Nat) (E : ES) (p d : Int32) : ER := ck (e_fb n p) E (ck (e_rng d 0 (E.1 5)) E (none, e_lso E p d (e_told E).toNatClampNeg 0, E))
set_option maxRecDepth 100000 in
set_option maxHeartbeats 4000000 in
theorem c_J6_bitCount_0f7a4 {l : Launch} {D : va_G} {cs : Nat → ClassId} {sa : Nat → Nat} (hl : l.stackTraces = false)  {w : va_W} {x : Int32} : CM l D cs sa yJ6_bitCount_0f7a4 cJ6_bitCount_0f7a4 1 (Option.some Jvm.ClassFile.FieldType.int) (RM 0 0 0) 0 0 [.int x] w (none, some (.int (e_bc x)), w) := by
  refine CM.ofF RJ6 hl (by decide +kernel) rfl (Nat.le_of_ble_eq_true rfl) ?_
  intro p e s m args below meth c A hc ho hmn
  refine j_iload_n hc dJ6_bitCount_0f7a4_0 rfl ?_
  refine j_iload_n hc dJ6_bitCount_0f7a4_1 rfl ?_
  refine j_iconst hc (v := 1) dJ6_bitCount_0f7a4_2 (by decide) ?_
  refine j_iushr hc dJ6_bitCount_0f7a4_3 ?_
  refine j_ldcw hc wt_413 dJ6_bitCount_0f7a4_4 ?_
  refine j_iand hc dJ6_bitCount_0f7a4_7 ?_
  refine j_isub hc dJ6_bitCount_0f7a4_8 ?_
  refine j_istore_n hc dJ6_bitCount_0f7a4_9 rfl ?_
  refine j_iload_n hc dJ6_bitCount_0f7a4_10 rfl ?_
  refine j_ldcw hc wt_414 dJ6_bitCount_0f7a4_11 ?_
  refine j_iand hc dJ6_bitCount_0f7a4_14 ?_
  refine j_iload_n hc dJ6_bitCount_0f7a4_15 rfl ?_
  refine j_iconst hc (v := 2) dJ6_bitCount_0f7a4_16 (by decide) ?_
  refine j_iushr hc dJ6_bitCount_0f7a4_17 ?_
  refine j_ldcw hc wt_414 dJ6_bitCount_0f7a4_18 ?_
  refine j_iand hc dJ6_bitCount_0f7a4_21 ?_
  refine j_iadd hc dJ6_bitCount_0f7a4_22 ?_
  refine j_istore_n hc dJ6_bitCount_0f7a4_23 rfl ?_
  refine j_iload_n hc dJ6_bitCount_0f7a4_24 rfl ?_
  refine j_iload_n hc dJ6_bitCount_0f7a4_25 rfl ?_
  refine j_iconst hc (v := 4) dJ6_bitCount_0f7a4_26 (by decide) ?_
  refine j_iushr hc dJ6_bitCount_0f7a4_27 ?_
  refine j_iadd hc dJ6_bitCount_0f7a4_28 ?_
  refine j_ldcw hc wt_415 dJ6_bitCount_0f7a4_29 ?_
  refine j_iand hc dJ6_bitCount_0f7a4_32 ?_
  refine j_istore_n hc dJ6_bitCount_0f7a4_33 rfl ?_
  refine j_iload_n hc dJ6_bitCount_0f7a4_34 rfl ?_
  refine j_iload_n hc dJ6_bitCount_0f7a4_35 rfl ?_
  refine j_bipush hc (v := 8) dJ6_bitCount_0f7a4_36 (by decide) ?_
  refine j_iushr hc dJ6_bitCount_0f7a4_38 ?_
  refine j_iadd hc dJ6_bitCount_0f7a4_39 ?_
  refine j_istore_n hc dJ6_bitCount_0f7a4_40 rfl ?_
  refine j_iload_n hc dJ6_bitCount_0f7a4_41 rfl ?_
  refine j_iload_n hc dJ6_bitCount_0f7a4_42 rfl ?_
  refine j_bipush hc (v := 16) dJ6_bitCount_0f7a4_43 (by decide) ?_
  refine j_iushr hc dJ6_bitCount_0f7a4_45 ?_
  refine j_iadd hc dJ6_bitCount_0f7a4_46 ?_
  refine j_istore_n hc dJ6_bitCount_0f7a4_47 rfl ?_
  refine j_iload_n hc dJ6_bitCount_0f7a4_48 rfl ?_
  refine j_bipush hc (v := 63) dJ6_bitCount_0f7a4_49 (by decide) ?_
  refine j_iand hc dJ6_bitCount_0f7a4_51 ?_
  exact j_iret hc rfl (by decide) (by decide) (rfl) dJ6_bitCount_0f7a4_52
set_option maxRecDepth 100000 in
set_option maxHeartbeats 4000000 in
theorem c_X4_setWeekday {l : Launch} {D : va_G} {cs : Nat → ClassId} {sa : Nat → Nat} (hl : l.stackTraces = false)  {ad : Nat → Nat} {n : Nat} {E : ES} {S : MS} {o : Nat → Int64} {k f : Int32} : CM l D cs sa yX4_setWeekday cX4_setWeekday 4 (Option.some Jvm.ClassFile.FieldType.int) (RM 7 8 64) 8 64 [.ref (ad 0), .int k, .int f] (WD ad cs n E S o) ((e_setWeekday E k f).1, some (.int (e_setWeekday E k f).2.1), WD ad cs n (e_setWeekday E k f).2.2 S o) := by
  refine CM.of RX4 hl (by decide +kernel) rfl (Nat.le_of_ble_eq_true rfl) ?_
  intro p e s m args below meth c A hc ho hmn
  refine j_iload_n hc dX4_setWeekday_0 rfl ?_
  refine j_if_lt hc 10 dX4_setWeekday_1 (by decide) (fun h1 => ?_) (fun h1 => ?_)
  · -- if_pos h1
    exact j_thr_62 hc ho 60 (tx := "no such weekday") (by decide) dX4_setWeekday_10 dX4_setWeekday_13 dX4_setWeekday_14 dX4_setWeekday_16 dX4_setWeekday_19 (by decide) (Nat.le_of_ble_eq_true rfl) (by decide) (by decide) (by decide) (by decide) ⟨by simp only [e_setWeekday, if_pos h1] <;> rfl, rfl⟩
  · -- if_neg h1
    refine j_iload_n hc dX4_setWeekday_4 rfl ?_
    refine j_bipush hc (v := 7) dX4_setWeekday_5 (by decide) ?_
    refine j_icmp_lt hc 20 dX4_setWeekday_7 (by decide) (fun h7 => ?_) (fun h7 => ?_)
    · -- if_pos h7
      refine j_aload_n hc dX4_setWeekday_20 rfl ?_
      refine gf_X4_10 hc dX4_setWeekday_21 ?_
      refine j_iload_n hc dX4_setWeekday_24 rfl ?_
      refine j_iload_n hc dX4_setWeekday_25 rfl ?_
      refine j_callV hc ho (c_X1_weekdaysWith hl) vc_X4_65 rfl ⟨rfl, rfl, by decide, by decide⟩ 1 rfl rfl rfl (Nat.le_of_ble_eq_true rfl) ⟨by decide, by decide⟩ dX4_setWeekday_26 ⟨by decide, by decide⟩ (fun _ h => by cases h) (fun hr26 => ?_)
      refine j_istore_n hc dX4_setWeekday_29 rfl ?_
      refine j_iload_n hc dX4_setWeekday_30 rfl ?_
      refine j_if_ne hc 44 dX4_setWeekday_31 (by decide) (fun h31 => ?_) (fun h31 => ?_)
      · -- if_neg h31
        refine j_aload_n hc dX4_setWeekday_44 rfl ?_
        refine gf_X4_10 hc dX4_setWeekday_45 ?_
        refine j_iload_n hc dX4_setWeekday_48 rfl ?_
        refine pf_X4_74 hc dX4_setWeekday_49 ?_
        refine j_iload_n hc dX4_setWeekday_52 rfl ?_
        refine j_callS hc ho (c_J6_bitCount_0f7a4 hl) sc_X4_77 rfl ⟨rfl, rfl, by decide, by decide⟩ rfl (Nat.le_of_ble_eq_true rfl) ⟨by decide, by decide⟩ dX4_setWeekday_53 ⟨by decide, by decide⟩ (fun _ h => by cases h) (fun hr53 => ?_)
        exact j_iret hc rfl (by decide) (by decide) (by simp only [e_setWeekday, if_neg h1, if_pos h7, if_neg h31] <;> rfl) dX4_setWeekday_56
      · -- if_pos h31
        exact j_thr_73 hc ho 71 (tx := "no weekday would be left for charging") (by decide) dX4_setWeekday_34 dX4_setWeekday_37 dX4_setWeekday_38 dX4_setWeekday_40 dX4_setWeekday_43 (by decide) (Nat.le_of_ble_eq_true rfl) (by decide) (by decide) (by decide) (by decide) ⟨by simp only [e_setWeekday, if_neg h1, if_pos h7, if_pos h31] <;> rfl, rfl⟩
    · -- if_neg h7
      exact j_thr_62 hc ho 60 (tx := "no such weekday") (by decide) dX4_setWeekday_10 dX4_setWeekday_13 dX4_setWeekday_14 dX4_setWeekday_16 dX4_setWeekday_19 (by decide) (Nat.le_of_ble_eq_true rfl) (by decide) (by decide) (by decide) (by decide) ⟨by simp only [e_setWeekday, if_neg h1, if_neg h7] <;> rfl, rfl⟩
set_option maxRecDepth 100000 in
set_option maxHeartbeats 4000000 in
theorem c_X4_addHoliday {l : Launch} {D : va_G} {cs : Nat → ClassId} {sa : Nat → Nat} (hl : l.stackTraces = false)  {ad : Nat → Nat} {n : Nat} {E : ES} {S : MS} {o : Nat → Int64} {d : Int32} : CM l D cs sa yX4_addHoliday cX4_addHoliday 3 (Option.some Jvm.ClassFile.FieldType.boolean) (RM 7 8 64) 8 64 [.ref (ad 0), .int d] (WD ad cs n E S o) ((e_addHoliday E d).1, some (.int (e_addHoliday E d).2.1), WD ad cs n (e_addHoliday E d).2.2 S o) := by
  refine CM.of RX4 hl (by decide +kernel) rfl (Nat.le_of_ble_eq_true rfl) ?_
  intro p e s m args below meth c A hc ho hmn
  refine j_iload_n hc dX4_addHoliday_0 rfl ?_
  refine j_aload_n hc dX4_addHoliday_1 rfl ?_
  refine gf_X4_83 hc dX4_addHoliday_2 ?_
  refine j_iconst hc (v := 1) dX4_addHoliday_5 (by decide) ?_
  refine j_iadd hc dX4_addHoliday_6 ?_
  refine j_aload_n hc dX4_addHoliday_7 rfl ?_
  refine gf_X4_83 hc dX4_addHoliday_8 ?_
  refine j_bipush hc (v := 60) dX4_addHoliday_11 (by decide) ?_
  refine j_iadd hc dX4_addHoliday_13 ?_
  refine j_callS hc ho (c_X4_checkRange hl) sc_X4_86 rfl ⟨rfl, rfl, by decide, by decide⟩ rfl (Nat.le_of_ble_eq_true rfl) ⟨by decide, by decide⟩ dX4_addHoliday_14 ⟨by decide, by decide⟩ (fun E9 h9 => ⟨by simp only [e_addHoliday, ck_some h9], rfl⟩) (fun hr14 => ?_)
  refine j_aload_n hc dX4_addHoliday_17 rfl ?_
  refine gf_X4_10 hc dX4_addHoliday_18 ?_
  refine j_iload_n hc dX4_addHoliday_21 rfl ?_
  refine j_callV hc ho (c_X1_isHoliday hl) vc_X4_90 rfl ⟨rfl, rfl, by decide, by decide⟩ 1 rfl rfl rfl (Nat.le_of_ble_eq_true rfl) ⟨by decide, by decide⟩ dX4_addHoliday_22 ⟨by decide, by decide⟩ (fun _ h => by cases h) (fun hr22 => ?_)
  refine j_if_ne hc 32 dX4_addHoliday_25 (by decide) (fun h25 => ?_) (fun h25 => ?_)
  · -- if_neg h25
    refine j_iconst hc (v := 0) dX4_addHoliday_32 (by decide) ?_
    refine j_istore_n hc dX4_addHoliday_33 rfl ?_
    refine j_aload_n hc dX4_addHoliday_34 rfl ?_
    refine gf_X4_10 hc dX4_addHoliday_35 ?_
    refine j_iload_n hc dX4_addHoliday_38 rfl ?_
    refine j_callV hc ho (c_X1_keepHoliday hl) vc_X4_94 rfl ⟨rfl, rfl, by decide, by decide⟩ 1 rfl rfl rfl (Nat.le_of_ble_eq_true rfl) ⟨by decide, by decide⟩ dX4_addHoliday_39 ⟨by decide, by decide⟩ (fun _ h => by cases h) (fun hr39 => ?_)
    refine j_iload_n hc dX4_addHoliday_42 rfl ?_
    exact j_zret hc rfl rfl (by decide) (by decide) (by simp only [e_addHoliday, ck_none hr14, if_neg h25] <;> rfl) dX4_addHoliday_43
  · -- if_pos h25
    refine j_iconst hc (v := 1) dX4_addHoliday_28 (by decide) ?_
    refine j_goto hc 33 dX4_addHoliday_29 (by decide) ?_
    refine j_istore_n hc dX4_addHoliday_33 rfl ?_
    refine j_aload_n hc dX4_addHoliday_34 rfl ?_
    refine gf_X4_10 hc dX4_addHoliday_35 ?_
    refine j_iload_n hc dX4_addHoliday_38 rfl ?_
    refine j_callV hc ho (c_X1_keepHoliday hl) vc_X4_94 rfl ⟨rfl, rfl, by decide, by decide⟩ 1 rfl rfl rfl (Nat.le_of_ble_eq_true rfl) ⟨by decide, by decide⟩ dX4_addHoliday_39 ⟨by decide, by decide⟩ (fun _ h => by cases h) (fun hr39 => ?_)
    refine j_iload_n hc dX4_addHoliday_42 rfl ?_
    exact j_zret hc rfl rfl (by decide) (by decide) (by simp only [e_addHoliday, ck_none hr14, if_pos h25] <;> rfl) dX4_addHoliday_43
set_option maxRecDepth 100000 in
set_option maxHeartbeats 4000000 in
theorem c_X4_addGap {l : Launch} {D : va_G} {cs : Nat → ClassId} {sa : Nat → Nat} (hl : l.stackTraces = false)  {ad : Nat → Nat} {n : Nat} {E : ES} {S : MS} {o : Nat → Int64} {r v : Int32} : CM l D cs sa yX4_addGap cX4_addGap 4 (Option.some Jvm.ClassFile.FieldType.int) (RM 7 8 64) 8 64 [.ref (ad 0), .int r, .int v] (WD ad cs n E S o) ((e_addGap E r v).1, some (.int (e_addGap E r v).2.1), WD ad cs n (e_addGap E r v).2.2 S o) := by
  refine CM.of RX4 hl (by decide +kernel) rfl (Nat.le_of_ble_eq_true rfl) ?_
  intro p e s m args below meth c A hc ho hmn
  refine j_aload_n hc dX4_addGap_0 rfl ?_
  refine gf_X4_34 hc dX4_addGap_1 ?_
  refine j_iload_n hc dX4_addGap_4 rfl ?_
  refine j_callS hc ho (c_X4_indexOfReason hl) sc_X4_98 rfl ⟨rfl, rfl, by decide, by decide⟩ rfl (Nat.le_of_ble_eq_true rfl) ⟨by decide, by decide⟩ dX4_addGap_5 ⟨by decide, by decide⟩ (fun E9 h9 => ⟨by simp only [e_addGap, ck_some h9], rfl⟩) (fun hr5 => ?_)
  refine al_gapsp hc (vrs hr5) dX4_addGap_8 ?_
  refine j_astore_n hc dX4_addGap_9 rfl ?_
  refine j_iload_n hc dX4_addGap_10 rfl ?_
  refine j_iconst hc (v := 1) dX4_addGap_11 (by decide) ?_
  refine j_bipush hc (v := 30) dX4_addGap_12 (by decide) ?_
  refine j_callS hc ho (c_X4_checkRange hl) sc_X4_86 rfl ⟨rfl, rfl, by decide, by decide⟩ rfl (Nat.le_of_ble_eq_true rfl) ⟨by decide, by decide⟩ dX4_addGap_14 ⟨by decide, by decide⟩ (fun E9 h9 => ⟨by simp only [e_addGap, ck_none hr5, ck_some h9], rfl⟩) (fun hr14 => ?_)
  refine j_aload_n hc dX4_addGap_17 rfl ?_
  refine gf_X4_101 hc (vrs4 hr5) dX4_addGap_18 ?_
  refine j_bipush hc (v := 6) dX4_addGap_21 (by decide) ?_
  refine j_icmp_lt hc 36 dX4_addGap_23 (by decide) (fun h23 => ?_) (fun h23 => ?_)
  · -- if_pos h23
    refine j_aload_n hc dX4_addGap_36 rfl ?_
    refine j_iload_n hc dX4_addGap_37 rfl ?_
    refine j_callV hc ho (c_X3_append hl (vrs4 hr5)) vc_X4_106 rfl ⟨rfl, rfl, by decide, by decide⟩ _ (wd_gap (vrs4 hr5)) rfl rfl (Nat.le_of_ble_eq_true rfl) ⟨by decide, by decide⟩ dX4_addGap_38 ⟨by decide, by decide⟩ (fun _ h => by cases h) (fun hr38 => ?_)
    refine j_aload_n hc dX4_addGap_41 rfl ?_
    refine gf_X4_101 hc (vrs4 hr5) dX4_addGap_42 ?_
    exact j_iret hc rfl (by decide) (by decide) (by simp only [e_addGap, ck_none hr5, ck_none hr14, if_pos h23] <;> rfl) dX4_addGap_45
  · -- if_neg h23
    exact j_thr_73 hc ho 104 (tx := "the row of gaps is full") (by decide) dX4_addGap_26 dX4_addGap_29 dX4_addGap_30 dX4_addGap_32 dX4_addGap_35 (by decide) (Nat.le_of_ble_eq_true rfl) (by decide) (by decide) (by decide) (by decide) ⟨by simp only [e_addGap, ck_none hr5, ck_none hr14, if_neg h23] <;> rfl, rfl⟩
set_option maxRecDepth 100000 in
set_option maxHeartbeats 4000000 in
theorem c_X4_clearGaps {l : Launch} {D : va_G} {cs : Nat → ClassId} {sa : Nat → Nat} (hl : l.stackTraces = false)  {ad : Nat → Nat} {n : Nat} {E : ES} {S : MS} {o : Nat → Int64} {r : Int32} : CM l D cs sa yX4_clearGaps cX4_clearGaps 4 (Option.some Jvm.ClassFile.FieldType.int) (RM 7 8 64) 8 64 [.ref (ad 0), .int r] (WD ad cs n E S o) ((e_clearGaps E r).1, some (.int (e_clearGaps E r).2.1), WD ad cs n (e_clearGaps E r).2.2 S o) := by
  refine CM.of RX4 hl (by decide +kernel) rfl (Nat.le_of_ble_eq_true rfl) ?_
  intro p e s m args below meth c A hc ho hmn
  refine j_aload_n hc dX4_clearGaps_0 rfl ?_
  refine gf_X4_34 hc dX4_clearGaps_1 ?_
  refine j_iload_n hc dX4_clearGaps_4 rfl ?_
  refine j_callS hc ho (c_X4_indexOfReason hl) sc_X4_98 rfl ⟨rfl, rfl, by decide, by decide⟩ rfl (Nat.le_of_ble_eq_true rfl) ⟨by decide, by decide⟩ dX4_clearGaps_5 ⟨by decide, by decide⟩ (fun E9 h9 => ⟨by simp only [e_clearGaps, ck_some h9], rfl⟩) (fun hr5 => ?_)
  refine al_gapsp hc (vrs hr5) dX4_clearGaps_8 ?_
  refine j_astore_n hc dX4_clearGaps_9 rfl ?_
  refine j_aload_n hc dX4_clearGaps_10 rfl ?_
  refine gf_X4_101 hc (vrs4 hr5) dX4_clearGaps_11 ?_
  refine j_istore_n hc dX4_clearGaps_14 rfl ?_
  refine j_aload_n hc dX4_clearGaps_15 rfl ?_
  refine j_iconst hc (v := 0) dX4_clearGaps_16 (by decide) ?_
  refine pf_X4_101 hc (vrs4 hr5) dX4_clearGaps_17 ?_
  refine j_iload_n hc dX4_clearGaps_20 rfl ?_
  exact j_iret hc rfl (by decide) (by decide) (by simp only [e_clearGaps, ck_none hr5] <;> rfl) dX4_clearGaps_21
set_option maxRecDepth 100000 in
set_option maxHeartbeats 4000000 in
theorem c_X4_setTimes {l : Launch} {D : va_G} {cs : Nat → ClassId} {sa : Nat → Nat} (hl : l.stackTraces = false)  {ad : Nat → Nat} {n : Nat} {E : ES} {S : MS} {o : Nat → Int64} {x y : Int32} : CM l D cs sa yX4_setTimes cX4_setTimes 4 (Option.some Jvm.ClassFile.FieldType.int) (RM 7 8 64) 8 64 [.ref (ad 0), .int x, .int y] (WD ad cs n E S o) ((e_setTimes E x y).1, some (.int (e_setTimes E x y).2.1), WD ad cs n (e_setTimes E x y).2.2 S o) := by
  refine CM.of RX4 hl (by decide +kernel) rfl (Nat.le_of_ble_eq_true rfl) ?_
  intro p e s m args below meth c A hc ho hmn
  refine j_iload_n hc dX4_setTimes_0 rfl ?_
  refine j_iconst hc (v := 1) dX4_setTimes_1 (by decide) ?_
  refine j_bipush hc (v := 60) dX4_setTimes_2 (by decide) ?_
  refine j_callS hc ho (c_X4_checkRange hl) sc_X4_86 rfl ⟨rfl, rfl, by decide, by decide⟩ rfl (Nat.le_of_ble_eq_true rfl) ⟨by decide, by decide⟩ dX4_setTimes_4 ⟨by decide, by decide⟩ (fun E9 h9 => ⟨by simp only [e_setTimes, ck_some h9], rfl⟩) (fun hr4 => ?_)
  refine j_iload_n hc dX4_setTimes_7 rfl ?_
  refine j_iconst hc (v := 1) dX4_setTimes_8 (by decide) ?_
  refine j_bipush hc (v := 90) dX4_setTimes_9 (by decide) ?_
  refine j_callS hc ho (c_X4_checkRange hl) sc_X4_86 rfl ⟨rfl, rfl, by decide, by decide⟩ rfl (Nat.le_of_ble_eq_true rfl) ⟨by decide, by decide⟩ dX4_setTimes_11 ⟨by decide, by decide⟩ (fun E9 h9 => ⟨by simp only [e_setTimes, ck_none hr4, ck_some h9], rfl⟩) (fun hr11 => ?_)
  refine j_aload_n hc dX4_setTimes_14 rfl ?_
  refine gf_X4_51 hc dX4_setTimes_15 ?_
  refine j_istore_n hc dX4_setTimes_18 rfl ?_
  refine j_aload_n hc dX4_setTimes_19 rfl ?_
  refine j_iload_n hc dX4_setTimes_20 rfl ?_
  refine pf_X4_51 hc dX4_setTimes_21 ?_
  refine j_aload_n hc dX4_setTimes_24 rfl ?_
  refine j_iload_n hc dX4_setTimes_25 rfl ?_
  refine pf_X4_55 hc dX4_setTimes_26 ?_
  refine j_iload_n hc dX4_setTimes_29 rfl ?_
  exact j_iret hc rfl (by decide) (by decide) (by simp only [e_setTimes, ck_none hr4, ck_none hr11] <;> rfl) dX4_setTimes_30
theorem oc_rsn {x : Int32} (h : e_rng x 0 4 = none) (h2 : ¬ x = 0) : e_rsn x = none := by
  have hh := rng_none h
  have e0 : (0 : Int32).toInt = 0 := by decide
  have e1 : (1 : Int32).toInt = 1 := by decide
  have e4 : (4 : Int32).toInt = 4 := by decide
  rw [← Int32.toInt_inj, e0] at h2
  unfold e_rsn
  rw [if_neg (by rw [i32_lt]; omega), if_pos (by rw [i32_le]; omega)]
set_option maxRecDepth 100000 in
set_option maxHeartbeats 4000000 in
theorem c_X4_outcome {l : Launch} {D : va_G} {cs : Nat → ClassId} {sa : Nat → Nat} (hl : l.stackTraces = false)  {ad : Nat → Nat} {n : Nat} {E : ES} {S : MS} {o : Nat → Int64} (hn30 : n ≤ 30) {p0 x : Int32} : CM l D cs sa yX4_outcome cX4_outcome 4 (Option.some Jvm.ClassFile.FieldType.int) (RM 7 8 64) 8 64 [.ref (ad 0), .int p0, .int x] (WD ad cs n E S o) ((e_outcome n E p0 x).1, some (.int (e_outcome n E p0 x).2.1), WD ad cs n (e_outcome n E p0 x).2.2 S o) := by
  refine CM.of RX4 hl (by decide +kernel) rfl (Nat.le_of_ble_eq_true rfl) ?_
  intro p e s m args below meth c A hc ho hmn
  refine j_aload_n hc dX4_outcome_0 rfl ?_
  refine j_iload_n hc dX4_outcome_1 rfl ?_
  refine j_callV hc ho (c_X4_findBill hl hn30) vc_X4_129 rfl ⟨rfl, rfl, by decide, by decide⟩ 0 rfl rfl rfl (Nat.le_of_ble_eq_true rfl) ⟨by decide, by decide⟩ dX4_outcome_2 ⟨by decide, by decide⟩ (fun E9 h9 => ⟨by simp only [e_outcome, ck_some h9], rfl⟩) (fun hr2 => ?_)
  have hb := fb_lt hr2
  refine j_astore_n hc dX4_outcome_5 rfl ?_
  refine j_iload_n hc dX4_outcome_6 rfl ?_
  refine j_iconst hc (v := 0) dX4_outcome_7 (by decide) ?_
  refine j_iconst hc (v := 4) dX4_outcome_8 (by decide) ?_
  refine j_callS hc ho (c_X4_checkRange hl) sc_X4_86 rfl ⟨rfl, rfl, by decide, by decide⟩ rfl (Nat.le_of_ble_eq_true rfl) ⟨by decide, by decide⟩ dX4_outcome_9 ⟨by decide, by decide⟩ (fun E9 h9 => ⟨by simp only [e_outcome, ck_none hr2, ck_some h9], rfl⟩) (fun hr9 => ?_)
  refine j_aload_n hc dX4_outcome_12 rfl ?_
  refine gf_X4_133 hc hb dX4_outcome_13 ?_
  refine j_iconst hc (v := 1) dX4_outcome_16 (by decide) ?_
  refine j_icmp_eq hc 30 dX4_outcome_17 (by decide) (fun h17 => ?_) (fun h17 => ?_)
  · -- if_pos h17
    refine j_iload_n hc dX4_outcome_30 rfl ?_
    refine j_if_ne hc 46 dX4_outcome_31 (by decide) (fun h31 => ?_) (fun h31 => ?_)
    · -- if_neg h31
      refine j_aload_n hc dX4_outcome_46 rfl ?_
      refine j_aload_n hc dX4_outcome_47 rfl ?_
      refine j_iload_n hc dX4_outcome_48 rfl ?_
      refine j_callV hc ho (c_X4_fail hl hb (oc_rsn hr9 h31)) vc_X4_145 rfl ⟨rfl, rfl, by decide, by decide⟩ 0 rfl rfl rfl (Nat.le_of_ble_eq_true rfl) ⟨by decide, by decide⟩ dX4_outcome_49 ⟨by decide, by decide⟩ (fun _ h => by cases h) (fun hr49 => ?_)
      refine j_aload_n hc dX4_outcome_52 rfl ?_
      refine gf_X4_133 hc hb dX4_outcome_53 ?_
      exact j_iret hc rfl (by decide) (by decide) (by simp only [e_outcome, ck_none hr2, ck_none hr9, if_pos h17, if_neg h31] <;> rfl) dX4_outcome_56
    · -- if_pos h31
      refine j_aload_n hc dX4_outcome_34 rfl ?_
      refine j_aload_n hc dX4_outcome_35 rfl ?_
      refine j_aload_n hc dX4_outcome_36 rfl ?_
      refine gf_X4_138 hc hb dX4_outcome_37 ?_
      refine j_callV hc ho (c_X4_takePayment hl hb) vc_X4_141 rfl ⟨rfl, rfl, by decide, by decide⟩ 0 rfl rfl rfl (Nat.le_of_ble_eq_true rfl) ⟨by decide, by decide⟩ dX4_outcome_40 ⟨by decide, by decide⟩ (fun _ h => by cases h) (fun hr40 => ?_)
      refine j_goto hc 52 dX4_outcome_43 (by decide) ?_
      refine j_aload_n hc dX4_outcome_52 rfl ?_
      refine gf_X4_133 hc hb dX4_outcome_53 ?_
      exact j_iret hc rfl (by decide) (by decide) (by simp only [e_outcome, ck_none hr2, ck_none hr9, if_pos h17, if_pos h31] <;> rfl) dX4_outcome_56
  · -- if_neg h17
    exact j_thr_73 hc ho 136 (tx := "the bill is not being tried") (by decide) dX4_outcome_20 dX4_outcome_23 dX4_outcome_24 dX4_outcome_26 dX4_outcome_29 (by decide) (Nat.le_of_ble_eq_true rfl) (by decide) (by decide) (by decide) (by decide) ⟨by simp only [e_outcome, ck_none hr2, ck_none hr9, if_neg h17] <;> rfl, rfl⟩
set_option maxRecDepth 100000 in
set_option maxHeartbeats 4000000 in
theorem c_X4_pay {l : Launch} {D : va_G} {cs : Nat → ClassId} {sa : Nat → Nat} (hl : l.stackTraces = false)  {ad : Nat → Nat} {n : Nat} {E : ES} {S : MS} {o : Nat → Int64} (hn30 : n ≤ 30) {p0 v : Int32} : CM l D cs sa yX4_pay cX4_pay 4 (Option.some Jvm.ClassFile.FieldType.int) (RM 7 8 64) 8 64 [.ref (ad 0), .int p0, .int v] (WD ad cs n E S o) ((e_pay n E p0 v).1, some (.int (e_pay n E p0 v).2.1), WD ad cs n (e_pay n E p0 v).2.2 S o) := by
  refine CM.of RX4 hl (by decide +kernel) rfl (Nat.le_of_ble_eq_true rfl) ?_
  intro p e s m args below meth c A hc ho hmn
  refine j_aload_n hc dX4_pay_0 rfl ?_
  refine j_iload_n hc dX4_pay_1 rfl ?_
  refine j_callV hc ho (c_X4_findBill hl hn30) vc_X4_129 rfl ⟨rfl, rfl, by decide, by decide⟩ 0 rfl rfl rfl (Nat.le_of_ble_eq_true rfl) ⟨by decide, by decide⟩ dX4_pay_2 ⟨by decide, by decide⟩ (fun E9 h9 => ⟨by simp only [e_pay, ck_some h9], rfl⟩) (fun hr2 => ?_)
  have hb := fb_lt hr2
  refine j_astore_n hc dX4_pay_5 rfl ?_
  refine j_iload_n hc dX4_pay_6 rfl ?_
  refine j_iconst hc (v := 1) dX4_pay_7 (by decide) ?_
  refine j_sipush hc (v := 9999) dX4_pay_8 (by decide) ?_
  refine j_callS hc ho (c_X4_checkRange hl) sc_X4_86 rfl ⟨rfl, rfl, by decide, by decide⟩ rfl (Nat.le_of_ble_eq_true rfl) ⟨by decide, by decide⟩ dX4_pay_11 ⟨by decide, by decide⟩ (fun E9 h9 => ⟨by simp only [e_pay, ck_none hr2, ck_some h9], rfl⟩) (fun hr11 => ?_)
  refine j_aload_n hc dX4_pay_14 rfl ?_
  refine gf_X4_133 hc hb dX4_pay_15 ?_
  refine j_iconst hc (v := 1) dX4_pay_18 (by decide) ?_
  refine j_icmp_eq hc 39 dX4_pay_19 (by decide) (fun h19 => ?_) (fun h19 => ?_)
  · -- if_pos h19
    exact j_thr_73 hc ho 148 (tx := "the bill takes no such payment") (by decide) dX4_pay_39 dX4_pay_42 dX4_pay_43 dX4_pay_45 dX4_pay_48 (by decide) (Nat.le_of_ble_eq_true rfl) (by decide) (by decide) (by decide) (by decide) ⟨by simp only [e_pay, ck_none hr2, ck_none hr11, if_pos h19] <;> rfl, rfl⟩
  · -- if_neg h19
    refine j_aload_n hc dX4_pay_22 rfl ?_
    refine gf_X4_133 hc hb dX4_pay_23 ?_
    refine j_bipush hc (v := 6) dX4_pay_26 (by decide) ?_
    refine j_icmp_eq hc 39 dX4_pay_28 (by decide) (fun h28 => ?_) (fun h28 => ?_)
    · -- if_pos h28
      exact j_thr_73 hc ho 148 (tx := "the bill takes no such payment") (by decide) dX4_pay_39 dX4_pay_42 dX4_pay_43 dX4_pay_45 dX4_pay_48 (by decide) (Nat.le_of_ble_eq_true rfl) (by decide) (by decide) (by decide) (by decide) ⟨by simp only [e_pay, ck_none hr2, ck_none hr11, if_neg h19, if_pos h28] <;> rfl, rfl⟩
    · -- if_neg h28
      refine j_iload_n hc dX4_pay_31 rfl ?_
      refine j_aload_n hc dX4_pay_32 rfl ?_
      refine gf_X4_138 hc hb dX4_pay_33 ?_
      refine j_icmp_le hc 49 dX4_pay_36 (by decide) (fun h36 => ?_) (fun h36 => ?_)
      · -- if_pos h36
        refine j_aload_n hc dX4_pay_49 rfl ?_
        refine j_aload_n hc dX4_pay_50 rfl ?_
        refine j_iload_n hc dX4_pay_51 rfl ?_
        refine j_callV hc ho (c_X4_takePayment hl hb) vc_X4_141 rfl ⟨rfl, rfl, by decide, by decide⟩ 0 rfl rfl rfl (Nat.le_of_ble_eq_true rfl) ⟨by decide, by decide⟩ dX4_pay_52 ⟨by decide, by decide⟩ (fun _ h => by cases h) (fun hr52 => ?_)
        refine j_aload_n hc dX4_pay_55 rfl ?_
        refine gf_X4_138 hc hb dX4_pay_56 ?_
        exact j_iret hc rfl (by decide) (by decide) (by simp only [e_pay, ck_none hr2, ck_none hr11, if_neg h19, if_neg h28, if_pos h36] <;> rfl) dX4_pay_59
      · -- if_neg h36
        exact j_thr_73 hc ho 148 (tx := "the bill takes no such payment") (by decide) dX4_pay_39 dX4_pay_42 dX4_pay_43 dX4_pay_45 dX4_pay_48 (by decide) (Nat.le_of_ble_eq_true rfl) (by decide) (by decide) (by decide) (by decide) ⟨by simp only [e_pay, ck_none hr2, ck_none hr11, if_neg h19, if_neg h28, if_neg h36] <;> rfl, rfl⟩
set_option maxRecDepth 100000 in
set_option maxHeartbeats 4000000 in
theorem c_X4_promise {l : Launch} {D : va_G} {cs : Nat → ClassId} {sa : Nat → Nat} (hl : l.stackTraces = false)  {ad : Nat → Nat} {n : Nat} {E : ES} {S : MS} {o : Nat → Int64} (hn30 : n ≤ 30) {p0 v : Int32} : CM l D cs sa yX4_promise cX4_promise 5 (Option.some Jvm.ClassFile.FieldType.int) (RM 7 8 64) 8 64 [.ref (ad 0), .int p0, .int v] (WD ad cs n E S o) ((e_promise n E p0 v).1, some (.int (e_promise n E p0 v).2.1), WD ad cs n (e_promise n E p0 v).2.2 S o) := by
  refine CM.of RX4 hl (by decide +kernel) rfl (Nat.le_of_ble_eq_true rfl) ?_
  intro p e s m args below meth c A hc ho hmn
  refine j_aload_n hc dX4_promise_0 rfl ?_
  refine j_iload_n hc dX4_promise_1 rfl ?_
  refine j_callV hc ho (c_X4_findBill hl hn30) vc_X4_129 rfl ⟨rfl, rfl, by decide, by decide⟩ 0 rfl rfl rfl (Nat.le_of_ble_eq_true rfl) ⟨by decide, by decide⟩ dX4_promise_2 ⟨by decide, by decide⟩ (fun E9 h9 => ⟨by simp only [e_promise, ck_some h9], rfl⟩) (fun hr2 => ?_)
  have hb := fb_lt hr2
  refine j_astore_n hc dX4_promise_5 rfl ?_
  refine j_iload_n hc dX4_promise_6 rfl ?_
  refine j_iconst hc (v := 1) dX4_promise_7 (by decide) ?_
  refine j_bipush hc (v := 30) dX4_promise_8 (by decide) ?_
  refine j_callS hc ho (c_X4_checkRange hl) sc_X4_86 rfl ⟨rfl, rfl, by decide, by decide⟩ rfl (Nat.le_of_ble_eq_true rfl) ⟨by decide, by decide⟩ dX4_promise_10 ⟨by decide, by decide⟩ (fun E9 h9 => ⟨by simp only [e_promise, ck_none hr2, ck_some h9], rfl⟩) (fun hr10 => ?_)
  refine j_aload_n hc dX4_promise_13 rfl ?_
  refine gf_X4_133 hc hb dX4_promise_14 ?_
  refine j_if_eq hc 36 dX4_promise_17 (by decide) (fun h17 => ?_) (fun h17 => ?_)
  · -- if_pos h17
    refine j_iconst hc (v := 1) dX4_promise_36 (by decide) ?_
    refine j_goto hc 41 dX4_promise_37 (by decide) ?_
    refine j_istore hc dX4_promise_41 rfl ?_
    refine j_iload hc dX4_promise_43 rfl ?_
    refine j_if_eq hc 56 dX4_promise_45 (by decide) (fun h45 => by exact absurd (show (1 : Int32) = (0 : Int32) from h45) (by decide)) (fun h45 => ?_)
    refine j_aload_n hc dX4_promise_48 rfl ?_
    refine gf_X4_150 hc hb dX4_promise_49 ?_
    refine j_iconst hc (v := 2) dX4_promise_52 (by decide) ?_
    refine j_icmp_lt hc 66 dX4_promise_53 (by decide) (fun h53 => ?_) (fun h53 => ?_)
    · -- if_pos h53
      refine j_aload_n hc dX4_promise_66 rfl ?_
      refine j_dup hc dX4_promise_67 rfl ?_
      refine gf_X4_150 hc hb dX4_promise_68 ?_
      refine j_iconst hc (v := 1) dX4_promise_71 (by decide) ?_
      refine j_iadd hc dX4_promise_72 ?_
      refine pf_X4_150 hc hb dX4_promise_73 ?_
      refine j_aload_n hc dX4_promise_76 rfl ?_
      refine j_aload_n hc dX4_promise_77 rfl ?_
      refine gf_X4_133 hc hb dX4_promise_78 ?_
      refine pf_X4_155 hc hb dX4_promise_81 ?_
      refine j_aload_n hc dX4_promise_84 rfl ?_
      refine j_aload_n hc dX4_promise_85 rfl ?_
      refine gf_X4_158 hc hb dX4_promise_86 ?_
      refine j_aload_n hc dX4_promise_89 rfl ?_
      refine gf_X4_83 hc dX4_promise_90 ?_
      refine j_isub hc dX4_promise_93 ?_
      refine pf_X4_161 hc hb dX4_promise_94 ?_
      refine j_aload_n hc dX4_promise_97 rfl ?_
      refine j_aload_n hc dX4_promise_98 rfl ?_
      refine j_iconst hc (v := 4) dX4_promise_99 (by decide) ?_
      refine j_aload_n hc dX4_promise_100 rfl ?_
      refine gf_X4_83 hc dX4_promise_101 ?_
      refine j_iload_n hc dX4_promise_104 rfl ?_
      refine j_iadd hc dX4_promise_105 ?_
      refine j_callV hc ho (c_X4_enter hl hb) vc_X4_125 rfl ⟨rfl, rfl, by decide, by decide⟩ 0 rfl rfl rfl (Nat.le_of_ble_eq_true rfl) ⟨by decide, by decide⟩ dX4_promise_106 ⟨by decide, by decide⟩ (fun _ h => by cases h) (fun hr106 => ?_)
      refine j_aload_n hc dX4_promise_109 rfl ?_
      refine gf_X4_158 hc hb dX4_promise_110 ?_
      exact j_iret hc rfl (by decide) (by decide) (by simp only [e_promise, e_prom0, e_prom1, ck_none hr2, ck_none hr10, if_pos h17, if_pos h53] <;> rfl) dX4_promise_113
    · -- if_neg h53
      exact j_thr_73 hc ho 153 (tx := "the bill takes no promise") (by decide) dX4_promise_56 dX4_promise_59 dX4_promise_60 dX4_promise_62 dX4_promise_65 (by decide) (Nat.le_of_ble_eq_true rfl) (by decide) (by decide) (by decide) (by decide) ⟨by simp only [e_promise, e_prom0, e_prom1, ck_none hr2, ck_none hr10, if_pos h17, if_neg h53] <;> rfl, rfl⟩
  · -- if_neg h17
    refine j_aload_n hc dX4_promise_20 rfl ?_
    refine gf_X4_133 hc hb dX4_promise_21 ?_
    refine j_iconst hc (v := 2) dX4_promise_24 (by decide) ?_
    refine j_icmp_eq hc 36 dX4_promise_25 (by decide) (fun h25 => ?_) (fun h25 => ?_)
    · -- if_pos h25
      refine j_iconst hc (v := 1) dX4_promise_36 (by decide) ?_
      refine j_goto hc 41 dX4_promise_37 (by decide) ?_
      refine j_istore hc dX4_promise_41 rfl ?_
      refine j_iload hc dX4_promise_43 rfl ?_
      refine j_if_eq hc 56 dX4_promise_45 (by decide) (fun h45 => by exact absurd (show (1 : Int32) = (0 : Int32) from h45) (by decide)) (fun h45 => ?_)
      refine j_aload_n hc dX4_promise_48 rfl ?_
      refine gf_X4_150 hc hb dX4_promise_49 ?_
      refine j_iconst hc (v := 2) dX4_promise_52 (by decide) ?_
      refine j_icmp_lt hc 66 dX4_promise_53 (by decide) (fun h53 => ?_) (fun h53 => ?_)
      · -- if_pos h53
        refine j_aload_n hc dX4_promise_66 rfl ?_
        refine j_dup hc dX4_promise_67 rfl ?_
        refine gf_X4_150 hc hb dX4_promise_68 ?_
        refine j_iconst hc (v := 1) dX4_promise_71 (by decide) ?_
        refine j_iadd hc dX4_promise_72 ?_
        refine pf_X4_150 hc hb dX4_promise_73 ?_
        refine j_aload_n hc dX4_promise_76 rfl ?_
        refine j_aload_n hc dX4_promise_77 rfl ?_
        refine gf_X4_133 hc hb dX4_promise_78 ?_
        refine pf_X4_155 hc hb dX4_promise_81 ?_
        refine j_aload_n hc dX4_promise_84 rfl ?_
        refine j_aload_n hc dX4_promise_85 rfl ?_
        refine gf_X4_158 hc hb dX4_promise_86 ?_
        refine j_aload_n hc dX4_promise_89 rfl ?_
        refine gf_X4_83 hc dX4_promise_90 ?_
        refine j_isub hc dX4_promise_93 ?_
        refine pf_X4_161 hc hb dX4_promise_94 ?_
        refine j_aload_n hc dX4_promise_97 rfl ?_
        refine j_aload_n hc dX4_promise_98 rfl ?_
        refine j_iconst hc (v := 4) dX4_promise_99 (by decide) ?_
        refine j_aload_n hc dX4_promise_100 rfl ?_
        refine gf_X4_83 hc dX4_promise_101 ?_
        refine j_iload_n hc dX4_promise_104 rfl ?_
        refine j_iadd hc dX4_promise_105 ?_
        refine j_callV hc ho (c_X4_enter hl hb) vc_X4_125 rfl ⟨rfl, rfl, by decide, by decide⟩ 0 rfl rfl rfl (Nat.le_of_ble_eq_true rfl) ⟨by decide, by decide⟩ dX4_promise_106 ⟨by decide, by decide⟩ (fun _ h => by cases h) (fun hr106 => ?_)
        refine j_aload_n hc dX4_promise_109 rfl ?_
        refine gf_X4_158 hc hb dX4_promise_110 ?_
        exact j_iret hc rfl (by decide) (by decide) (by simp only [e_promise, e_prom0, e_prom1, ck_none hr2, ck_none hr10, if_neg h17, if_pos h25, if_pos h53] <;> rfl) dX4_promise_113
      · -- if_neg h53
        exact j_thr_73 hc ho 153 (tx := "the bill takes no promise") (by decide) dX4_promise_56 dX4_promise_59 dX4_promise_60 dX4_promise_62 dX4_promise_65 (by decide) (Nat.le_of_ble_eq_true rfl) (by decide) (by decide) (by decide) (by decide) ⟨by simp only [e_promise, e_prom0, e_prom1, ck_none hr2, ck_none hr10, if_neg h17, if_pos h25, if_neg h53] <;> rfl, rfl⟩
    · -- if_neg h25
      refine j_aload_n hc dX4_promise_28 rfl ?_
      refine gf_X4_133 hc hb dX4_promise_29 ?_
      refine j_iconst hc (v := 3) dX4_promise_32 (by decide) ?_
      refine j_icmp_ne hc 40 dX4_promise_33 (by decide) (fun h33 => ?_) (fun h33 => ?_)
      · -- if_neg h33
        refine j_iconst hc (v := 0) dX4_promise_40 (by decide) ?_
        refine j_istore hc dX4_promise_41 rfl ?_
        refine j_iload hc dX4_promise_43 rfl ?_
        refine j_if_eq hc 56 dX4_promise_45 (by decide) (fun h45 => ?_) (fun h45 => by exact absurd (show ¬ (0 : Int32) = (0 : Int32) from h45) (by decide))
        exact j_thr_73 hc ho 153 (tx := "the bill takes no promise") (by decide) dX4_promise_56 dX4_promise_59 dX4_promise_60 dX4_promise_62 dX4_promise_65 (by decide) (Nat.le_of_ble_eq_true rfl) (by decide) (by decide) (by decide) (by decide) ⟨by simp only [e_promise, e_prom0, e_prom1, ck_none hr2, ck_none hr10, if_neg h17, if_neg h25, if_neg h33] <;> rfl, rfl⟩
      · -- if_pos h33
        refine j_iconst hc (v := 1) dX4_promise_36 (by decide) ?_
        refine j_goto hc 41 dX4_promise_37 (by decide) ?_
        refine j_istore hc dX4_promise_41 rfl ?_
        refine j_iload hc dX4_promise_43 rfl ?_
        refine j_if_eq hc 56 dX4_promise_45 (by decide) (fun h45 => by exact absurd (show (1 : Int32) = (0 : Int32) from h45) (by decide)) (fun h45 => ?_)
        refine j_aload_n hc dX4_promise_48 rfl ?_
        refine gf_X4_150 hc hb dX4_promise_49 ?_
        refine j_iconst hc (v := 2) dX4_promise_52 (by decide) ?_
        refine j_icmp_lt hc 66 dX4_promise_53 (by decide) (fun h53 => ?_) (fun h53 => ?_)
        · -- if_pos h53
          refine j_aload_n hc dX4_promise_66 rfl ?_
          refine j_dup hc dX4_promise_67 rfl ?_
          refine gf_X4_150 hc hb dX4_promise_68 ?_
          refine j_iconst hc (v := 1) dX4_promise_71 (by decide) ?_
          refine j_iadd hc dX4_promise_72 ?_
          refine pf_X4_150 hc hb dX4_promise_73 ?_
          refine j_aload_n hc dX4_promise_76 rfl ?_
          refine j_aload_n hc dX4_promise_77 rfl ?_
          refine gf_X4_133 hc hb dX4_promise_78 ?_
          refine pf_X4_155 hc hb dX4_promise_81 ?_
          refine j_aload_n hc dX4_promise_84 rfl ?_
          refine j_aload_n hc dX4_promise_85 rfl ?_
          refine gf_X4_158 hc hb dX4_promise_86 ?_
          refine j_aload_n hc dX4_promise_89 rfl ?_
          refine gf_X4_83 hc dX4_promise_90 ?_
          refine j_isub hc dX4_promise_93 ?_
          refine pf_X4_161 hc hb dX4_promise_94 ?_
          refine j_aload_n hc dX4_promise_97 rfl ?_
          refine j_aload_n hc dX4_promise_98 rfl ?_
          refine j_iconst hc (v := 4) dX4_promise_99 (by decide) ?_
          refine j_aload_n hc dX4_promise_100 rfl ?_
          refine gf_X4_83 hc dX4_promise_101 ?_
          refine j_iload_n hc dX4_promise_104 rfl ?_
          refine j_iadd hc dX4_promise_105 ?_
          refine j_callV hc ho (c_X4_enter hl hb) vc_X4_125 rfl ⟨rfl, rfl, by decide, by decide⟩ 0 rfl rfl rfl (Nat.le_of_ble_eq_true rfl) ⟨by decide, by decide⟩ dX4_promise_106 ⟨by decide, by decide⟩ (fun _ h => by cases h) (fun hr106 => ?_)
          refine j_aload_n hc dX4_promise_109 rfl ?_
          refine gf_X4_158 hc hb dX4_promise_110 ?_
          exact j_iret hc rfl (by decide) (by decide) (by simp only [e_promise, e_prom0, e_prom1, ck_none hr2, ck_none hr10, if_neg h17, if_neg h25, if_pos h33, if_pos h53] <;> rfl) dX4_promise_113
        · -- if_neg h53
          exact j_thr_73 hc ho 153 (tx := "the bill takes no promise") (by decide) dX4_promise_56 dX4_promise_59 dX4_promise_60 dX4_promise_62 dX4_promise_65 (by decide) (Nat.le_of_ble_eq_true rfl) (by decide) (by decide) (by decide) (by decide) ⟨by simp only [e_promise, e_prom0, e_prom1, ck_none hr2, ck_none hr10, if_neg h17, if_neg h25, if_pos h33, if_neg h53] <;> rfl, rfl⟩
set_option maxRecDepth 100000 in
set_option maxHeartbeats 4000000 in
theorem c_X4_today {l : Launch} {D : va_G} {cs : Nat → ClassId} {sa : Nat → Nat} (hl : l.stackTraces = false)  {ad : Nat → Nat} {n : Nat} {E : ES} {S : MS} {o : Nat → Int64} : CM l D cs sa yX4_today cX4_today 1 (Option.some Jvm.ClassFile.FieldType.int) (RM 7 0 0) 0 0 [.ref (ad 0)] (WD ad cs n E S o) (none, some (.int (E.1 5)), (WD ad cs n E S o)) := by
  refine CM.of RX4 hl (by decide +kernel) rfl (Nat.le_of_ble_eq_true rfl) ?_
  intro p e s m args below meth c A hc ho hmn
  refine j_aload_n hc dX4_today_0 rfl ?_
  refine gf_X4_83 hc dX4_today_1 ?_
  exact j_iret hc rfl (by decide) (by decide) (rfl) dX4_today_4
set_option maxRecDepth 100000 in
set_option maxHeartbeats 4000000 in
theorem c_X4_bills {l : Launch} {D : va_G} {cs : Nat → ClassId} {sa : Nat → Nat} (hl : l.stackTraces = false)  {ad : Nat → Nat} {n : Nat} {E : ES} {S : MS} {o : Nat → Int64} : CM l D cs sa yX4_bills cX4_bills 1 (Option.some Jvm.ClassFile.FieldType.int) (RM 7 0 0) 0 0 [.ref (ad 0)] (WD ad cs n E S o) (none, some (.int (E.1 4)), (WD ad cs n E S o)) := by
  refine CM.of RX4 hl (by decide +kernel) rfl (Nat.le_of_ble_eq_true rfl) ?_
  intro p e s m args below meth c A hc ho hmn
  refine j_aload_n hc dX4_bills_0 rfl ?_
  refine gf_X4_112 hc dX4_bills_1 ?_
  exact j_iret hc rfl (by decide) (by decide) (rfl) dX4_bills_4
set_option maxRecDepth 100000 in
set_option maxHeartbeats 4000000 in
theorem c_X4_billed {l : Launch} {D : va_G} {cs : Nat → ClassId} {sa : Nat → Nat} (hl : l.stackTraces = false)  {ad : Nat → Nat} {n : Nat} {E : ES} {S : MS} {o : Nat → Int64} : CM l D cs sa yX4_billed cX4_billed 1 (Option.some Jvm.ClassFile.FieldType.int) (RM 7 0 0) 0 0 [.ref (ad 0)] (WD ad cs n E S o) (none, some (.int (E.1 8)), (WD ad cs n E S o)) := by
  refine CM.of RX4 hl (by decide +kernel) rfl (Nat.le_of_ble_eq_true rfl) ?_
  intro p e s m args below meth c A hc ho hmn
  refine j_aload_n hc dX4_billed_0 rfl ?_
  refine gf_X4_119 hc dX4_billed_1 ?_
  exact j_iret hc rfl (by decide) (by decide) (rfl) dX4_billed_4
set_option maxRecDepth 100000 in
set_option maxHeartbeats 4000000 in
theorem c_X4_paid {l : Launch} {D : va_G} {cs : Nat → ClassId} {sa : Nat → Nat} (hl : l.stackTraces = false)  {ad : Nat → Nat} {n : Nat} {E : ES} {S : MS} {o : Nat → Int64} : CM l D cs sa yX4_paid cX4_paid 1 (Option.some Jvm.ClassFile.FieldType.int) (RM 7 0 0) 0 0 [.ref (ad 0)] (WD ad cs n E S o) (none, some (.int (E.1 9)), (WD ad cs n E S o)) := by
  refine CM.of RX4 hl (by decide +kernel) rfl (Nat.le_of_ble_eq_true rfl) ?_
  intro p e s m args below meth c A hc ho hmn
  refine j_aload_n hc dX4_paid_0 rfl ?_
  refine gf_X4_197 hc dX4_paid_1 ?_
  exact j_iret hc rfl (by decide) (by decide) (rfl) dX4_paid_4
set_option maxRecDepth 100000 in
set_option maxHeartbeats 4000000 in
theorem c_X4_writtenOff {l : Launch} {D : va_G} {cs : Nat → ClassId} {sa : Nat → Nat} (hl : l.stackTraces = false)  {ad : Nat → Nat} {n : Nat} {E : ES} {S : MS} {o : Nat → Int64} : CM l D cs sa yX4_writtenOff cX4_writtenOff 1 (Option.some Jvm.ClassFile.FieldType.int) (RM 7 0 0) 0 0 [.ref (ad 0)] (WD ad cs n E S o) (none, some (.int (E.1 10)), (WD ad cs n E S o)) := by
  refine CM.of RX4 hl (by decide +kernel) rfl (Nat.le_of_ble_eq_true rfl) ?_
  intro p e s m args below meth c A hc ho hmn
  refine j_aload_n hc dX4_writtenOff_0 rfl ?_
  refine gf_X4_200 hc dX4_writtenOff_1 ?_
  exact j_iret hc rfl (by decide) (by decide) (rfl) dX4_writtenOff_4
set_option maxRecDepth 100000 in
set_option maxHeartbeats 4000000 in
theorem c_X4_broughtBack {l : Launch} {D : va_G} {cs : Nat → ClassId} {sa : Nat → Nat} (hl : l.stackTraces = false)  {ad : Nat → Nat} {n : Nat} {E : ES} {S : MS} {o : Nat → Int64} : CM l D cs sa yX4_broughtBack cX4_broughtBack 1 (Option.some Jvm.ClassFile.FieldType.int) (RM 7 0 0) 0 0 [.ref (ad 0)] (WD ad cs n E S o) (none, some (.int (E.1 11)), (WD ad cs n E S o)) := by
  refine CM.of RX4 hl (by decide +kernel) rfl (Nat.le_of_ble_eq_true rfl) ?_
  intro p e s m args below meth c A hc ho hmn
  refine j_aload_n hc dX4_broughtBack_0 rfl ?_
  refine gf_X4_203 hc dX4_broughtBack_1 ?_
  exact j_iret hc rfl (by decide) (by decide) (rfl) dX4_broughtBack_4
set_option maxRecDepth 100000 in
set_option maxHeartbeats 4000000 in
theorem c_X4_events {l : Launch} {D : va_G} {cs : Nat → ClassId} {sa : Nat → Nat} (hl : l.stackTraces = false)  {ad : Nat → Nat} {n : Nat} {E : ES} {S : MS} {o : Nat → Int64} : CM l D cs sa yX4_events cX4_events 1 (Option.some Jvm.ClassFile.FieldType.int) (RM 7 0 0) 0 0 [.ref (ad 0)] (WD ad cs n E S o) (none, some (.int (E.1 13)), (WD ad cs n E S o)) := by
  refine CM.of RX4 hl (by decide +kernel) rfl (Nat.le_of_ble_eq_true rfl) ?_
  intro p e s m args below meth c A hc ho hmn
  refine j_aload_n hc dX4_events_0 rfl ?_
  refine gf_X4_47 hc dX4_events_1 ?_
  refine gf_X4_206 hc dX4_events_4 ?_
  exact j_iret hc rfl (by decide) (by decide) (rfl) dX4_events_7
theorem chg_01 (E : ES) (d : Int32) : e_chg E d = 0 ∨ e_chg E d = 1 := by
  unfold e_chg
  split
  · exact Or.inl rfl
  · split
    · exact Or.inr rfl
    · exact Or.inl rfl
theorem nar_01 {v : Int32} (h : v = 0 ∨ v = 1) : narrow .boolean (.int v) = .int v := by
  rcases h with rfl | rfl <;> rfl
set_option maxRecDepth 100000 in
set_option maxHeartbeats 4000000 in
theorem c_X4_isCharging {l : Launch} {D : va_G} {cs : Nat → ClassId} {sa : Nat → Nat} (hl : l.stackTraces = false)  {ad : Nat → Nat} {n : Nat} {E : ES} {S : MS} {o : Nat → Int64} {d : Int32} : CM l D cs sa yX4_isCharging cX4_isCharging 2 (Option.some Jvm.ClassFile.FieldType.boolean) (RM 7 8 64) 8 64 [.ref (ad 0), .int d] (WD ad cs n E S o) ((e_isCharging E d).1, some (.int (e_isCharging E d).2.1), WD ad cs n (e_isCharging E d).2.2 S o) := by
  refine CM.of RX4 hl (by decide +kernel) rfl (Nat.le_of_ble_eq_true rfl) ?_
  intro p e s m args below meth c A hc ho hmn
  refine j_iload_n hc dX4_isCharging_0 rfl ?_
  refine j_iconst hc (v := 0) dX4_isCharging_1 (by decide) ?_
  refine j_ldc hc wt_447 dX4_isCharging_2 ?_
  refine j_callS hc ho (c_X4_checkRange hl) sc_X4_86 rfl ⟨rfl, rfl, by decide, by decide⟩ rfl (Nat.le_of_ble_eq_true rfl) ⟨by decide, by decide⟩ dX4_isCharging_4 ⟨by decide, by decide⟩ (fun E9 h9 => ⟨by simp only [e_isCharging, ck_some h9], rfl⟩) (fun hr4 => ?_)
  refine j_aload_n hc dX4_isCharging_7 rfl ?_
  refine gf_X4_10 hc dX4_isCharging_8 ?_
  refine j_iload_n hc dX4_isCharging_11 rfl ?_
  refine j_callV hc ho (c_X1_allowsCharging hl) vc_X4_172 rfl ⟨rfl, rfl, by decide, by decide⟩ 1 rfl rfl rfl (Nat.le_of_ble_eq_true rfl) ⟨by decide, by decide⟩ dX4_isCharging_12 ⟨by decide, by decide⟩ (fun _ h => by cases h) (fun hr12 => ?_)
  exact j_zret hc rfl (nar_01 (chg_01 E d)) (by decide) (by decide) (by simp only [e_isCharging, ck_none hr4] <;> rfl) dX4_isCharging_15
set_option maxRecDepth 100000 in
set_option maxHeartbeats 4000000 in
theorem c_X4_stateOf {l : Launch} {D : va_G} {cs : Nat → ClassId} {sa : Nat → Nat} (hl : l.stackTraces = false)  {ad : Nat → Nat} {n : Nat} {E : ES} {S : MS} {o : Nat → Int64} (hn30 : n ≤ 30) {p0 : Int32} : CM l D cs sa yX4_stateOf cX4_stateOf 2 (Option.some Jvm.ClassFile.FieldType.int) (RM 7 8 64) 8 64 [.ref (ad 0), .int p0] (WD ad cs n E S o) ((e_bf n E 4 p0).1, some (.int (e_bf n E 4 p0).2.1), WD ad cs n (e_bf n E 4 p0).2.2 S o) := by
  refine CM.of RX4 hl (by decide +kernel) rfl (Nat.le_of_ble_eq_true rfl) ?_
  intro p e s m args below meth c A hc ho hmn
  refine j_aload_n hc dX4_stateOf_0 rfl ?_
  refine j_iload_n hc dX4_stateOf_1 rfl ?_
  refine j_callV hc ho (c_X4_findBill hl hn30) vc_X4_129 rfl ⟨rfl, rfl, by decide, by decide⟩ 0 rfl rfl rfl (Nat.le_of_ble_eq_true rfl) ⟨by decide, by decide⟩ dX4_stateOf_2 ⟨by decide, by decide⟩ (fun E9 h9 => ⟨by simp only [e_bf, ck_some h9], rfl⟩) (fun hr2 => ?_)
  have hb := fb_lt hr2
  refine gf_X4_133 hc hb dX4_stateOf_5 ?_
  exact j_iret hc rfl (by decide) (by decide) (by simp only [e_bf, ck_none hr2] <;> rfl) dX4_stateOf_8
set_option maxRecDepth 100000 in
set_option maxHeartbeats 4000000 in
theorem c_X4_left {l : Launch} {D : va_G} {cs : Nat → ClassId} {sa : Nat → Nat} (hl : l.stackTraces = false)  {ad : Nat → Nat} {n : Nat} {E : ES} {S : MS} {o : Nat → Int64} (hn30 : n ≤ 30) {p0 : Int32} : CM l D cs sa yX4_left cX4_left 2 (Option.some Jvm.ClassFile.FieldType.int) (RM 7 8 64) 8 64 [.ref (ad 0), .int p0] (WD ad cs n E S o) ((e_bf n E 3 p0).1, some (.int (e_bf n E 3 p0).2.1), WD ad cs n (e_bf n E 3 p0).2.2 S o) := by
  refine CM.of RX4 hl (by decide +kernel) rfl (Nat.le_of_ble_eq_true rfl) ?_
  intro p e s m args below meth c A hc ho hmn
  refine j_aload_n hc dX4_left_0 rfl ?_
  refine j_iload_n hc dX4_left_1 rfl ?_
  refine j_callV hc ho (c_X4_findBill hl hn30) vc_X4_129 rfl ⟨rfl, rfl, by decide, by decide⟩ 0 rfl rfl rfl (Nat.le_of_ble_eq_true rfl) ⟨by decide, by decide⟩ dX4_left_2 ⟨by decide, by decide⟩ (fun E9 h9 => ⟨by simp only [e_bf, ck_some h9], rfl⟩) (fun hr2 => ?_)
  have hb := fb_lt hr2
  refine gf_X4_138 hc hb dX4_left_5 ?_
  exact j_iret hc rfl (by decide) (by decide) (by simp only [e_bf, ck_none hr2] <;> rfl) dX4_left_8
set_option maxRecDepth 100000 in
set_option maxHeartbeats 4000000 in
theorem c_X4_tries {l : Launch} {D : va_G} {cs : Nat → ClassId} {sa : Nat → Nat} (hl : l.stackTraces = false)  {ad : Nat → Nat} {n : Nat} {E : ES} {S : MS} {o : Nat → Int64} (hn30 : n ≤ 30) {p0 : Int32} : CM l D cs sa yX4_tries cX4_tries 2 (Option.some Jvm.ClassFile.FieldType.int) (RM 7 8 64) 8 64 [.ref (ad 0), .int p0] (WD ad cs n E S o) ((e_bf n E 6 p0).1, some (.int (e_bf n E 6 p0).2.1), WD ad cs n (e_bf n E 6 p0).2.2 S o) := by
  refine CM.of RX4 hl (by decide +kernel) rfl (Nat.le_of_ble_eq_true rfl) ?_
  intro p e s m args below meth c A hc ho hmn
  refine j_aload_n hc dX4_tries_0 rfl ?_
  refine j_iload_n hc dX4_tries_1 rfl ?_
  refine j_callV hc ho (c_X4_findBill hl hn30) vc_X4_129 rfl ⟨rfl, rfl, by decide, by decide⟩ 0 rfl rfl rfl (Nat.le_of_ble_eq_true rfl) ⟨by decide, by decide⟩ dX4_tries_2 ⟨by decide, by decide⟩ (fun E9 h9 => ⟨by simp only [e_bf, ck_some h9], rfl⟩) (fun hr2 => ?_)
  have hb := fb_lt hr2
  refine gf_X4_175 hc hb dX4_tries_5 ?_
  exact j_iret hc rfl (by decide) (by decide) (by simp only [e_bf, ck_none hr2] <;> rfl) dX4_tries_8
set_option maxRecDepth 100000 in
set_option maxHeartbeats 4000000 in
theorem c_X4_waitsFor {l : Launch} {D : va_G} {cs : Nat → ClassId} {sa : Nat → Nat} (hl : l.stackTraces = false)  {ad : Nat → Nat} {n : Nat} {E : ES} {S : MS} {o : Nat → Int64} (hn30 : n ≤ 30) {p0 : Int32} : CM l D cs sa yX4_waitsFor cX4_waitsFor 2 (Option.some Jvm.ClassFile.FieldType.int) (RM 7 8 64) 8 64 [.ref (ad 0), .int p0] (WD ad cs n E S o) ((e_bf n E 5 p0).1, some (.int (e_bf n E 5 p0).2.1), WD ad cs n (e_bf n E 5 p0).2.2 S o) := by
  refine CM.of RX4 hl (by decide +kernel) rfl (Nat.le_of_ble_eq_true rfl) ?_
  intro p e s m args below meth c A hc ho hmn
  refine j_aload_n hc dX4_waitsFor_0 rfl ?_
  refine j_iload_n hc dX4_waitsFor_1 rfl ?_
  refine j_callV hc ho (c_X4_findBill hl hn30) vc_X4_129 rfl ⟨rfl, rfl, by decide, by decide⟩ 0 rfl rfl rfl (Nat.le_of_ble_eq_true rfl) ⟨by decide, by decide⟩ dX4_waitsFor_2 ⟨by decide, by decide⟩ (fun E9 h9 => ⟨by simp only [e_bf, ck_some h9], rfl⟩) (fun hr2 => ?_)
  have hb := fb_lt hr2
  refine gf_X4_158 hc hb dX4_waitsFor_5 ?_
  exact j_iret hc rfl (by decide) (by decide) (by simp only [e_bf, ck_none hr2] <;> rfl) dX4_waitsFor_8
set_option maxRecDepth 100000 in
set_option maxHeartbeats 4000000 in
theorem c_X4_broken {l : Launch} {D : va_G} {cs : Nat → ClassId} {sa : Nat → Nat} (hl : l.stackTraces = false)  {ad : Nat → Nat} {n : Nat} {E : ES} {S : MS} {o : Nat → Int64} (hn30 : n ≤ 30) {p0 : Int32} : CM l D cs sa yX4_broken cX4_broken 2 (Option.some Jvm.ClassFile.FieldType.int) (RM 7 8 64) 8 64 [.ref (ad 0), .int p0] (WD ad cs n E S o) ((e_bf n E 8 p0).1, some (.int (e_bf n E 8 p0).2.1), WD ad cs n (e_bf n E 8 p0).2.2 S o) := by
  refine CM.of RX4 hl (by decide +kernel) rfl (Nat.le_of_ble_eq_true rfl) ?_
  intro p e s m args below meth c A hc ho hmn
  refine j_aload_n hc dX4_broken_0 rfl ?_
  refine j_iload_n hc dX4_broken_1 rfl ?_
  refine j_callV hc ho (c_X4_findBill hl hn30) vc_X4_129 rfl ⟨rfl, rfl, by decide, by decide⟩ 0 rfl rfl rfl (Nat.le_of_ble_eq_true rfl) ⟨by decide, by decide⟩ dX4_broken_2 ⟨by decide, by decide⟩ (fun E9 h9 => ⟨by simp only [e_bf, ck_some h9], rfl⟩) (fun hr2 => ?_)
  have hb := fb_lt hr2
  refine gf_X4_181 hc hb dX4_broken_5 ?_
  exact j_iret hc rfl (by decide) (by decide) (by simp only [e_bf, ck_none hr2] <;> rfl) dX4_broken_8
set_option maxRecDepth 100000 in
set_option maxHeartbeats 4000000 in
theorem c_X4_failures {l : Launch} {D : va_G} {cs : Nat → ClassId} {sa : Nat → Nat} (hl : l.stackTraces = false)  {ad : Nat → Nat} {n : Nat} {E : ES} {S : MS} {o : Nat → Int64} (hn30 : n ≤ 30) {p0 r : Int32} : CM l D cs sa yX4_failures cX4_failures 4 (Option.some Jvm.ClassFile.FieldType.int) (RM 7 8 64) 8 64 [.ref (ad 0), .int p0, .int r] (WD ad cs n E S o) ((e_failures n E p0 r).1, some (.int (e_failures n E p0 r).2.1), WD ad cs n (e_failures n E p0 r).2.2 S o) := by
  refine CM.of RX4 hl (by decide +kernel) rfl (Nat.le_of_ble_eq_true rfl) ?_
  intro p e s m args below meth c A hc ho hmn
  refine j_aload_n hc dX4_failures_0 rfl ?_
  refine j_iload_n hc dX4_failures_1 rfl ?_
  refine j_callV hc ho (c_X4_findBill hl hn30) vc_X4_129 rfl ⟨rfl, rfl, by decide, by decide⟩ 0 rfl rfl rfl (Nat.le_of_ble_eq_true rfl) ⟨by decide, by decide⟩ dX4_failures_2 ⟨by decide, by decide⟩ (fun E9 h9 => ⟨by simp only [e_failures, ck_some h9], rfl⟩) (fun hr2 => ?_)
  have hb := fb_lt hr2
  refine j_astore_n hc dX4_failures_5 rfl ?_
  refine j_aload_n hc dX4_failures_6 rfl ?_
  refine gf_X4_178 hc hb dX4_failures_7 ?_
  refine j_iload_n hc dX4_failures_10 rfl ?_
  refine j_callS hc ho (c_X4_indexOfReason hl) sc_X4_98 rfl ⟨rfl, rfl, by decide, by decide⟩ rfl (Nat.le_of_ble_eq_true rfl) ⟨by decide, by decide⟩ dX4_failures_11 ⟨by decide, by decide⟩ (fun E9 h9 => ⟨by simp only [e_failures, ck_none hr2, ck_some h9], rfl⟩) (fun hr11 => ?_)
  refine al_fails hc hb (vrs hr11) dX4_failures_14 ?_
  exact j_iret hc rfl (by decide) (by decide) (by simp only [e_failures, ck_none hr2, ck_none hr11] <;> rfl) dX4_failures_15
set_option maxRecDepth 100000 in
set_option maxHeartbeats 4000000 in
theorem c_X4_event {l : Launch} {D : va_G} {cs : Nat → ClassId} {sa : Nat → Nat} (hl : l.stackTraces = false)  {ad : Nat → Nat} {n : Nat} {E : ES} {S : MS} {o : Nat → Int64} {k : Int32} : CM l D cs sa yX4_event cX4_event 2 (Option.some Jvm.ClassFile.FieldType.int) (RM 7 8 64) 8 64 [.ref (ad 0), .int k] (WD ad cs n E S o) ((e_event E k).1, some (.int (e_event E k).2.1), WD ad cs n (e_event E k).2.2 S o) := by
  refine CM.of RX4 hl (by decide +kernel) rfl (Nat.le_of_ble_eq_true rfl) ?_
  intro p e s m args below meth c A hc ho hmn
  refine j_iload_n hc dX4_event_0 rfl ?_
  refine j_if_lt hc 15 dX4_event_1 (by decide) (fun h1 => ?_) (fun h1 => ?_)
  · -- if_pos h1
    exact j_thr_62 hc ho 212 (tx := "no such event") (by decide) dX4_event_15 dX4_event_18 dX4_event_19 dX4_event_21 dX4_event_24 (by decide) (Nat.le_of_ble_eq_true rfl) (by decide) (by decide) (by decide) (by decide) ⟨by simp only [e_event, if_pos h1] <;> rfl, rfl⟩
  · -- if_neg h1
    refine j_iload_n hc dX4_event_4 rfl ?_
    refine j_aload_n hc dX4_event_5 rfl ?_
    refine gf_X4_47 hc dX4_event_6 ?_
    refine j_callV hc ho (c_X2_told hl) vc_X4_209 rfl ⟨rfl, rfl, by decide, by decide⟩ 13 rfl rfl rfl (Nat.le_of_ble_eq_true rfl) ⟨by decide, by decide⟩ dX4_event_9 ⟨by decide, by decide⟩ (fun _ h => by cases h) (fun hr9 => ?_)
    refine j_icmp_lt hc 25 dX4_event_12 (by decide) (fun h12 => ?_) (fun h12 => ?_)
    · -- if_pos h12
      refine j_aload_n hc dX4_event_25 rfl ?_
      refine gf_X4_47 hc dX4_event_26 ?_
      refine j_iload_n hc dX4_event_29 rfl ?_
      refine j_callV hc ho (c_X2_codeAt hl) vc_X4_214 rfl ⟨rfl, rfl, by decide, by decide⟩ 13 rfl rfl rfl (Nat.le_of_ble_eq_true rfl) ⟨by decide, by decide⟩ dX4_event_30 ⟨by decide, by decide⟩ (fun _ h => by cases h) (fun hr30 => ?_)
      exact j_iret hc rfl (by decide) (by decide) (by simp only [e_event, if_neg h1, if_pos h12] <;> rfl) dX4_event_33
    · -- if_neg h12
      exact j_thr_62 hc ho 212 (tx := "no such event") (by decide) dX4_event_15 dX4_event_18 dX4_event_19 dX4_event_21 dX4_event_24 (by decide) (Nat.le_of_ble_eq_true rfl) (by decide) (by decide) (by decide) (by decide) ⟨by simp only [e_event, if_neg h1, if_neg h12] <;> rfl, rfl⟩
set_option maxRecDepth 100000 in
set_option maxHeartbeats 4000000 in
theorem c_X4_stateAt {l : Launch} {D : va_G} {cs : Nat → ClassId} {sa : Nat → Nat} (hl : l.stackTraces = false)  {ad : Nat → Nat} {n : Nat} {E : ES} {S : MS} {o : Nat → Int64} (hn30 : n ≤ 30) {p0 d : Int32} (hE : 0 ≤ (e_told E).toInt) : CM l D cs sa yX4_stateAt cX4_stateAt 3 (Option.some Jvm.ClassFile.FieldType.int) (RM 7 8 64) 8 64 [.ref (ad 0), .int p0, .int d] (WD ad cs n E S o) ((e_stateAt n E p0 d).1, some (.int (e_stateAt n E p0 d).2.1), WD ad cs n (e_stateAt n E p0 d).2.2 S o) := by
  refine CM.of RX4 hl (by decide +kernel) rfl (Nat.le_of_ble_eq_true rfl) ?_
  intro p e s m args below meth c A hc ho hmn
  refine j_aload_n hc dX4_stateAt_0 rfl ?_
  refine j_iload_n hc dX4_stateAt_1 rfl ?_
  refine j_callV hc ho (c_X4_findBill hl hn30) vc_X4_129 rfl ⟨rfl, rfl, by decide, by decide⟩ 0 rfl rfl rfl (Nat.le_of_ble_eq_true rfl) ⟨by decide, by decide⟩ dX4_stateAt_2 ⟨by decide, by decide⟩ (fun E9 h9 => ⟨by simp only [e_stateAt, ck_some h9], rfl⟩) (fun hr2 => ?_)
  have hb := fb_lt hr2
  refine j_pop hc dX4_stateAt_5 rfl ?_
  refine j_iload_n hc dX4_stateAt_6 rfl ?_
  refine j_iconst hc (v := 0) dX4_stateAt_7 (by decide) ?_
  refine j_aload_n hc dX4_stateAt_8 rfl ?_
  refine gf_X4_83 hc dX4_stateAt_9 ?_
  refine j_callS hc ho (c_X4_checkRange hl) sc_X4_86 rfl ⟨rfl, rfl, by decide, by decide⟩ rfl (Nat.le_of_ble_eq_true rfl) ⟨by decide, by decide⟩ dX4_stateAt_12 ⟨by decide, by decide⟩ (fun E9 h9 => ⟨by simp only [e_stateAt, ck_none hr2, ck_some h9], rfl⟩) (fun hr12 => ?_)
  refine j_aload_n hc dX4_stateAt_15 rfl ?_
  refine gf_X4_47 hc dX4_stateAt_16 ?_
  refine j_iload_n hc dX4_stateAt_19 rfl ?_
  refine j_iload_n hc dX4_stateAt_20 rfl ?_
  refine j_callV hc ho (c_X2_lastStateOf hl hE) vc_X4_217 rfl ⟨rfl, rfl, by decide, by decide⟩ 13 rfl rfl rfl (Nat.le_of_ble_eq_true rfl) ⟨by decide, by decide⟩ dX4_stateAt_21 ⟨by decide, by decide⟩ (fun _ h => by cases h) (fun hr21 => ?_)
  exact j_iret hc rfl (by decide) (by decide) (by simp only [e_stateAt, ck_none hr2, ck_none hr12] <;> rfl) dX4_stateAt_24
set_option maxRecDepth 100000 in
set_option maxHeartbeats 4000000 in
theorem c_X4_pass {l : Launch} {D : va_G} {cs : Nat → ClassId} {sa : Nat → Nat} (hl : l.stackTraces = false)  {ad : Nat → Nat} {n : Nat} {E : ES} {S : MS} {o : Nat → Int64} (hn30 : n ≤ 30) {p0 : Int32} : CM l D cs sa yX4_pass cX4_pass 4 (Option.some Jvm.ClassFile.FieldType.int) (RM 7 8 64) 8 64 [.ref (ad 0), .int p0] (WD ad cs n E S o) ((e_pass n E p0).1, some (.int (e_pass n E p0).2.1), WD ad cs n (e_pass n E p0).2.2 S o) := by
  refine CM.of RX4 hl (by decide +kernel) rfl (Nat.le_of_ble_eq_true rfl) ?_
  intro p e s m args below meth c A hc ho hmn
  refine j_iload_n hc dX4_pass_0 rfl ?_
  refine j_iconst hc (v := 1) dX4_pass_1 (by decide) ?_
  refine j_bipush hc (v := 60) dX4_pass_2 (by decide) ?_
  refine j_callS hc ho (c_X4_checkRange hl) sc_X4_86 rfl ⟨rfl, rfl, by decide, by decide⟩ rfl (Nat.le_of_ble_eq_true rfl) ⟨by decide, by decide⟩ dX4_pass_4 ⟨by decide, by decide⟩ (fun E9 h9 => ⟨by simp only [e_pass, ck_some h9], rfl⟩) (fun hr4 => ?_)
  obtain ⟨P, hP60, rfl⟩ : ∃ P : Nat, P ≤ 60 ∧ p0 = nI P := by
    have hh := rng_none hr4
    have e1 : (1 : Int32).toInt = 1 := by decide
    have e60 : (60 : Int32).toInt = 60 := by decide
    exact nI_of2 (n := 60) e60 (by rw [i32_lt]; have : (0 : Int32).toInt = 0 := by decide
                                   omega) (by rw [i32_le]; omega)
  have hre : (((e_pass n E (nI P)).1, some (.int (e_pass n E (nI P)).2.1), WD ad cs n (e_pass n E (nI P)).2.2 S o) : Rs) = (none, some (.int (e_days n P 0 E).1), WD ad cs n (e_days n P 0 E).2 S o) := by simp only [e_pass, ck_none hr4, nI_clamp (show P < 2 ^ 31 by omega)]
  rw [hre]
  have loop : ∀ (k i : Nat) (c0 : Int32) (E2 : ES), i + k = P → e_days n P 0 E = e_days n k c0 E2 → J p l e (RM 7 8 64) s m args below meth c D A 4 1 6 (QE below args s D A 8 64 (WD ad cs n E S o) (none, some (.int (e_days n P 0 E).1), WD ad cs n (e_days n P 0 E).2 S o)) (WD ad cs n E2 S o) 11 [(0, .ref (ad 0)), (1, .int (nI P)), (2, .int c0), (3, .int (nI i))] [] := by
    intro k
    induction k with
    | zero =>
      intro i c0 E2 hi hd
      refine j_iload_n hc dX4_pass_11 rfl ?_
      refine j_iload_n hc dX4_pass_12 rfl ?_
      refine j_icmp_ge hc 43 dX4_pass_13 (by decide) (fun h13 => ?_) (fun h13 => by exact absurd h13 (fun z => z (nI_le (by omega) (by omega))))
      refine j_iload_n hc dX4_pass_43 rfl ?_
      exact j_iret hc rfl (by decide) (by decide) (by rw [hd]; rfl) dX4_pass_44
    | succ k ih =>
      intro i c0 E2 hi hd
      refine j_iload_n hc dX4_pass_11 rfl ?_
      refine j_iload_n hc dX4_pass_12 rfl ?_
      refine j_icmp_ge hc 43 dX4_pass_13 (by decide) (fun h13 => by exact absurd h13 (nI_ge (by omega) (by omega))) (fun h13 => ?_)
      refine j_aload_n hc dX4_pass_16 rfl ?_
      refine j_callV hc ho (c_X4_failUnansweredTries hl hn30) vc_X4_164 rfl ⟨rfl, rfl, by decide, by decide⟩ 0 rfl rfl rfl (Nat.le_of_ble_eq_true rfl) ⟨by decide, by decide⟩ dX4_pass_17 ⟨by decide, by decide⟩ (fun _ h => by cases h) (fun hr17 => ?_)
      refine j_aload_n hc dX4_pass_20 rfl ?_
      refine j_dup hc dX4_pass_21 rfl ?_
      refine gf_X4_83 hc dX4_pass_22 ?_
      refine j_iconst hc (v := 1) dX4_pass_25 (by decide) ?_
      refine j_iadd hc dX4_pass_26 ?_
      refine pf_X4_83 hc dX4_pass_27 ?_
      refine j_iload_n hc dX4_pass_30 rfl ?_
      refine j_aload_n hc dX4_pass_31 rfl ?_
      refine j_callV hc ho (c_X4_lookAtBills hl hn30) vc_X4_167 rfl ⟨rfl, rfl, by decide, by decide⟩ 0 rfl rfl rfl (Nat.le_of_ble_eq_true rfl) ⟨by decide, by decide⟩ dX4_pass_32 ⟨by decide, by decide⟩ (fun _ h => by cases h) (fun hr32 => ?_)
      refine j_iadd hc dX4_pass_35 ?_
      refine j_istore_n hc dX4_pass_36 rfl ?_
      refine j_inc hc dX4_pass_37 rfl (z := 1) (by decide) rfl ?_
      refine j_goto hc 11 dX4_pass_40 (by decide) ?_
      refine j_lv [(0, .ref (ad 0)), (1, .int (nI P)), (2, .int _), (3, .int (nI i + 1))] ⟨rfl, rfl, rfl, rfl, trivial⟩ ?_
      rw [nI_1]
      exact ih (i + 1) _ _ (by omega) (by rw [hd]; rfl)
  refine j_iconst hc (v := 0) dX4_pass_7 (by decide) ?_
  refine j_istore_n hc dX4_pass_8 rfl ?_
  refine j_iconst hc (v := 0) dX4_pass_9 (by decide) ?_
  refine j_istore_n hc dX4_pass_10 rfl ?_
  refine j_lv [(0, .ref (ad 0)), (1, .int (nI P)), (2, .int 0), (3, .int 0)] ⟨rfl, rfl, rfl, rfl, trivial⟩ ?_
  exact loop P 0 0 E (by omega) rfl
set_option maxRecDepth 100000 in
set_option maxHeartbeats 4000000 in
theorem c_X4_service {l : Launch} {D : va_G} {cs : Nat → ClassId} {sa : Nat → Nat} (hl : l.stackTraces = false)  {ad : Nat → Nat} {n : Nat} {E : ES} {S : MS} {o : Nat → Int64} (hn30 : n ≤ 30) {x : Int32} : CM l D cs sa yX4_service cX4_service 5 (Option.some Jvm.ClassFile.FieldType.int) (RM 7 8 64) 8 64 [.ref (ad 0), .int x] (WD ad cs n E S o) ((e_service n E x).1, some (.int (e_service n E x).2.1), WD ad cs n (e_service n E x).2.2 S o) := by
  refine CM.of RX4 hl (by decide +kernel) rfl (Nat.le_of_ble_eq_true rfl) ?_
  intro p e s m args below meth c A hc ho hmn
  refine j_iload_n hc dX4_service_0 rfl ?_
  refine j_callS hc ho (c_X4_checkAccount hl) sc_X4_109 rfl ⟨rfl, rfl, by decide, by decide⟩ rfl (Nat.le_of_ble_eq_true rfl) ⟨by decide, by decide⟩ dX4_service_1 ⟨by decide, by decide⟩ (fun E9 h9 => ⟨by simp only [e_service, ck_some h9], rfl⟩) (fun hr1 => ?_)
  have hre : (((e_service n E x).1, some (.int (e_service n E x).2.1), WD ad cs n (e_service n E x).2.2 S o) : Rs) = (none, some (.int (e_svc n E x 30 0 2)), WD ad cs n E S o) := by simp only [e_service, ck_none hr1]
  rw [hre]
  have loop : ∀ (k i : Nat) (c0 : Int32), i + k = 30 → e_svc n E x 30 0 2 = e_svc n E x k i c0 → J p l e (RM 7 8 64) s m args below meth c D A 5 1 6 (QE below args s D A 8 64 (WD ad cs n E S o) (none, some (.int (e_svc n E x 30 0 2)), WD ad cs n E S o)) (WD ad cs n E S o) 8 [(0, .ref (ad 0)), (1, .int x), (2, .int c0), (3, .int (nI i))] [] := by
    intro k
    induction k with
    | zero =>
      intro i c0 hi hd
      refine j_iload_n hc dX4_service_8 rfl ?_
      refine j_aload_n hc dX4_service_9 rfl ?_
      refine gf_X4_40 hc dX4_service_10 ?_
      refine ln_row hc dX4_service_13 ?_
      refine j_icmp_ge hc 55 dX4_service_14 (by decide) (fun h14 => ?_) (fun h14 => by exact absurd h14 (fun z => z (nI_le (a := 30) (by omega) (by omega))))
      refine j_iload_n hc dX4_service_55 rfl ?_
      exact j_iret hc rfl (by decide) (by decide) (by rw [hd]; rfl) dX4_service_56
    | succ k ih =>
      intro i c0 hi hd
      refine j_iload_n hc dX4_service_8 rfl ?_
      refine j_aload_n hc dX4_service_9 rfl ?_
      refine gf_X4_40 hc dX4_service_10 ?_
      refine ln_row hc dX4_service_13 ?_
      refine j_icmp_ge hc 55 dX4_service_14 (by decide) (fun h14 => by exact absurd h14 (nI_ge (b := 30) (by omega) (by omega))) (fun h14 => ?_)
      refine j_aload_n hc dX4_service_17 rfl ?_
      refine gf_X4_40 hc dX4_service_18 ?_
      refine j_iload_n hc dX4_service_21 rfl ?_
      by_cases hb : i < n
      · refine al_row hc hb hn30 rfl dX4_service_22 ?_
        refine j_astore hc dX4_service_23 rfl ?_
        refine j_aload hc dX4_service_25 rfl ?_
        refine j_ifnull hc dX4_service_27 ?_
        refine j_aload hc dX4_service_30 rfl ?_
        refine gf_X4_184 hc hb dX4_service_32 ?_
        refine j_iload_n hc dX4_service_35 rfl ?_
        refine j_icmp_ne hc 49 dX4_service_36 (by decide) (fun h36 => ?_) (fun h36 => ?_)
        · -- if_neg h36
          refine j_inc hc dX4_service_49 rfl (z := 1) (by decide) rfl ?_
          refine j_goto hc 8 dX4_service_52 (by decide) ?_
          refine j_lv [(0, .ref (ad 0)), (1, .int x), (2, .int _), (3, .int (nI i + 1))] ⟨rfl, rfl, rfl, rfl, trivial⟩ ?_
          rw [nI_1]
          exact ih (i + 1) _ (by omega) (by rw [hd]; simp only [e_svc, if_neg h14, if_pos hb, if_neg h36])
        · -- if_pos h36
          refine j_iload_n hc dX4_service_39 rfl ?_
          refine j_aload hc dX4_service_40 rfl ?_
          refine j_callS hc ho (c_X4_serviceWith hl hb) sc_X4_187 rfl ⟨rfl, rfl, by decide, by decide⟩ rfl (Nat.le_of_ble_eq_true rfl) ⟨by decide, by decide⟩ dX4_service_42 ⟨by decide, by decide⟩ (fun _ h => by cases h) (fun hr42 => ?_)
          refine j_min_X4_191 hc (by decide) (Nat.le_of_ble_eq_true rfl) (by decide) (by decide) dX4_service_45 ?_
          refine j_istore_n hc dX4_service_48 rfl ?_
          refine j_inc hc dX4_service_49 rfl (z := 1) (by decide) rfl ?_
          refine j_goto hc 8 dX4_service_52 (by decide) ?_
          refine j_lv [(0, .ref (ad 0)), (1, .int x), (2, .int _), (3, .int (nI i + 1))] ⟨rfl, rfl, rfl, rfl, trivial⟩ ?_
          rw [nI_1]
          exact ih (i + 1) _ (by omega) (by rw [hd]; simp only [e_svc, if_neg h14, if_pos hb, if_pos h36])
      · refine al_rowN hc hb (by omega) rfl dX4_service_22 ?_
        refine j_astoreN hc dX4_service_23 rfl ?_
        refine j_aloadN hc dX4_service_25 rfl ?_
        refine j_ifnullN hc 49 dX4_service_27 (by decide) ?_
        refine j_inc hc dX4_service_49 rfl (z := 1) (by decide) rfl ?_
        refine j_goto hc 8 dX4_service_52 (by decide) ?_
        refine j_lv [(0, .ref (ad 0)), (1, .int x), (2, .int _), (3, .int (nI i + 1))] ⟨rfl, rfl, rfl, rfl, trivial⟩ ?_
        rw [nI_1]
        exact ih (i + 1) _ (by omega) (by rw [hd]; simp only [e_svc, if_neg h14, if_neg hb])
  refine j_iconst hc (v := 2) dX4_service_4 (by decide) ?_
  refine j_istore_n hc dX4_service_5 rfl ?_
  refine j_iconst hc (v := 0) dX4_service_6 (by decide) ?_
  refine j_istore_n hc dX4_service_7 rfl ?_
  refine j_lv [(0, .ref (ad 0)), (1, .int x), (2, .int 2), (3, .int 0)] ⟨rfl, rfl, rfl, rfl, trivial⟩ ?_
  exact loop 30 0 2 (by omega) rfl
set_option maxRecDepth 100000 in
set_option maxHeartbeats 4000000 in
theorem c_X4_leftIn {l : Launch} {D : va_G} {cs : Nat → ClassId} {sa : Nat → Nat} (hl : l.stackTraces = false)  {ad : Nat → Nat} {n : Nat} {E : ES} {S : MS} {o : Nat → Int64} (hn30 : n ≤ 30) {x y : Int32} : CM l D cs sa yX4_leftIn cX4_leftIn 6 (Option.some Jvm.ClassFile.FieldType.int) (RM 7 8 64) 8 64 [.ref (ad 0), .int x, .int y] (WD ad cs n E S o) ((e_leftIn n E x y).1, some (.int (e_leftIn n E x y).2.1), WD ad cs n (e_leftIn n E x y).2.2 S o) := by
  refine CM.of RX4 hl (by decide +kernel) rfl (Nat.le_of_ble_eq_true rfl) ?_
  intro p e s m args below meth c A hc ho hmn
  refine j_iload_n hc dX4_leftIn_0 rfl ?_
  refine j_callS hc ho (c_X4_checkAccount hl) sc_X4_109 rfl ⟨rfl, rfl, by decide, by decide⟩ rfl (Nat.le_of_ble_eq_true rfl) ⟨by decide, by decide⟩ dX4_leftIn_1 ⟨by decide, by decide⟩ (fun E9 h9 => ⟨by simp only [e_leftIn, ck_some h9], rfl⟩) (fun hr1 => ?_)
  refine j_iload_n hc dX4_leftIn_4 rfl ?_
  refine j_iconst hc (v := 0) dX4_leftIn_5 (by decide) ?_
  refine j_bipush hc (v := 6) dX4_leftIn_6 (by decide) ?_
  refine j_callS hc ho (c_X4_checkRange hl) sc_X4_86 rfl ⟨rfl, rfl, by decide, by decide⟩ rfl (Nat.le_of_ble_eq_true rfl) ⟨by decide, by decide⟩ dX4_leftIn_8 ⟨by decide, by decide⟩ (fun E9 h9 => ⟨by simp only [e_leftIn, ck_none hr1, ck_some h9], rfl⟩) (fun hr8 => ?_)
  have hre : (((e_leftIn n E x y).1, some (.int (e_leftIn n E x y).2.1), WD ad cs n (e_leftIn n E x y).2.2 S o) : Rs) = (none, some (.int (e_lin n E x y 30 0 0)), WD ad cs n E S o) := by simp only [e_leftIn, ck_none hr1, ck_none hr8]
  rw [hre]
  have loop : ∀ (k i : Nat) (c0 : Int32), i + k = 30 → e_lin n E x y 30 0 0 = e_lin n E x y k i c0 → J p l e (RM 7 8 64) s m args below meth c D A 6 2 12 (QE below args s D A 8 64 (WD ad cs n E S o) (none, some (.int (e_lin n E x y 30 0 0)), WD ad cs n E S o)) (WD ad cs n E S o) 16 [(0, .ref (ad 0)), (1, .int x), (2, .int y), (3, .int c0), (4, .int (nI i))] [] := by
    intro k
    induction k with
    | zero =>
      intro i c0 hi hd
      refine j_iload hc dX4_leftIn_16 rfl ?_
      refine j_aload_n hc dX4_leftIn_18 rfl ?_
      refine gf_X4_40 hc dX4_leftIn_19 ?_
      refine ln_row hc dX4_leftIn_22 ?_
      refine j_icmp_ge hc 72 dX4_leftIn_23 (by decide) (fun h23 => ?_) (fun h23 => by exact absurd h23 (fun z => z (nI_le (a := 30) (by omega) (by omega))))
      refine j_iload_n hc dX4_leftIn_72 rfl ?_
      exact j_iret hc rfl (by decide) (by decide) (by rw [hd]; rfl) dX4_leftIn_73
    | succ k ih =>
      intro i c0 hi hd
      refine j_iload hc dX4_leftIn_16 rfl ?_
      refine j_aload_n hc dX4_leftIn_18 rfl ?_
      refine gf_X4_40 hc dX4_leftIn_19 ?_
      refine ln_row hc dX4_leftIn_22 ?_
      refine j_icmp_ge hc 72 dX4_leftIn_23 (by decide) (fun h23 => by exact absurd h23 (nI_ge (b := 30) (by omega) (by omega))) (fun h23 => ?_)
      refine j_aload_n hc dX4_leftIn_26 rfl ?_
      refine gf_X4_40 hc dX4_leftIn_27 ?_
      refine j_iload hc dX4_leftIn_30 rfl ?_
      by_cases hb : i < n
      · refine al_row hc hb hn30 rfl dX4_leftIn_32 ?_
        refine j_astore hc dX4_leftIn_33 rfl ?_
        refine j_aload hc dX4_leftIn_35 rfl ?_
        refine j_ifnull hc dX4_leftIn_37 ?_
        refine j_aload hc dX4_leftIn_40 rfl ?_
        refine gf_X4_184 hc hb dX4_leftIn_42 ?_
        refine j_iload_n hc dX4_leftIn_45 rfl ?_
        refine j_icmp_ne hc 66 dX4_leftIn_46 (by decide) (fun h46 => ?_) (fun h46 => ?_)
        · -- if_neg h46
          refine j_inc hc dX4_leftIn_66 rfl (z := 1) (by decide) rfl ?_
          refine j_goto hc 16 dX4_leftIn_69 (by decide) ?_
          refine j_lv [(0, .ref (ad 0)), (1, .int x), (2, .int y), (3, .int _), (4, .int (nI i + 1))] ⟨rfl, rfl, rfl, rfl, rfl, trivial⟩ ?_
          rw [nI_1]
          exact ih (i + 1) _ (by omega) (by rw [hd]; simp only [e_lin, if_neg h23, if_pos hb, if_neg h46])
        · -- if_pos h46
          refine j_aload hc dX4_leftIn_49 rfl ?_
          refine gf_X4_133 hc hb dX4_leftIn_51 ?_
          refine j_iload_n hc dX4_leftIn_54 rfl ?_
          refine j_icmp_ne hc 66 dX4_leftIn_55 (by decide) (fun h55 => ?_) (fun h55 => ?_)
          · -- if_neg h55
            refine j_inc hc dX4_leftIn_66 rfl (z := 1) (by decide) rfl ?_
            refine j_goto hc 16 dX4_leftIn_69 (by decide) ?_
            refine j_lv [(0, .ref (ad 0)), (1, .int x), (2, .int y), (3, .int _), (4, .int (nI i + 1))] ⟨rfl, rfl, rfl, rfl, rfl, trivial⟩ ?_
            rw [nI_1]
            exact ih (i + 1) _ (by omega) (by rw [hd]; simp only [e_lin, if_neg h23, if_pos hb, if_pos h46, if_neg h55])
          · -- if_pos h55
            refine j_iload_n hc dX4_leftIn_58 rfl ?_
            refine j_aload hc dX4_leftIn_59 rfl ?_
            refine gf_X4_138 hc hb dX4_leftIn_61 ?_
            refine j_iadd hc dX4_leftIn_64 ?_
            refine j_istore_n hc dX4_leftIn_65 rfl ?_
            refine j_inc hc dX4_leftIn_66 rfl (z := 1) (by decide) rfl ?_
            refine j_goto hc 16 dX4_leftIn_69 (by decide) ?_
            refine j_lv [(0, .ref (ad 0)), (1, .int x), (2, .int y), (3, .int _), (4, .int (nI i + 1))] ⟨rfl, rfl, rfl, rfl, rfl, trivial⟩ ?_
            rw [nI_1]
            exact ih (i + 1) _ (by omega) (by rw [hd]; simp only [e_lin, if_neg h23, if_pos hb, if_pos h46, if_pos h55])
      · refine al_rowN hc hb (by omega) rfl dX4_leftIn_32 ?_
        refine j_astoreN hc dX4_leftIn_33 rfl ?_
        refine j_aloadN hc dX4_leftIn_35 rfl ?_
        refine j_ifnullN hc 66 dX4_leftIn_37 (by decide) ?_
        refine j_inc hc dX4_leftIn_66 rfl (z := 1) (by decide) rfl ?_
        refine j_goto hc 16 dX4_leftIn_69 (by decide) ?_
        refine j_lv [(0, .ref (ad 0)), (1, .int x), (2, .int y), (3, .int _), (4, .int (nI i + 1))] ⟨rfl, rfl, rfl, rfl, rfl, trivial⟩ ?_
        rw [nI_1]
        exact ih (i + 1) _ (by omega) (by rw [hd]; simp only [e_lin, if_neg h23, if_neg hb])
  refine j_iconst hc (v := 0) dX4_leftIn_11 (by decide) ?_
  refine j_istore_n hc dX4_leftIn_12 rfl ?_
  refine j_iconst hc (v := 0) dX4_leftIn_13 (by decide) ?_
  refine j_istore hc dX4_leftIn_14 rfl ?_
  refine j_lv [(0, .ref (ad 0)), (1, .int x), (2, .int y), (3, .int 0), (4, .int 0)] ⟨rfl, rfl, rfl, rfl, rfl, trivial⟩ ?_
  exact loop 30 0 0 (by omega) rfl
