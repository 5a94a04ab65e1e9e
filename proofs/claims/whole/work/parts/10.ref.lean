theorem in_none {k x y : Int32} (h : ¬ m_in k x y = 0) : x.toInt ≤ k.toInt ∧ k.toInt ≤ y.toInt := by
  unfold m_in at h
  split at h
  · exact absurd rfl h
  · rename_i h1
    split at h
    · exact absurd rfl h
    · rename_i h2
      rw [i32_lt] at h1 h2
      omega
theorem in_01 (k x y : Int32) : m_in k x y = 0 ∨ m_in k x y = 1 := by
  unfold m_in
  split
  · exact Or.inl rfl
  · split
    · exact Or.inl rfl
    · exact Or.inr rfl
theorem in_vp {k x y : Int32} {m : Nat} (h : ¬ m_in k x y = 0) (hx : 0 ≤ x.toInt) (hy : y.toInt < m) : vp_in k m := by
  have := in_none h
  rw [vp_in_iff]; omega
theorem rem_in {x y : Int32} {m : Nat} (hx : 0 ≤ x.toInt) (hy : y.toInt = m) (hm : 0 < m) : vp_in (x - x / y * y) m := by
  have e := rem_toInt x y
  rw [Int.tmod_eq_emod_of_nonneg hx, hy] at e
  rw [vp_in_iff, e]
  have := Int.emod_nonneg x.toInt (b := (m : Int)) (by omega)
  have := Int.emod_lt_of_pos x.toInt (b := (m : Int)) (by omega)
  omega
theorem isb_q {h n : Nat} {Y T : Int} {S : MS} (H : MI h n Y T S) (p : Int32) : MI h n Y T (m_isBill S p).2 := by
  unfold m_isBill
  split
  · exact mi_G H 25 _ (by decide)
  · exact mi_G H 25 _ (by decide)
theorem n_m1 {h n : Nat} {Y T : Int} {S : MS} (H : MI h n Y T S) : (S.1 8 - 1).toInt = n - 1 := by
  obtain ⟨q1, ⟨q2, q3⟩, -⟩ := H
  have e1 : (1 : Int32).toInt = 1 := by decide
  have := nI_ti (t := n) (by omega)
  rw [q2, i32_sub (by omega) (by omega)]; omega
theorem isb_n {h n : Nat} {Y T : Int} {S : MS} (H : MI h n Y T S) {p : Int32} (hp : ¬ (m_isBill S p).1 = 0) : vp_in p n := by
  unfold m_isBill at hp
  split at hp
  · exact absurd rfl hp
  · rename_i h1
    have h2 := in_none h1
    rw [n_m1 H] at h2
    have e0 : (0 : Int32).toInt = 0 := by decide
    rw [vp_in_iff]; omega
theorem isb_in {h n : Nat} {Y T : Int} {S : MS} (H : MI h n Y T S) {p : Int32} (hp : ¬ (m_isBill S p).1 = 0) : vp_in p 30 := by
  have := vp_in_iff.mp (isb_n H hp)
  have := H.2.1.2
  rw [vp_in_iff]; omega
theorem isb_01 (S : MS) (p : Int32) : (m_isBill S p).1 = 0 ∨ (m_isBill S p).1 = 1 := by
  unfold m_isBill; split
  · exact Or.inl rfl
  · exact Or.inr rfl
theorem mul_in {b r : Int32} (hb : vp_in b 30) (h1 : 0 ≤ r.toInt) (h2 : r.toInt ≤ 4) : vp_in (5 * b + r) 150 := by
  have hb := vp_in_iff.mp hb
  have e5 : (5 : Int32).toInt = 5 := by decide
  have em : (5 * b).toInt = 5 * b.toInt := by
    rw [Int32.toInt_mul, e5]; exact Int.bmod_eq_of_le (by omega) (by omega)
  rw [vp_in_iff, i32_add (by omega) (by omega), em]; omega
theorem mul6 {r : Int32} (h1 : 0 ≤ r.toInt) (h2 : r.toInt ≤ 4) : (6 * r).toInt = 6 * r.toInt := by
  have e6 : (6 : Int32).toInt = 6 := by decide
  rw [Int32.toInt_mul, e6]; exact Int.bmod_eq_of_le (by omega) (by omega)
set_option maxRecDepth 100000 in
set_option maxHeartbeats 4000000 in
theorem c_X5_in {l : Launch} {D : va_G} {cs : Nat → ClassId} {sa : Nat → Nat} (hl : l.stackTraces = false)  {w : va_W} {k x y : Int32} : CM l D cs sa yX5_in cX5_in 3 (Option.some Jvm.ClassFile.FieldType.boolean) (RM 0 0 0) 0 0 [.int k, .int x, .int y] w (none, some (.int (m_in k x y)), w) := by
  refine CM.of RX5 hl (by decide +kernel) rfl (Nat.le_of_ble_eq_true rfl) ?_
  intro p e s m args below meth c A hc ho hmn
  refine j_iload_n hc dX5_in_0 rfl ?_
  refine j_iload_n hc dX5_in_1 rfl ?_
  refine j_icmp_lt hc 14 dX5_in_2 (by decide) (fun h2 => ?_) (fun h2 => ?_)
  · -- if_pos h2
    refine j_iconst hc (v := 0) dX5_in_14 (by decide) ?_
    exact j_zret hc rfl rfl (by decide) (by decide) (by simp only [m_in, if_pos h2] <;> rfl) dX5_in_15
  · -- if_neg h2
    refine j_iload_n hc dX5_in_5 rfl ?_
    refine j_iload_n hc dX5_in_6 rfl ?_
    refine j_icmp_gt hc 14 dX5_in_7 (by decide) (fun h7 => ?_) (fun h7 => ?_)
    · -- if_pos h7
      refine j_iconst hc (v := 0) dX5_in_14 (by decide) ?_
      exact j_zret hc rfl rfl (by decide) (by decide) (by simp only [m_in, if_neg h2, if_pos h7] <;> rfl) dX5_in_15
    · -- if_neg h7
      refine j_iconst hc (v := 1) dX5_in_10 (by decide) ?_
      refine j_goto hc 15 dX5_in_11 (by decide) ?_
      exact j_zret hc rfl rfl (by decide) (by decide) (by simp only [m_in, if_neg h2, if_neg h7] <;> rfl) dX5_in_15
set_option maxRecDepth 100000 in
set_option maxHeartbeats 4000000 in
theorem c_X5_thrown {l : Launch} {D : va_G} {cs : Nat → ClassId} {sa : Nat → Nat} (hl : l.stackTraces = false)  {ad : Nat → Nat} {n : Nat} {E : ES} {S : MS} {o : Nat → Int64} : CM l D cs sa yX5_thrown cX5_thrown 1 (Option.some Jvm.ClassFile.FieldType.int) (RM 0 0 0) 0 0 [.ref (ad 15)] (WD ad cs n E S o) (none, some (.int (S.1 25)), (WD ad cs n E S o)) := by
  refine CM.of RX5 hl (by decide +kernel) rfl (Nat.le_of_ble_eq_true rfl) ?_
  intro p e s m args below meth c A hc ho hmn
  refine j_aload_n hc dX5_thrown_0 rfl ?_
  refine gf_X5_70 hc dX5_thrown_1 ?_
  exact j_iret hc rfl (by decide) (by decide) (rfl) dX5_thrown_4
set_option maxRecDepth 100000 in
set_option maxHeartbeats 4000000 in
theorem c_X5_isHoliday {l : Launch} {D : va_G} {cs : Nat → ClassId} {sa : Nat → Nat} (hl : l.stackTraces = false)  {ad : Nat → Nat} {n : Nat} {E : ES} {S : MS} {o : Nat → Int64} {h : Nat} (hh : S.1 3 = nI h) (hh2 : h ≤ 1024) {d : Int32} : CM l D cs sa yX5_isHoliday cX5_isHoliday 4 (Option.some Jvm.ClassFile.FieldType.boolean) (RM 0 0 0) 0 0 [.ref (ad 15), .int d] (WD ad cs n E S o) (none, some (.int (m_hol S d)), WD ad cs n E S o) := by
  refine CM.of RX5 hl (by decide +kernel) rfl (Nat.le_of_ble_eq_true rfl) ?_
  intro p e s m args below meth c A hc ho hmn
  have hre : m_hol S d = m_hl S d h 0 0 := by rw [m_hol, hh, nI_clamp (by omega)]
  have loop : ∀ (k i : Nat) (c0 : Int32), i + k = h → (c0 = 0 ∨ c0 = 1) → m_hl S d h 0 0 = m_hl S d k i c0 → J p l e (RM 0 0 0) s m args below meth c D A 4 0 0 (QE below args s D A 0 0 (WD ad cs n E S o) (none, some (.int (m_hol S d)), WD ad cs n E S o)) (WD ad cs n E S o) 4 [(0, .ref (ad 15)), (1, .int d), (2, .int c0), (3, .int (nI i))] [] := by
    intro k
    induction k with
    | zero =>
      intro i c0 hi h01 hd
      refine j_iload_n hc dX5_isHoliday_4 rfl ?_
      refine j_aload_n hc dX5_isHoliday_5 rfl ?_
      refine gf_X5_73 hc dX5_isHoliday_6 ?_
      refine j_icmp_ge hc 38 dX5_isHoliday_9 (by decide) (fun h9 => ?_) (fun h9 => by exact absurd h9 (fun z => z (by rw [hh]; exact nI_le (by omega) (by omega))))
      refine j_iload_n hc dX5_isHoliday_38 rfl ?_
      exact j_zret hc rfl (nar_01 h01) (by decide) (by decide) (by rw [hre, hd]; rfl) dX5_isHoliday_39
    | succ k ih =>
      intro i c0 hi h01 hd
      refine j_iload_n hc dX5_isHoliday_4 rfl ?_
      refine j_aload_n hc dX5_isHoliday_5 rfl ?_
      refine gf_X5_73 hc dX5_isHoliday_6 ?_
      refine j_icmp_ge hc 38 dX5_isHoliday_9 (by decide) (fun h9 => by exact absurd h9 (by rw [hh]; exact nI_ge (by omega) (by omega))) (fun h9 => ?_)
      refine j_iload_n hc dX5_isHoliday_12 rfl ?_
      refine j_if_ne hc 26 dX5_isHoliday_13 (by decide) (fun h13 => ?_) (fun h13 => ?_)
      · -- if_neg h13
        refine j_iconst hc (v := 1) dX5_isHoliday_26 (by decide) ?_
        refine j_goto hc 31 dX5_isHoliday_27 (by decide) ?_
        refine j_istore_n hc dX5_isHoliday_31 rfl ?_
        refine j_inc hc dX5_isHoliday_32 rfl (z := 1) (by decide) rfl ?_
        refine j_goto hc 4 dX5_isHoliday_35 (by decide) ?_
        refine j_lv [(0, .ref (ad 15)), (1, .int d), (2, .int _), (3, .int (nI i + 1))] ⟨rfl, rfl, rfl, rfl, trivial⟩ ?_
        rw [nI_1]
        exact ih (i + 1) _ (by omega) (by first | exact Or.inl rfl | exact Or.inr rfl) (by rw [hd]; simp only [m_hl, if_neg h9, if_neg h13])
      · -- if_pos h13
        refine j_aload_n hc dX5_isHoliday_16 rfl ?_
        refine gf_X5_13 hc dX5_isHoliday_17 ?_
        refine j_iload_n hc dX5_isHoliday_20 rfl ?_
        refine al_m2 hc (vp_in_nI (by omega) (by decide)) dX5_isHoliday_21 ?_
        refine j_iload_n hc dX5_isHoliday_22 rfl ?_
        refine j_icmp_ne hc 30 dX5_isHoliday_23 (by decide) (fun h23 => ?_) (fun h23 => ?_)
        · -- if_neg h23
          refine j_iconst hc (v := 0) dX5_isHoliday_30 (by decide) ?_
          refine j_istore_n hc dX5_isHoliday_31 rfl ?_
          refine j_inc hc dX5_isHoliday_32 rfl (z := 1) (by decide) rfl ?_
          refine j_goto hc 4 dX5_isHoliday_35 (by decide) ?_
          refine j_lv [(0, .ref (ad 15)), (1, .int d), (2, .int _), (3, .int (nI i + 1))] ⟨rfl, rfl, rfl, rfl, trivial⟩ ?_
          rw [nI_1]
          exact ih (i + 1) _ (by omega) (by first | exact Or.inl rfl | exact Or.inr rfl) (by rw [hd]; simp only [m_hl, if_neg h9, if_pos h13, if_neg h23])
        · -- if_pos h23
          refine j_iconst hc (v := 1) dX5_isHoliday_26 (by decide) ?_
          refine j_goto hc 31 dX5_isHoliday_27 (by decide) ?_
          refine j_istore_n hc dX5_isHoliday_31 rfl ?_
          refine j_inc hc dX5_isHoliday_32 rfl (z := 1) (by decide) rfl ?_
          refine j_goto hc 4 dX5_isHoliday_35 (by decide) ?_
          refine j_lv [(0, .ref (ad 15)), (1, .int d), (2, .int _), (3, .int (nI i + 1))] ⟨rfl, rfl, rfl, rfl, trivial⟩ ?_
          rw [nI_1]
          exact ih (i + 1) _ (by omega) (by first | exact Or.inl rfl | exact Or.inr rfl) (by rw [hd]; simp only [m_hl, if_neg h9, if_pos h13, if_pos h23])
  refine j_iconst hc (v := 0) dX5_isHoliday_0 (by decide) ?_
  refine j_istore_n hc dX5_isHoliday_1 rfl ?_
  refine j_iconst hc (v := 0) dX5_isHoliday_2 (by decide) ?_
  refine j_istore_n hc dX5_isHoliday_3 rfl ?_
  refine j_lv [(0, .ref (ad 15)), (1, .int d), (2, .int 0), (3, .int 0)] ⟨rfl, rfl, rfl, rfl, trivial⟩ ?_
  exact loop h 0 0 (by omega) (Or.inl rfl) rfl
set_option maxRecDepth 100000 in
set_option maxHeartbeats 4000000 in
theorem c_X5_charges {l : Launch} {D : va_G} {cs : Nat → ClassId} {sa : Nat → Nat} (hl : l.stackTraces = false)  {ad : Nat → Nat} {n : Nat} {E : ES} {S : MS} {o : Nat → Int64} {h nm : Nat} {Y T : Int} (H : MI h nm Y T S) {d : Int32} (hd0 : 0 ≤ d.toInt) : CM l D cs sa yX5_charges cX5_charges 2 (Option.some Jvm.ClassFile.FieldType.boolean) (RM 1 0 0) 0 0 [.ref (ad 15), .int d] (WD ad cs n E S o) (none, some (.int (m_chg S d)), (WD ad cs n E S o)) := by
  refine CM.of RX5 hl (by decide +kernel) rfl (Nat.le_of_ble_eq_true rfl) ?_
  intro p e s m args below meth c A hc ho hmn
  refine j_aload_n hc dX5_charges_0 rfl ?_
  refine gf_X5_7 hc dX5_charges_1 ?_
  refine j_iload_n hc dX5_charges_4 rfl ?_
  refine j_bipush hc (v := 7) dX5_charges_5 (by decide) ?_
  refine j_irem hc dX5_charges_7 (by decide) ?_
  refine al_m1 hc (rem_in (m := 7) hd0 (by decide) (by decide)) dX5_charges_8 ?_
  refine j_if_eq hc 24 dX5_charges_9 (by decide) (fun h9 => ?_) (fun h9 => ?_)
  · -- if_pos h9
    refine j_iconst hc (v := 0) dX5_charges_24 (by decide) ?_
    exact j_zret hc rfl rfl (by decide) (by decide) (by simp only [m_chg, if_pos h9] <;> rfl) dX5_charges_25
  · -- if_neg h9
    refine j_aload_n hc dX5_charges_12 rfl ?_
    refine j_iload_n hc dX5_charges_13 rfl ?_
    refine j_callV hc ho (c_X5_isHoliday hl H.1.1 H.1.2) vc_X5_76 rfl ⟨rfl, rfl, by decide, by decide⟩ 15 rfl rfl rfl (Nat.le_of_ble_eq_true rfl) ⟨by decide, by decide⟩ dX5_charges_14 ⟨by decide, by decide⟩ (fun _ h => by cases h) (fun hr14 => ?_)
    refine j_if_ne hc 24 dX5_charges_17 (by decide) (fun h17 => ?_) (fun h17 => ?_)
    · -- if_neg h17
      refine j_iconst hc (v := 0) dX5_charges_24 (by decide) ?_
      exact j_zret hc rfl rfl (by decide) (by decide) (by simp only [m_chg, if_neg h9, if_neg h17] <;> rfl) dX5_charges_25
    · -- if_pos h17
      refine j_iconst hc (v := 1) dX5_charges_20 (by decide) ?_
      refine j_goto hc 25 dX5_charges_21 (by decide) ?_
      exact j_zret hc rfl rfl (by decide) (by decide) (by simp only [m_chg, if_neg h9, if_pos h17] <;> rfl) dX5_charges_25
set_option maxRecDepth 100000 in
set_option maxHeartbeats 4000000 in
theorem c_X5_chargingFrom {l : Launch} {D : va_G} {cs : Nat → ClassId} {sa : Nat → Nat} (hl : l.stackTraces = false)  {ad : Nat → Nat} {n : Nat} {E : ES} {S : MS} {o : Nat → Int64} {h nm : Nat} {Y T : Int} (H : MI h nm Y T S) {d : Int32} (h1 : (S.1 0).toInt ≤ d.toInt) (h2 : d.toInt ≤ 2000000) : CM l D cs sa yX5_chargingFrom cX5_chargingFrom 3 (Option.some Jvm.ClassFile.FieldType.int) (RM 2 0 0) 0 0 [.ref (ad 15), .int d] (WD ad cs n E S o) (none, some (.int (m_cf S 1000 d)), WD ad cs n E S o) := by
  refine CM.of RX5 hl (by decide +kernel) rfl (Nat.le_of_ble_eq_true rfl) ?_
  intro p e s m args below meth c A hc ho hmn
  have loop : ∀ (k : Nat) (d0 : Int32), m_ok S k d0 → 0 ≤ d0.toInt → d0.toInt + k ≤ 2100000 → m_cf S 1000 d = m_cf S k d0 → J p l e (RM 2 0 0) s m args below meth c D A 3 0 0 (QE below args s D A 0 0 (WD ad cs n E S o) (none, some (.int (m_cf S 1000 d)), WD ad cs n E S o)) (WD ad cs n E S o) 2 [(0, .ref (ad 15)), (2, .int d0)] [] := by
    intro k
    induction k with
    | zero => intro d0 hok; exact hok.elim
    | succ k ih =>
      intro d0 hok h0 hk hd
      refine j_aload_n hc dX5_chargingFrom_2 rfl ?_
      refine j_iload_n hc dX5_chargingFrom_3 rfl ?_
      refine j_callV hc ho (c_X5_charges hl H h0) vc_X5_80 rfl ⟨rfl, rfl, by decide, by decide⟩ 15 rfl rfl rfl (Nat.le_of_ble_eq_true rfl) ⟨by decide, by decide⟩ dX5_chargingFrom_4 ⟨by decide, by decide⟩ (fun _ h => by cases h) (fun hr4 => ?_)
      refine j_if_ne hc 16 dX5_chargingFrom_7 (by decide) (fun h7 => ?_) (fun h7 => ?_)
      · -- if_neg h7
        refine j_iload_n hc dX5_chargingFrom_16 rfl ?_
        exact j_iret hc rfl (by decide) (by decide) (by rw [hd]; simp only [m_cf, if_neg h7]) dX5_chargingFrom_17
      · -- if_pos h7
        refine j_inc hc dX5_chargingFrom_10 rfl (z := 1) (by decide) rfl ?_
        refine j_goto hc 2 dX5_chargingFrom_13 (by decide) ?_
        refine j_lv [(0, .ref (ad 15)), (2, .int (d0 + 1))] ⟨rfl, rfl, trivial⟩ ?_
        have e1 := i32_inc (a := d0) (by omega)
        exact ih (d0 + 1) (hok.resolve_left (fun z => z h7)) (by omega) (by omega) (by rw [hd]; simp only [m_cf, if_pos h7])
  have hN := H.2.2.1
  refine j_iload_n hc dX5_chargingFrom_0 rfl ?_
  refine j_istore_n hc dX5_chargingFrom_1 rfl ?_
  refine j_lv [(0, .ref (ad 15)), (2, .int d)] ⟨rfl, rfl, trivial⟩ ?_
  exact loop 1000 d (mi_ok H h1 h2) (by omega) (by omega) rfl
set_option maxRecDepth 100000 in
set_option maxHeartbeats 4000000 in
theorem c_X5_enter {l : Launch} {D : va_G} {cs : Nat → ClassId} {sa : Nat → Nat} (hl : l.stackTraces = false)  {ad : Nat → Nat} {n : Nat} {E : ES} {S : MS} {o : Nat → Int64} {b : Int32} (hb : vp_in b 30) (hev : 0 ≤ (S.1 24).toInt) {s0 : Int32} : CM l D cs sa yX5_enter cX5_enter 3 (Option.none : Option Jvm.ClassFile.FieldType) (RM 0 0 0) 0 0 [.ref (ad 15), .int b, .int s0] (WD ad cs n E S o) (none, none, WD ad cs n E (m_enter S b s0) o) := by
  refine CM.of RX5 hl (by decide +kernel) rfl (Nat.le_of_ble_eq_true rfl) ?_
  intro p e s m args below meth c A hc ho hmn
  refine j_aload_n hc dX5_enter_0 rfl ?_
  refine gf_X5_32 hc dX5_enter_1 ?_
  refine j_iload_n hc dX5_enter_4 rfl ?_
  refine j_iload_n hc dX5_enter_5 rfl ?_
  refine as_m12 hc hb dX5_enter_6 ?_
  refine j_aload_n hc dX5_enter_7 rfl ?_
  refine gf_X5_56 hc dX5_enter_8 ?_
  refine j_aload_n hc dX5_enter_11 rfl ?_
  refine gf_X5_90 hc dX5_enter_12 ?_
  refine j_sipush hc (v := 400) dX5_enter_15 (by decide) ?_
  refine j_irem hc dX5_enter_18 (by decide) ?_
  refine j_sipush hc (v := 1000) dX5_enter_19 (by decide) ?_
  refine j_aload_n hc dX5_enter_22 rfl ?_
  refine gf_X5_87 hc dX5_enter_23 ?_
  refine j_imul hc dX5_enter_26 ?_
  refine j_bipush hc (v := 10) dX5_enter_27 (by decide) ?_
  refine j_iload_n hc dX5_enter_29 rfl ?_
  refine j_imul hc dX5_enter_30 ?_
  refine j_iadd hc dX5_enter_31 ?_
  refine j_iload_n hc dX5_enter_32 rfl ?_
  refine j_iadd hc dX5_enter_33 ?_
  refine as_m23 hc (rem_in (m := 400) (by exact hev) (by decide) (by decide)) dX5_enter_34 ?_
  refine j_aload_n hc dX5_enter_35 rfl ?_
  refine j_dup hc dX5_enter_36 rfl ?_
  refine gf_X5_90 hc dX5_enter_37 ?_
  refine j_iconst hc (v := 1) dX5_enter_40 (by decide) ?_
  refine j_iadd hc dX5_enter_41 ?_
  refine pf_X5_90 hc dX5_enter_42 ?_
  exact j_vret hc rfl (by decide) (by decide) (rfl) dX5_enter_45
set_option maxRecDepth 100000 in
set_option maxHeartbeats 4000000 in
theorem c_X5_receive {l : Launch} {D : va_G} {cs : Nat → ClassId} {sa : Nat → Nat} (hl : l.stackTraces = false)  {ad : Nat → Nat} {n : Nat} {E : ES} {S : MS} {o : Nat → Int64} {b : Int32} (hb : vp_in b 30) (hev : 0 ≤ (S.1 24).toInt) {v : Int32} : CM l D cs sa yX5_receive cX5_receive 3 (Option.none : Option Jvm.ClassFile.FieldType) (RM 1 0 0) 0 0 [.ref (ad 15), .int b, .int v] (WD ad cs n E S o) (none, none, WD ad cs n E (m_recv S b v) o) := by
  refine CM.of RX5 hl (by decide +kernel) rfl (Nat.le_of_ble_eq_true rfl) ?_
  intro p e s m args below meth c A hc ho hmn
  refine j_aload_n hc dX5_receive_0 rfl ?_
  refine gf_X5_29 hc dX5_receive_1 ?_
  refine j_iload_n hc dX5_receive_4 rfl ?_
  refine j_dup2 hc dX5_receive_5 rfl rfl ?_
  refine al_m11 hc hb dX5_receive_6 ?_
  refine j_iload_n hc dX5_receive_7 rfl ?_
  refine j_isub hc dX5_receive_8 ?_
  refine as_m11 hc hb dX5_receive_9 ?_
  refine j_aload_n hc dX5_receive_10 rfl ?_
  refine j_dup hc dX5_receive_11 rfl ?_
  refine gf_X5_104 hc dX5_receive_12 ?_
  refine j_iload_n hc dX5_receive_15 rfl ?_
  refine j_iadd hc dX5_receive_16 ?_
  refine pf_X5_104 hc dX5_receive_17 ?_
  refine j_aload_n hc dX5_receive_20 rfl ?_
  refine gf_X5_29 hc dX5_receive_21 ?_
  refine j_iload_n hc dX5_receive_24 rfl ?_
  refine al_m11 hc hb dX5_receive_25 ?_
  refine j_if_ne hc 36 dX5_receive_26 (by decide) (fun h26 => ?_) (fun h26 => ?_)
  · -- if_neg h26
    exact j_vret hc rfl (by decide) (by decide) (by simp only [m_recv, if_neg h26] <;> rfl) dX5_receive_36
  · -- if_pos h26
    refine j_aload_n hc dX5_receive_29 rfl ?_
    refine j_iload_n hc dX5_receive_30 rfl ?_
    refine j_bipush hc (v := 6) dX5_receive_31 (by decide) ?_
    refine j_callV hc ho (c_X5_enter hl hb (by exact hev)) vc_X5_100 rfl ⟨rfl, rfl, by decide, by decide⟩ 15 rfl rfl rfl (Nat.le_of_ble_eq_true rfl) ⟨by decide, by decide⟩ dX5_receive_33 ⟨by decide, by decide⟩ (fun _ h => by cases h) (fun hr33 => ?_)
    exact j_vret hc rfl (by decide) (by decide) (by simp only [m_recv, if_pos h26] <;> rfl) dX5_receive_36
theorem now_1 {h n : Nat} {Y T : Int} {S : MS} (H : MI h n Y T S) : (S.1 0 + 1).toInt = (S.1 0).toInt + 1 := i32_inc (by have := H.2.2.1; omega)
theorem now_cf {h n : Nat} {Y T : Int} {S : MS} (H : MI h n Y T S) : (S.1 0).toInt ≤ (S.1 0 + 1).toInt ∧ (S.1 0 + 1).toInt ≤ 2000000 := by
  rw [now_1 H]; have := H.2.2.1; omega
theorem gap_in {h n : Nat} {Y T : Int} {S : MS} (H : MI h n Y T S) {r k : Int32} (h1 : 1 ≤ r.toInt) (h2 : r.toInt ≤ 4) (hk : 1 ≤ k.toInt) (hk2 : ¬ S.2 5 r.toNatClampNeg < k) : vp_in (6 * r + k - 1) 30 ∧ (S.1 0).toInt ≤ (S.1 0 + S.2 4 (6 * r + k - 1).toNatClampNeg).toInt ∧ (S.1 0 + S.2 4 (6 * r + k - 1).toNatClampNeg).toInt ≤ 2000000 := by
  obtain ⟨q1, q2, q3, q6, q7, q8, q9, q10, q11⟩ := H
  have e6 := mul6 (r := r) (by omega) h2
  have e1 : (1 : Int32).toInt = 1 := by decide
  have hr := q10 r.toNatClampNeg (by show r.toInt.toNat < 5; omega)
  rw [i32_lt] at hk2
  have e : (6 * r + k - 1).toInt = 6 * r.toInt + k.toInt - 1 := by
    rw [i32_sub (by rw [i32_add (by omega) (by omega)]; omega) (by rw [i32_add (by omega) (by omega)]; omega), i32_add (by omega) (by omega)]; omega
  have hv : vp_in (6 * r + k - 1) 30 := by rw [vp_in_iff, e]; omega
  have hg := q9 (6 * r + k - 1).toNatClampNeg (by show (6 * r + k - 1).toInt.toNat < 30; omega)
  refine ⟨hv, ?_⟩
  rw [i32_add (by omega) (by omega)]; omega
theorem cnt_pos {h n : Nat} {Y T : Int} {S : MS} (H : MI h n Y T S) (i : Nat) (hi : i < 150) : 1 ≤ (S.2 15 i + 1).toInt := by
  have := H.2.2.2.2.2.2.2.2 i hi
  have := H.2.2.2.1
  rw [i32_inc (by omega)]; omega
theorem vp_tn {x : Int32} {m : Nat} (h : vp_in x m) : x.toNatClampNeg < m := by
  have := vp_in_iff.mp h
  show x.toInt.toNat < m
  omega
set_option maxRecDepth 100000 in
set_option maxHeartbeats 4000000 in
theorem c_X5_fail {l : Launch} {D : va_G} {cs : Nat → ClassId} {sa : Nat → Nat} (hl : l.stackTraces = false)  {ad : Nat → Nat} {n : Nat} {E : ES} {S : MS} {o : Nat → Int64} {h nm : Nat} {Y T : Int} (H : MI h nm Y T S) {b : Int32} (hb : vp_in b 30) {r : Int32} (hr1 : 1 ≤ r.toInt) (hr2 : r.toInt ≤ 4) (hT : T + 1 ≤ 1000000000) : CM l D cs sa yX5_fail cX5_fail 4 (Option.none : Option Jvm.ClassFile.FieldType) (RM 3 0 0) 0 0 [.ref (ad 15), .int b, .int r] (WD ad cs n E S o) (none, none, WD ad cs n E (m_fail S b r) o) := by
  refine CM.of RX5 hl (by decide +kernel) rfl (Nat.le_of_ble_eq_true rfl) ?_
  intro p e s m args below meth c A hc ho hmn
  have h150 := mul_in hb (r := r) (by omega) hr2
  have hr5 : vp_in r 5 := by rw [vp_in_iff]; omega
  have H1 := mi_f H hT (5 * b + r).toNatClampNeg
  have hk1 : 1 ≤ ((mA S 15 (5 * b + r).toNatClampNeg (S.2 15 (5 * b + r).toNatClampNeg + 1)).2 15 (5 * b + r).toNatClampNeg).toInt := by
    have := cnt_pos H _ (vp_tn h150)
    simpa [mA, up2, va_up, upd] using this
  refine j_aload_n hc dX5_fail_0 rfl ?_
  refine gf_X5_41 hc dX5_fail_1 ?_
  refine j_iconst hc (v := 5) dX5_fail_4 (by decide) ?_
  refine j_iload_n hc dX5_fail_5 rfl ?_
  refine j_imul hc dX5_fail_6 ?_
  refine j_iload_n hc dX5_fail_7 rfl ?_
  refine j_iadd hc dX5_fail_8 ?_
  refine j_dup2 hc dX5_fail_9 rfl rfl ?_
  refine al_m15 hc h150 dX5_fail_10 ?_
  refine j_iconst hc (v := 1) dX5_fail_11 (by decide) ?_
  refine j_iadd hc dX5_fail_12 ?_
  refine as_m15 hc h150 dX5_fail_13 ?_
  refine j_aload_n hc dX5_fail_14 rfl ?_
  refine gf_X5_41 hc dX5_fail_15 ?_
  refine j_iconst hc (v := 5) dX5_fail_18 (by decide) ?_
  refine j_iload_n hc dX5_fail_19 rfl ?_
  refine j_imul hc dX5_fail_20 ?_
  refine j_iload_n hc dX5_fail_21 rfl ?_
  refine j_iadd hc dX5_fail_22 ?_
  refine al_m15 hc h150 dX5_fail_23 ?_
  refine j_istore_n hc dX5_fail_24 rfl ?_
  refine j_aload_n hc dX5_fail_25 rfl ?_
  refine gf_X5_20 hc dX5_fail_26 ?_
  refine j_iload_n hc dX5_fail_29 rfl ?_
  refine al_m5 hc hr5 dX5_fail_30 ?_
  refine j_iload_n hc dX5_fail_31 rfl ?_
  refine j_icmp_lt hc 72 dX5_fail_32 (by decide) (fun h32 => ?_) (fun h32 => ?_)
  · -- if_pos h32
    refine j_aload_n hc dX5_fail_72 rfl ?_
    refine gf_X5_35 hc dX5_fail_73 ?_
    refine j_iload_n hc dX5_fail_76 rfl ?_
    refine j_aload_n hc dX5_fail_77 rfl ?_
    refine gf_X5_87 hc dX5_fail_78 ?_
    refine j_aload_n hc dX5_fail_81 rfl ?_
    refine gf_X5_63 hc dX5_fail_82 ?_
    refine j_iadd hc dX5_fail_85 ?_
    refine as_m13 hc hb dX5_fail_86 ?_
    refine j_aload_n hc dX5_fail_87 rfl ?_
    refine j_iload_n hc dX5_fail_88 rfl ?_
    refine j_iconst hc (v := 2) dX5_fail_89 (by decide) ?_
    refine j_callV hc ho (c_X5_enter hl hb (by exact H.2.2.2.1.1)) vc_X5_100 rfl ⟨rfl, rfl, by decide, by decide⟩ 15 rfl rfl rfl (Nat.le_of_ble_eq_true rfl) ⟨by decide, by decide⟩ dX5_fail_90 ⟨by decide, by decide⟩ (fun _ h => by cases h) (fun hr90 => ?_)
    exact j_vret hc rfl (by decide) (by decide) (by simp only [m_fail, if_pos h32] <;> rfl) dX5_fail_93
  · -- if_neg h32
    refine j_aload_n hc dX5_fail_35 rfl ?_
    refine gf_X5_35 hc dX5_fail_36 ?_
    refine j_iload_n hc dX5_fail_39 rfl ?_
    refine j_aload_n hc dX5_fail_40 rfl ?_
    refine j_aload_n hc dX5_fail_41 rfl ?_
    refine gf_X5_87 hc dX5_fail_42 ?_
    refine j_aload_n hc dX5_fail_45 rfl ?_
    refine gf_X5_17 hc dX5_fail_46 ?_
    refine j_bipush hc (v := 6) dX5_fail_49 (by decide) ?_
    refine j_iload_n hc dX5_fail_51 rfl ?_
    refine j_imul hc dX5_fail_52 ?_
    refine j_iload_n hc dX5_fail_53 rfl ?_
    refine j_iadd hc dX5_fail_54 ?_
    refine j_iconst hc (v := 1) dX5_fail_55 (by decide) ?_
    refine j_isub hc dX5_fail_56 ?_
    refine al_m4 hc (gap_in H1 hr1 hr2 hk1 h32).1 dX5_fail_57 ?_
    refine j_iadd hc dX5_fail_58 ?_
    refine j_callV hc ho (c_X5_chargingFrom hl H1 (gap_in H1 hr1 hr2 hk1 h32).2.1 (gap_in H1 hr1 hr2 hk1 h32).2.2) vc_X5_96 rfl ⟨rfl, rfl, by decide, by decide⟩ 15 rfl rfl rfl (Nat.le_of_ble_eq_true rfl) ⟨by decide, by decide⟩ dX5_fail_59 ⟨by decide, by decide⟩ (fun _ h => by cases h) (fun hr59 => ?_)
    refine as_m13 hc hb dX5_fail_62 ?_
    refine j_aload_n hc dX5_fail_63 rfl ?_
    refine j_iload_n hc dX5_fail_64 rfl ?_
    refine j_iconst hc (v := 0) dX5_fail_65 (by decide) ?_
    refine j_callV hc ho (c_X5_enter hl hb (by exact H.2.2.2.1.1)) vc_X5_100 rfl ⟨rfl, rfl, by decide, by decide⟩ 15 rfl rfl rfl (Nat.le_of_ble_eq_true rfl) ⟨by decide, by decide⟩ dX5_fail_66 ⟨by decide, by decide⟩ (fun _ h => by cases h) (fun hr66 => ?_)
    refine j_goto hc 93 dX5_fail_69 (by decide) ?_
    exact j_vret hc rfl (by decide) (by decide) (by simp only [m_fail, if_neg h32] <;> rfl) dX5_fail_93
set_option maxRecDepth 100000 in
set_option maxHeartbeats 4000000 in
theorem c_X5_breakPromise {l : Launch} {D : va_G} {cs : Nat → ClassId} {sa : Nat → Nat} (hl : l.stackTraces = false)  {ad : Nat → Nat} {n : Nat} {E : ES} {S : MS} {o : Nat → Int64} {h nm : Nat} {Y T : Int} (H : MI h nm Y T S) {b : Int32} (hb : vp_in b 30) : CM l D cs sa yX5_breakPromise cX5_breakPromise 2 (Option.none : Option Jvm.ClassFile.FieldType) (RM 3 0 0) 0 0 [.ref (ad 15), .int b] (WD ad cs n E S o) (none, none, WD ad cs n E (m_bp S b) o) := by
  refine CM.of RX5 hl (by decide +kernel) rfl (Nat.le_of_ble_eq_true rfl) ?_
  intro p e s m args below meth c A hc ho hmn
  refine j_aload_n hc dX5_breakPromise_0 rfl ?_
  refine gf_X5_47 hc dX5_breakPromise_1 ?_
  refine j_iload_n hc dX5_breakPromise_4 rfl ?_
  refine j_dup2 hc dX5_breakPromise_5 rfl rfl ?_
  refine al_m17 hc hb dX5_breakPromise_6 ?_
  refine j_iconst hc (v := 1) dX5_breakPromise_7 (by decide) ?_
  refine j_iadd hc dX5_breakPromise_8 ?_
  refine as_m17 hc hb dX5_breakPromise_9 ?_
  refine j_aload_n hc dX5_breakPromise_10 rfl ?_
  refine gf_X5_35 hc dX5_breakPromise_11 ?_
  refine j_iload_n hc dX5_breakPromise_14 rfl ?_
  refine j_aload_n hc dX5_breakPromise_15 rfl ?_
  refine gf_X5_50 hc dX5_breakPromise_16 ?_
  refine j_iload_n hc dX5_breakPromise_19 rfl ?_
  refine al_m18 hc hb dX5_breakPromise_20 ?_
  refine j_if_ne hc 37 dX5_breakPromise_21 (by decide) (fun h21 => ?_) (fun h21 => ?_)
  · -- if_neg h21
    refine j_aload_n hc dX5_breakPromise_37 rfl ?_
    refine gf_X5_87 hc dX5_breakPromise_38 ?_
    refine j_aload_n hc dX5_breakPromise_41 rfl ?_
    refine gf_X5_53 hc dX5_breakPromise_42 ?_
    refine j_iload_n hc dX5_breakPromise_45 rfl ?_
    refine al_m19 hc hb dX5_breakPromise_46 ?_
    refine j_iadd hc dX5_breakPromise_47 ?_
    refine as_m13 hc hb dX5_breakPromise_48 ?_
    refine j_aload_n hc dX5_breakPromise_49 rfl ?_
    refine j_iload_n hc dX5_breakPromise_50 rfl ?_
    refine j_aload_n hc dX5_breakPromise_51 rfl ?_
    refine gf_X5_50 hc dX5_breakPromise_52 ?_
    refine j_iload_n hc dX5_breakPromise_55 rfl ?_
    refine al_m18 hc hb dX5_breakPromise_56 ?_
    refine j_callV hc ho (c_X5_enter hl hb (by exact H.2.2.2.1.1)) vc_X5_100 rfl ⟨rfl, rfl, by decide, by decide⟩ 15 rfl rfl rfl (Nat.le_of_ble_eq_true rfl) ⟨by decide, by decide⟩ dX5_breakPromise_57 ⟨by decide, by decide⟩ (fun _ h => by cases h) (fun hr57 => ?_)
    exact j_vret hc rfl (by decide) (by decide) (by simp only [m_bp, if_neg h21] <;> rfl) dX5_breakPromise_60
  · -- if_pos h21
    refine j_aload_n hc dX5_breakPromise_24 rfl ?_
    refine j_aload_n hc dX5_breakPromise_25 rfl ?_
    refine gf_X5_87 hc dX5_breakPromise_26 ?_
    refine j_iconst hc (v := 1) dX5_breakPromise_29 (by decide) ?_
    refine j_iadd hc dX5_breakPromise_30 ?_
    refine j_callV hc ho (c_X5_chargingFrom hl (mi_A H 17 _ _ (by decide)) (now_cf H).1 (now_cf H).2) vc_X5_96 rfl ⟨rfl, rfl, by decide, by decide⟩ 15 rfl rfl rfl (Nat.le_of_ble_eq_true rfl) ⟨by decide, by decide⟩ dX5_breakPromise_31 ⟨by decide, by decide⟩ (fun _ h => by cases h) (fun hr31 => ?_)
    refine j_goto hc 48 dX5_breakPromise_34 (by decide) ?_
    refine as_m13 hc hb dX5_breakPromise_48 ?_
    refine j_aload_n hc dX5_breakPromise_49 rfl ?_
    refine j_iload_n hc dX5_breakPromise_50 rfl ?_
    refine j_aload_n hc dX5_breakPromise_51 rfl ?_
    refine gf_X5_50 hc dX5_breakPromise_52 ?_
    refine j_iload_n hc dX5_breakPromise_55 rfl ?_
    refine al_m18 hc hb dX5_breakPromise_56 ?_
    refine j_callV hc ho (c_X5_enter hl hb (by exact H.2.2.2.1.1)) vc_X5_100 rfl ⟨rfl, rfl, by decide, by decide⟩ 15 rfl rfl rfl (Nat.le_of_ble_eq_true rfl) ⟨by decide, by decide⟩ dX5_breakPromise_57 ⟨by decide, by decide⟩ (fun _ h => by cases h) (fun hr57 => ?_)
    exact j_vret hc rfl (by decide) (by decide) (by simp only [m_bp, if_pos h21] <;> rfl) dX5_breakPromise_60
set_option maxRecDepth 100000 in
set_option maxHeartbeats 4000000 in
theorem c_X5_look {l : Launch} {D : va_G} {cs : Nat → ClassId} {sa : Nat → Nat} (hl : l.stackTraces = false)  {ad : Nat → Nat} {n : Nat} {E : ES} {S : MS} {o : Nat → Int64} {h nm : Nat} {Y T : Int} (H : MI h nm Y T S) {b : Int32} (hb : vp_in b 30) : CM l D cs sa yX5_look cX5_look 3 (Option.some Jvm.ClassFile.FieldType.boolean) (RM 4 0 0) 0 0 [.ref (ad 15), .int b] (WD ad cs n E S o) (none, some (.int (m_look S b).1), WD ad cs n E (m_look S b).2 o) := by
  refine CM.of RX5 hl (by decide +kernel) rfl (Nat.le_of_ble_eq_true rfl) ?_
  intro p e s m args below meth c A hc ho hmn
  refine j_aload_n hc dX5_look_0 rfl ?_
  refine gf_X5_32 hc dX5_look_1 ?_
  refine j_iload_n hc dX5_look_4 rfl ?_
  refine al_m12 hc hb dX5_look_5 ?_
  refine j_istore_n hc dX5_look_6 rfl ?_
  refine j_iload_n hc dX5_look_7 rfl ?_
  refine j_if_ne hc 72 dX5_look_8 (by decide) (fun h8 => ?_) (fun h8 => ?_)
  · -- if_neg h8
    refine j_iload_n hc dX5_look_72 rfl ?_
    refine j_iconst hc (v := 2) dX5_look_73 (by decide) ?_
    refine j_icmp_ne hc 114 dX5_look_74 (by decide) (fun h74 => ?_) (fun h74 => ?_)
    · -- if_neg h74
      refine j_iload_n hc dX5_look_114 rfl ?_
      refine j_iconst hc (v := 3) dX5_look_115 (by decide) ?_
      refine j_icmp_ne hc 156 dX5_look_116 (by decide) (fun h116 => ?_) (fun h116 => ?_)
      · -- if_neg h116
        refine j_iload_n hc dX5_look_156 rfl ?_
        refine j_iconst hc (v := 4) dX5_look_157 (by decide) ?_
        refine j_icmp_ne hc 179 dX5_look_158 (by decide) (fun h158 => ?_) (fun h158 => ?_)
        · -- if_neg h158
          refine j_iconst hc (v := 0) dX5_look_179 (by decide) ?_
          exact j_zret hc rfl rfl (by decide) (by decide) (by simp only [m_look, m_l1, m_l2, m_l3, if_neg h8, if_neg h74, if_neg h116, if_neg h158] <;> rfl) dX5_look_180
        · -- if_pos h158
          refine j_aload_n hc dX5_look_161 rfl ?_
          refine gf_X5_35 hc dX5_look_162 ?_
          refine j_iload_n hc dX5_look_165 rfl ?_
          refine al_m13 hc hb dX5_look_166 ?_
          refine j_aload_n hc dX5_look_167 rfl ?_
          refine gf_X5_87 hc dX5_look_168 ?_
          refine j_icmp_ne hc 179 dX5_look_171 (by decide) (fun h171 => ?_) (fun h171 => ?_)
          · -- if_neg h171
            refine j_iconst hc (v := 0) dX5_look_179 (by decide) ?_
            exact j_zret hc rfl rfl (by decide) (by decide) (by simp only [m_look, m_l1, m_l2, m_l3, if_neg h8, if_neg h74, if_neg h116, if_pos h158, if_neg h171] <;> rfl) dX5_look_180
          · -- if_pos h171
            refine j_aload_n hc dX5_look_174 rfl ?_
            refine j_iload_n hc dX5_look_175 rfl ?_
            refine j_callV hc ho (c_X5_breakPromise hl H hb) vc_X5_122 rfl ⟨rfl, rfl, by decide, by decide⟩ 15 rfl rfl rfl (Nat.le_of_ble_eq_true rfl) ⟨by decide, by decide⟩ dX5_look_176 ⟨by decide, by decide⟩ (fun _ h => by cases h) (fun hr176 => ?_)
            refine j_iconst hc (v := 0) dX5_look_179 (by decide) ?_
            exact j_zret hc rfl rfl (by decide) (by decide) (by simp only [m_look, m_l1, m_l2, m_l3, if_neg h8, if_neg h74, if_neg h116, if_pos h158, if_pos h171] <;> rfl) dX5_look_180
      · -- if_pos h116
        refine j_aload_n hc dX5_look_119 rfl ?_
        refine gf_X5_35 hc dX5_look_120 ?_
        refine j_iload_n hc dX5_look_123 rfl ?_
        refine al_m13 hc hb dX5_look_124 ?_
        refine j_aload_n hc dX5_look_125 rfl ?_
        refine gf_X5_87 hc dX5_look_126 ?_
        refine j_icmp_ne hc 156 dX5_look_129 (by decide) (fun h129 => ?_) (fun h129 => ?_)
        · -- if_neg h129
          refine j_iload_n hc dX5_look_156 rfl ?_
          refine j_iconst hc (v := 4) dX5_look_157 (by decide) ?_
          refine j_icmp_ne hc 179 dX5_look_158 (by decide) (fun h158 => ?_) (fun h158 => ?_)
          · -- if_neg h158
            refine j_iconst hc (v := 0) dX5_look_179 (by decide) ?_
            exact j_zret hc rfl rfl (by decide) (by decide) (by simp only [m_look, m_l1, m_l2, m_l3, if_neg h8, if_neg h74, if_pos h116, if_neg h129, if_neg h158] <;> rfl) dX5_look_180
          · -- if_pos h158
            refine j_aload_n hc dX5_look_161 rfl ?_
            refine gf_X5_35 hc dX5_look_162 ?_
            refine j_iload_n hc dX5_look_165 rfl ?_
            refine al_m13 hc hb dX5_look_166 ?_
            refine j_aload_n hc dX5_look_167 rfl ?_
            refine gf_X5_87 hc dX5_look_168 ?_
            refine j_icmp_ne hc 179 dX5_look_171 (by decide) (fun h171 => ?_) (fun h171 => by exact absurd h171 h129)
            refine j_iconst hc (v := 0) dX5_look_179 (by decide) ?_
            exact j_zret hc rfl rfl (by decide) (by decide) (by simp only [m_look, m_l1, m_l2, m_l3, if_neg h8, if_neg h74, if_pos h116, if_neg h129, if_pos h158, if_neg h171] <;> rfl) dX5_look_180
        · -- if_pos h129
          refine j_aload_n hc dX5_look_132 rfl ?_
          refine j_dup hc dX5_look_133 rfl ?_
          refine gf_X5_119 hc dX5_look_134 ?_
          refine j_aload_n hc dX5_look_137 rfl ?_
          refine gf_X5_29 hc dX5_look_138 ?_
          refine j_iload_n hc dX5_look_141 rfl ?_
          refine al_m11 hc hb dX5_look_142 ?_
          refine j_iadd hc dX5_look_143 ?_
          refine pf_X5_119 hc dX5_look_144 ?_
          refine j_aload_n hc dX5_look_147 rfl ?_
          refine j_iload_n hc dX5_look_148 rfl ?_
          refine j_iconst hc (v := 5) dX5_look_149 (by decide) ?_
          refine j_callV hc ho (c_X5_enter hl hb (by exact H.2.2.2.1.1)) vc_X5_100 rfl ⟨rfl, rfl, by decide, by decide⟩ 15 rfl rfl rfl (Nat.le_of_ble_eq_true rfl) ⟨by decide, by decide⟩ dX5_look_150 ⟨by decide, by decide⟩ (fun _ h => by cases h) (fun hr150 => ?_)
          refine j_goto hc 179 dX5_look_153 (by decide) ?_
          refine j_iconst hc (v := 0) dX5_look_179 (by decide) ?_
          exact j_zret hc rfl rfl (by decide) (by decide) (by simp only [m_look, m_l1, m_l2, m_l3, if_neg h8, if_neg h74, if_pos h116, if_pos h129] <;> rfl) dX5_look_180
    · -- if_pos h74
      refine j_aload_n hc dX5_look_77 rfl ?_
      refine gf_X5_35 hc dX5_look_78 ?_
      refine j_iload_n hc dX5_look_81 rfl ?_
      refine al_m13 hc hb dX5_look_82 ?_
      refine j_aload_n hc dX5_look_83 rfl ?_
      refine gf_X5_87 hc dX5_look_84 ?_
      refine j_icmp_ne hc 114 dX5_look_87 (by decide) (fun h87 => ?_) (fun h87 => ?_)
      · -- if_neg h87
        refine j_iload_n hc dX5_look_114 rfl ?_
        refine j_iconst hc (v := 3) dX5_look_115 (by decide) ?_
        refine j_icmp_ne hc 156 dX5_look_116 (by decide) (fun h116 => ?_) (fun h116 => ?_)
        · -- if_neg h116
          refine j_iload_n hc dX5_look_156 rfl ?_
          refine j_iconst hc (v := 4) dX5_look_157 (by decide) ?_
          refine j_icmp_ne hc 179 dX5_look_158 (by decide) (fun h158 => ?_) (fun h158 => ?_)
          · -- if_neg h158
            refine j_iconst hc (v := 0) dX5_look_179 (by decide) ?_
            exact j_zret hc rfl rfl (by decide) (by decide) (by simp only [m_look, m_l1, m_l2, m_l3, if_neg h8, if_pos h74, if_neg h87, if_neg h116, if_neg h158] <;> rfl) dX5_look_180
          · -- if_pos h158
            refine j_aload_n hc dX5_look_161 rfl ?_
            refine gf_X5_35 hc dX5_look_162 ?_
            refine j_iload_n hc dX5_look_165 rfl ?_
            refine al_m13 hc hb dX5_look_166 ?_
            refine j_aload_n hc dX5_look_167 rfl ?_
            refine gf_X5_87 hc dX5_look_168 ?_
            refine j_icmp_ne hc 179 dX5_look_171 (by decide) (fun h171 => ?_) (fun h171 => by exact absurd h171 h87)
            refine j_iconst hc (v := 0) dX5_look_179 (by decide) ?_
            exact j_zret hc rfl rfl (by decide) (by decide) (by simp only [m_look, m_l1, m_l2, m_l3, if_neg h8, if_pos h74, if_neg h87, if_neg h116, if_pos h158, if_neg h171] <;> rfl) dX5_look_180
        · -- if_pos h116
          refine j_aload_n hc dX5_look_119 rfl ?_
          refine gf_X5_35 hc dX5_look_120 ?_
          refine j_iload_n hc dX5_look_123 rfl ?_
          refine al_m13 hc hb dX5_look_124 ?_
          refine j_aload_n hc dX5_look_125 rfl ?_
          refine gf_X5_87 hc dX5_look_126 ?_
          refine j_icmp_ne hc 156 dX5_look_129 (by decide) (fun h129 => ?_) (fun h129 => by exact absurd h129 h87)
          refine j_iload_n hc dX5_look_156 rfl ?_
          refine j_iconst hc (v := 4) dX5_look_157 (by decide) ?_
          refine j_icmp_ne hc 179 dX5_look_158 (by decide) (fun h158 => ?_) (fun h158 => ?_)
          · -- if_neg h158
            refine j_iconst hc (v := 0) dX5_look_179 (by decide) ?_
            exact j_zret hc rfl rfl (by decide) (by decide) (by simp only [m_look, m_l1, m_l2, m_l3, if_neg h8, if_pos h74, if_neg h87, if_pos h116, if_neg h129, if_neg h158] <;> rfl) dX5_look_180
          · -- if_pos h158
            refine j_aload_n hc dX5_look_161 rfl ?_
            refine gf_X5_35 hc dX5_look_162 ?_
            refine j_iload_n hc dX5_look_165 rfl ?_
            refine al_m13 hc hb dX5_look_166 ?_
            refine j_aload_n hc dX5_look_167 rfl ?_
            refine gf_X5_87 hc dX5_look_168 ?_
            refine j_icmp_ne hc 179 dX5_look_171 (by decide) (fun h171 => ?_) (fun h171 => by exact absurd h171 h87)
            refine j_iconst hc (v := 0) dX5_look_179 (by decide) ?_
            exact j_zret hc rfl rfl (by decide) (by decide) (by simp only [m_look, m_l1, m_l2, m_l3, if_neg h8, if_pos h74, if_neg h87, if_pos h116, if_neg h129, if_pos h158, if_neg h171] <;> rfl) dX5_look_180
      · -- if_pos h87
        refine j_aload_n hc dX5_look_90 rfl ?_
        refine gf_X5_35 hc dX5_look_91 ?_
        refine j_iload_n hc dX5_look_94 rfl ?_
        refine j_aload_n hc dX5_look_95 rfl ?_
        refine gf_X5_87 hc dX5_look_96 ?_
        refine j_aload_n hc dX5_look_99 rfl ?_
        refine gf_X5_67 hc dX5_look_100 ?_
        refine j_iadd hc dX5_look_103 ?_
        refine as_m13 hc hb dX5_look_104 ?_
        refine j_aload_n hc dX5_look_105 rfl ?_
        refine j_iload_n hc dX5_look_106 rfl ?_
        refine j_iconst hc (v := 3) dX5_look_107 (by decide) ?_
        refine j_callV hc ho (c_X5_enter hl hb (by exact H.2.2.2.1.1)) vc_X5_100 rfl ⟨rfl, rfl, by decide, by decide⟩ 15 rfl rfl rfl (Nat.le_of_ble_eq_true rfl) ⟨by decide, by decide⟩ dX5_look_108 ⟨by decide, by decide⟩ (fun _ h => by cases h) (fun hr108 => ?_)
        refine j_goto hc 179 dX5_look_111 (by decide) ?_
        refine j_iconst hc (v := 0) dX5_look_179 (by decide) ?_
        exact j_zret hc rfl rfl (by decide) (by decide) (by simp only [m_look, m_l1, m_l2, m_l3, if_neg h8, if_pos h74, if_pos h87] <;> rfl) dX5_look_180
  · -- if_pos h8
    refine j_aload_n hc dX5_look_11 rfl ?_
    refine gf_X5_35 hc dX5_look_12 ?_
    refine j_iload_n hc dX5_look_15 rfl ?_
    refine al_m13 hc hb dX5_look_16 ?_
    refine j_aload_n hc dX5_look_17 rfl ?_
    refine gf_X5_87 hc dX5_look_18 ?_
    refine j_icmp_gt hc 72 dX5_look_21 (by decide) (fun h21 => ?_) (fun h21 => ?_)
    · -- if_pos h21
      refine j_iload_n hc dX5_look_72 rfl ?_
      refine j_iconst hc (v := 2) dX5_look_73 (by decide) ?_
      refine j_icmp_ne hc 114 dX5_look_74 (by decide) (fun h74 => ?_) (fun h74 => ?_)
      · -- if_neg h74
        refine j_iload_n hc dX5_look_114 rfl ?_
        refine j_iconst hc (v := 3) dX5_look_115 (by decide) ?_
        refine j_icmp_ne hc 156 dX5_look_116 (by decide) (fun h116 => ?_) (fun h116 => ?_)
        · -- if_neg h116
          refine j_iload_n hc dX5_look_156 rfl ?_
          refine j_iconst hc (v := 4) dX5_look_157 (by decide) ?_
          refine j_icmp_ne hc 179 dX5_look_158 (by decide) (fun h158 => ?_) (fun h158 => ?_)
          · -- if_neg h158
            refine j_iconst hc (v := 0) dX5_look_179 (by decide) ?_
            exact j_zret hc rfl rfl (by decide) (by decide) (by simp only [m_look, m_l1, m_l2, m_l3, if_pos h8, if_pos h21, if_neg h74, if_neg h116, if_neg h158] <;> rfl) dX5_look_180
          · -- if_pos h158
            refine j_aload_n hc dX5_look_161 rfl ?_
            refine gf_X5_35 hc dX5_look_162 ?_
            refine j_iload_n hc dX5_look_165 rfl ?_
            refine al_m13 hc hb dX5_look_166 ?_
            refine j_aload_n hc dX5_look_167 rfl ?_
            refine gf_X5_87 hc dX5_look_168 ?_
            refine j_icmp_ne hc 179 dX5_look_171 (by decide) (fun h171 => ?_) (fun h171 => ?_)
            · -- if_neg h171
              refine j_iconst hc (v := 0) dX5_look_179 (by decide) ?_
              exact j_zret hc rfl rfl (by decide) (by decide) (by simp only [m_look, m_l1, m_l2, m_l3, if_pos h8, if_pos h21, if_neg h74, if_neg h116, if_pos h158, if_neg h171] <;> rfl) dX5_look_180
            · -- if_pos h171
              refine j_aload_n hc dX5_look_174 rfl ?_
              refine j_iload_n hc dX5_look_175 rfl ?_
              refine j_callV hc ho (c_X5_breakPromise hl H hb) vc_X5_122 rfl ⟨rfl, rfl, by decide, by decide⟩ 15 rfl rfl rfl (Nat.le_of_ble_eq_true rfl) ⟨by decide, by decide⟩ dX5_look_176 ⟨by decide, by decide⟩ (fun _ h => by cases h) (fun hr176 => ?_)
              refine j_iconst hc (v := 0) dX5_look_179 (by decide) ?_
              exact j_zret hc rfl rfl (by decide) (by decide) (by simp only [m_look, m_l1, m_l2, m_l3, if_pos h8, if_pos h21, if_neg h74, if_neg h116, if_pos h158, if_pos h171] <;> rfl) dX5_look_180
        · -- if_pos h116
          refine j_aload_n hc dX5_look_119 rfl ?_
          refine gf_X5_35 hc dX5_look_120 ?_
          refine j_iload_n hc dX5_look_123 rfl ?_
          refine al_m13 hc hb dX5_look_124 ?_
          refine j_aload_n hc dX5_look_125 rfl ?_
          refine gf_X5_87 hc dX5_look_126 ?_
          refine j_icmp_ne hc 156 dX5_look_129 (by decide) (fun h129 => ?_) (fun h129 => ?_)
          · -- if_neg h129
            refine j_iload_n hc dX5_look_156 rfl ?_
            refine j_iconst hc (v := 4) dX5_look_157 (by decide) ?_
            refine j_icmp_ne hc 179 dX5_look_158 (by decide) (fun h158 => ?_) (fun h158 => ?_)
            · -- if_neg h158
              refine j_iconst hc (v := 0) dX5_look_179 (by decide) ?_
              exact j_zret hc rfl rfl (by decide) (by decide) (by simp only [m_look, m_l1, m_l2, m_l3, if_pos h8, if_pos h21, if_neg h74, if_pos h116, if_neg h129, if_neg h158] <;> rfl) dX5_look_180
            · -- if_pos h158
              refine j_aload_n hc dX5_look_161 rfl ?_
              refine gf_X5_35 hc dX5_look_162 ?_
              refine j_iload_n hc dX5_look_165 rfl ?_
              refine al_m13 hc hb dX5_look_166 ?_
              refine j_aload_n hc dX5_look_167 rfl ?_
              refine gf_X5_87 hc dX5_look_168 ?_
              refine j_icmp_ne hc 179 dX5_look_171 (by decide) (fun h171 => ?_) (fun h171 => by exact absurd h171 h129)
              refine j_iconst hc (v := 0) dX5_look_179 (by decide) ?_
              exact j_zret hc rfl rfl (by decide) (by decide) (by simp only [m_look, m_l1, m_l2, m_l3, if_pos h8, if_pos h21, if_neg h74, if_pos h116, if_neg h129, if_pos h158, if_neg h171] <;> rfl) dX5_look_180
          · -- if_pos h129
            refine j_aload_n hc dX5_look_132 rfl ?_
            refine j_dup hc dX5_look_133 rfl ?_
            refine gf_X5_119 hc dX5_look_134 ?_
            refine j_aload_n hc dX5_look_137 rfl ?_
            refine gf_X5_29 hc dX5_look_138 ?_
            refine j_iload_n hc dX5_look_141 rfl ?_
            refine al_m11 hc hb dX5_look_142 ?_
            refine j_iadd hc dX5_look_143 ?_
            refine pf_X5_119 hc dX5_look_144 ?_
            refine j_aload_n hc dX5_look_147 rfl ?_
            refine j_iload_n hc dX5_look_148 rfl ?_
            refine j_iconst hc (v := 5) dX5_look_149 (by decide) ?_
            refine j_callV hc ho (c_X5_enter hl hb (by exact H.2.2.2.1.1)) vc_X5_100 rfl ⟨rfl, rfl, by decide, by decide⟩ 15 rfl rfl rfl (Nat.le_of_ble_eq_true rfl) ⟨by decide, by decide⟩ dX5_look_150 ⟨by decide, by decide⟩ (fun _ h => by cases h) (fun hr150 => ?_)
            refine j_goto hc 179 dX5_look_153 (by decide) ?_
            refine j_iconst hc (v := 0) dX5_look_179 (by decide) ?_
            exact j_zret hc rfl rfl (by decide) (by decide) (by simp only [m_look, m_l1, m_l2, m_l3, if_pos h8, if_pos h21, if_neg h74, if_pos h116, if_pos h129] <;> rfl) dX5_look_180
      · -- if_pos h74
        refine j_aload_n hc dX5_look_77 rfl ?_
        refine gf_X5_35 hc dX5_look_78 ?_
        refine j_iload_n hc dX5_look_81 rfl ?_
        refine al_m13 hc hb dX5_look_82 ?_
        refine j_aload_n hc dX5_look_83 rfl ?_
        refine gf_X5_87 hc dX5_look_84 ?_
        refine j_icmp_ne hc 114 dX5_look_87 (by decide) (fun h87 => ?_) (fun h87 => ?_)
        · -- if_neg h87
          refine j_iload_n hc dX5_look_114 rfl ?_
          refine j_iconst hc (v := 3) dX5_look_115 (by decide) ?_
          refine j_icmp_ne hc 156 dX5_look_116 (by decide) (fun h116 => ?_) (fun h116 => ?_)
          · -- if_neg h116
            refine j_iload_n hc dX5_look_156 rfl ?_
            refine j_iconst hc (v := 4) dX5_look_157 (by decide) ?_
            refine j_icmp_ne hc 179 dX5_look_158 (by decide) (fun h158 => ?_) (fun h158 => ?_)
            · -- if_neg h158
              refine j_iconst hc (v := 0) dX5_look_179 (by decide) ?_
              exact j_zret hc rfl rfl (by decide) (by decide) (by simp only [m_look, m_l1, m_l2, m_l3, if_pos h8, if_pos h21, if_pos h74, if_neg h87, if_neg h116, if_neg h158] <;> rfl) dX5_look_180
            · -- if_pos h158
              refine j_aload_n hc dX5_look_161 rfl ?_
              refine gf_X5_35 hc dX5_look_162 ?_
              refine j_iload_n hc dX5_look_165 rfl ?_
              refine al_m13 hc hb dX5_look_166 ?_
              refine j_aload_n hc dX5_look_167 rfl ?_
              refine gf_X5_87 hc dX5_look_168 ?_
              refine j_icmp_ne hc 179 dX5_look_171 (by decide) (fun h171 => ?_) (fun h171 => by exact absurd h171 h87)
              refine j_iconst hc (v := 0) dX5_look_179 (by decide) ?_
              exact j_zret hc rfl rfl (by decide) (by decide) (by simp only [m_look, m_l1, m_l2, m_l3, if_pos h8, if_pos h21, if_pos h74, if_neg h87, if_neg h116, if_pos h158, if_neg h171] <;> rfl) dX5_look_180
          · -- if_pos h116
            refine j_aload_n hc dX5_look_119 rfl ?_
            refine gf_X5_35 hc dX5_look_120 ?_
            refine j_iload_n hc dX5_look_123 rfl ?_
            refine al_m13 hc hb dX5_look_124 ?_
            refine j_aload_n hc dX5_look_125 rfl ?_
            refine gf_X5_87 hc dX5_look_126 ?_
            refine j_icmp_ne hc 156 dX5_look_129 (by decide) (fun h129 => ?_) (fun h129 => by exact absurd h129 h87)
            refine j_iload_n hc dX5_look_156 rfl ?_
            refine j_iconst hc (v := 4) dX5_look_157 (by decide) ?_
            refine j_icmp_ne hc 179 dX5_look_158 (by decide) (fun h158 => ?_) (fun h158 => ?_)
            · -- if_neg h158
              refine j_iconst hc (v := 0) dX5_look_179 (by decide) ?_
              exact j_zret hc rfl rfl (by decide) (by decide) (by simp only [m_look, m_l1, m_l2, m_l3, if_pos h8, if_pos h21, if_pos h74, if_neg h87, if_pos h116, if_neg h129, if_neg h158] <;> rfl) dX5_look_180
            · -- if_pos h158
              refine j_aload_n hc dX5_look_161 rfl ?_
              refine gf_X5_35 hc dX5_look_162 ?_
              refine j_iload_n hc dX5_look_165 rfl ?_
              refine al_m13 hc hb dX5_look_166 ?_
              refine j_aload_n hc dX5_look_167 rfl ?_
              refine gf_X5_87 hc dX5_look_168 ?_
              refine j_icmp_ne hc 179 dX5_look_171 (by decide) (fun h171 => ?_) (fun h171 => by exact absurd h171 h87)
              refine j_iconst hc (v := 0) dX5_look_179 (by decide) ?_
              exact j_zret hc rfl rfl (by decide) (by decide) (by simp only [m_look, m_l1, m_l2, m_l3, if_pos h8, if_pos h21, if_pos h74, if_neg h87, if_pos h116, if_neg h129, if_pos h158, if_neg h171] <;> rfl) dX5_look_180
        · -- if_pos h87
          refine j_aload_n hc dX5_look_90 rfl ?_
          refine gf_X5_35 hc dX5_look_91 ?_
          refine j_iload_n hc dX5_look_94 rfl ?_
          refine j_aload_n hc dX5_look_95 rfl ?_
          refine gf_X5_87 hc dX5_look_96 ?_
          refine j_aload_n hc dX5_look_99 rfl ?_
          refine gf_X5_67 hc dX5_look_100 ?_
          refine j_iadd hc dX5_look_103 ?_
          refine as_m13 hc hb dX5_look_104 ?_
          refine j_aload_n hc dX5_look_105 rfl ?_
          refine j_iload_n hc dX5_look_106 rfl ?_
          refine j_iconst hc (v := 3) dX5_look_107 (by decide) ?_
          refine j_callV hc ho (c_X5_enter hl hb (by exact H.2.2.2.1.1)) vc_X5_100 rfl ⟨rfl, rfl, by decide, by decide⟩ 15 rfl rfl rfl (Nat.le_of_ble_eq_true rfl) ⟨by decide, by decide⟩ dX5_look_108 ⟨by decide, by decide⟩ (fun _ h => by cases h) (fun hr108 => ?_)
          refine j_goto hc 179 dX5_look_111 (by decide) ?_
          refine j_iconst hc (v := 0) dX5_look_179 (by decide) ?_
          exact j_zret hc rfl rfl (by decide) (by decide) (by simp only [m_look, m_l1, m_l2, m_l3, if_pos h8, if_pos h21, if_pos h74, if_pos h87] <;> rfl) dX5_look_180
    · -- if_neg h21
      refine j_aload_n hc dX5_look_24 rfl ?_
      refine j_aload_n hc dX5_look_25 rfl ?_
      refine gf_X5_87 hc dX5_look_26 ?_
      refine j_callV hc ho (c_X5_charges hl H H.2.2.1.1) vc_X5_80 rfl ⟨rfl, rfl, by decide, by decide⟩ 15 rfl rfl rfl (Nat.le_of_ble_eq_true rfl) ⟨by decide, by decide⟩ dX5_look_29 ⟨by decide, by decide⟩ (fun _ h => by cases h) (fun hr29 => ?_)
      refine j_if_eq hc 53 dX5_look_32 (by decide) (fun h32 => ?_) (fun h32 => ?_)
      · -- if_pos h32
        refine j_aload_n hc dX5_look_53 rfl ?_
        refine gf_X5_35 hc dX5_look_54 ?_
        refine j_iload_n hc dX5_look_57 rfl ?_
        refine j_aload_n hc dX5_look_58 rfl ?_
        refine j_aload_n hc dX5_look_59 rfl ?_
        refine gf_X5_87 hc dX5_look_60 ?_
        refine j_iconst hc (v := 1) dX5_look_63 (by decide) ?_
        refine j_iadd hc dX5_look_64 ?_
        refine j_callV hc ho (c_X5_chargingFrom hl H (now_cf H).1 (now_cf H).2) vc_X5_96 rfl ⟨rfl, rfl, by decide, by decide⟩ 15 rfl rfl rfl (Nat.le_of_ble_eq_true rfl) ⟨by decide, by decide⟩ dX5_look_65 ⟨by decide, by decide⟩ (fun _ h => by cases h) (fun hr65 => ?_)
        refine as_m13 hc hb dX5_look_68 ?_
        refine j_goto hc 179 dX5_look_69 (by decide) ?_
        refine j_iconst hc (v := 0) dX5_look_179 (by decide) ?_
        exact j_zret hc rfl rfl (by decide) (by decide) (by simp only [m_look, m_l1, m_l2, m_l3, if_pos h8, if_neg h21, if_pos h32] <;> rfl) dX5_look_180
      · -- if_neg h32
        refine j_aload_n hc dX5_look_35 rfl ?_
        refine gf_X5_38 hc dX5_look_36 ?_
        refine j_iload_n hc dX5_look_39 rfl ?_
        refine j_dup2 hc dX5_look_40 rfl rfl ?_
        refine al_m14 hc hb dX5_look_41 ?_
        refine j_iconst hc (v := 1) dX5_look_42 (by decide) ?_
        refine j_iadd hc dX5_look_43 ?_
        refine as_m14 hc hb dX5_look_44 ?_
        refine j_aload_n hc dX5_look_45 rfl ?_
        refine j_iload_n hc dX5_look_46 rfl ?_
        refine j_iconst hc (v := 1) dX5_look_47 (by decide) ?_
        refine j_callV hc ho (c_X5_enter hl hb (by exact H.2.2.2.1.1)) vc_X5_100 rfl ⟨rfl, rfl, by decide, by decide⟩ 15 rfl rfl rfl (Nat.le_of_ble_eq_true rfl) ⟨by decide, by decide⟩ dX5_look_48 ⟨by decide, by decide⟩ (fun _ h => by cases h) (fun hr48 => ?_)
        refine j_iconst hc (v := 1) dX5_look_51 (by decide) ?_
        exact j_zret hc rfl rfl (by decide) (by decide) (by simp only [m_look, m_l1, m_l2, m_l3, if_pos h8, if_neg h21, if_neg h32] <;> rfl) dX5_look_52
set_option maxRecDepth 100000 in
set_option maxHeartbeats 4000000 in
theorem c_X5_isBill {l : Launch} {D : va_G} {cs : Nat → ClassId} {sa : Nat → Nat} (hl : l.stackTraces = false)  {ad : Nat → Nat} {n : Nat} {E : ES} {S : MS} {o : Nat → Int64} {p0 : Int32} : CM l D cs sa yX5_isBill cX5_isBill 2 (Option.some Jvm.ClassFile.FieldType.boolean) (RM 1 0 0) 0 0 [.ref (ad 15), .int p0] (WD ad cs n E S o) (none, some (.int (m_isBill S p0).1), WD ad cs n E (m_isBill S p0).2 o) := by
  refine CM.of RX5 hl (by decide +kernel) rfl (Nat.le_of_ble_eq_true rfl) ?_
  intro p e s m args below meth c A hc ho hmn
  refine j_aload_n hc dX5_isBill_0 rfl ?_
  refine j_iload_n hc dX5_isBill_1 rfl ?_
  refine j_iconst hc (v := 0) dX5_isBill_2 (by decide) ?_
  refine j_aload_n hc dX5_isBill_3 rfl ?_
  refine gf_X5_93 hc dX5_isBill_4 ?_
  refine j_iconst hc (v := 1) dX5_isBill_7 (by decide) ?_
  refine j_isub hc dX5_isBill_8 ?_
  refine j_callS hc ho (c_X5_in hl) sc_X5_83 rfl ⟨rfl, rfl, by decide, by decide⟩ rfl (Nat.le_of_ble_eq_true rfl) ⟨by decide, by decide⟩ dX5_isBill_9 ⟨by decide, by decide⟩ (fun _ h => by cases h) (fun hr9 => ?_)
  refine j_if_eq hc 19 dX5_isBill_12 (by decide) (fun h12 => ?_) (fun h12 => ?_)
  · -- if_pos h12
    refine j_iconst hc (v := 1) dX5_isBill_19 (by decide) ?_
    refine pf_X5_70 hc dX5_isBill_20 ?_
    refine j_aload_n hc dX5_isBill_23 rfl ?_
    refine gf_X5_70 hc dX5_isBill_24 ?_
    refine j_if_ne hc 34 dX5_isBill_27 (by decide) (fun h27 => ?_) (fun h27 => by exact absurd (show (1 : Int32) = (0 : Int32) from h27) (by decide))
    refine j_iconst hc (v := 0) dX5_isBill_34 (by decide) ?_
    exact j_zret hc rfl rfl (by decide) (by decide) (by simp only [m_isBill, if_pos h12] <;> rfl) dX5_isBill_35
  · -- if_neg h12
    refine j_iconst hc (v := 0) dX5_isBill_15 (by decide) ?_
    refine j_goto hc 20 dX5_isBill_16 (by decide) ?_
    refine pf_X5_70 hc dX5_isBill_20 ?_
    refine j_aload_n hc dX5_isBill_23 rfl ?_
    refine gf_X5_70 hc dX5_isBill_24 ?_
    refine j_if_ne hc 34 dX5_isBill_27 (by decide) (fun h27 => by exact absurd (show ¬ (0 : Int32) = (0 : Int32) from h27) (by decide)) (fun h27 => ?_)
    refine j_iconst hc (v := 1) dX5_isBill_30 (by decide) ?_
    refine j_goto hc 35 dX5_isBill_31 (by decide) ?_
    exact j_zret hc rfl rfl (by decide) (by decide) (by simp only [m_isBill, if_neg h12] <;> rfl) dX5_isBill_35
theorem oc_14 {x : Int32} (h : ¬ m_in x 0 4 = 0) (h2 : ¬ x = 0) : 1 ≤ x.toInt ∧ x.toInt ≤ 4 := by
  have hh := in_none h
  have e0 : (0 : Int32).toInt = 0 := by decide
  have e4 : (4 : Int32).toInt = 4 := by decide
  rw [← Int32.toInt_inj, e0] at h2
  omega
set_option maxRecDepth 100000 in
set_option maxHeartbeats 4000000 in
theorem c_X5_outcome {l : Launch} {D : va_G} {cs : Nat → ClassId} {sa : Nat → Nat} (hl : l.stackTraces = false)  {ad : Nat → Nat} {n : Nat} {E : ES} {S : MS} {o : Nat → Int64} {h nm : Nat} {Y T : Int} (H : MI h nm Y T S) (hT : T + 2 ≤ 1000000000) {p0 x : Int32} : CM l D cs sa yX5_outcome cX5_outcome 3 (Option.some Jvm.ClassFile.FieldType.int) (RM 4 0 0) 0 0 [.ref (ad 15), .int p0, .int x] (WD ad cs n E S o) (none, some (.int (m_outcome S p0 x).1), WD ad cs n E (m_outcome S p0 x).2 o) := by
  refine CM.of RX5 hl (by decide +kernel) rfl (Nat.le_of_ble_eq_true rfl) ?_
  intro p e s m args below meth c A hc ho hmn
  refine j_aload_n hc dX5_outcome_0 rfl ?_
  refine j_iload_n hc dX5_outcome_1 rfl ?_
  refine j_callV hc ho (c_X5_isBill hl) vc_X5_107 rfl ⟨rfl, rfl, by decide, by decide⟩ 15 rfl rfl rfl (Nat.le_of_ble_eq_true rfl) ⟨by decide, by decide⟩ dX5_outcome_2 ⟨by decide, by decide⟩ (fun _ h => by cases h) (fun hr2 => ?_)
  refine j_if_ne hc 10 dX5_outcome_5 (by decide) (fun h5 => ?_) (fun h5 => ?_)
  · -- if_neg h5
    refine j_aload_n hc dX5_outcome_10 rfl ?_
    refine j_iload_n hc dX5_outcome_11 rfl ?_
    refine j_iconst hc (v := 0) dX5_outcome_12 (by decide) ?_
    refine j_iconst hc (v := 4) dX5_outcome_13 (by decide) ?_
    refine j_callS hc ho (c_X5_in hl) sc_X5_83 rfl ⟨rfl, rfl, by decide, by decide⟩ rfl (Nat.le_of_ble_eq_true rfl) ⟨by decide, by decide⟩ dX5_outcome_14 ⟨by decide, by decide⟩ (fun _ h => by cases h) (fun hr14 => ?_)
    refine j_if_ne hc 24 dX5_outcome_17 (by decide) (fun h17 => ?_) (fun h17 => ?_)
    · -- if_neg h17
      refine j_aload_n hc dX5_outcome_24 rfl ?_
      refine gf_X5_32 hc dX5_outcome_25 ?_
      refine j_iload_n hc dX5_outcome_28 rfl ?_
      refine al_m12 hc (isb_in H h5) dX5_outcome_29 ?_
      refine j_iconst hc (v := 1) dX5_outcome_30 (by decide) ?_
      refine j_icmp_eq hc 38 dX5_outcome_31 (by decide) (fun h31 => ?_) (fun h31 => ?_)
      · -- if_pos h31
        refine j_iconst hc (v := 0) dX5_outcome_38 (by decide) ?_
        refine pf_X5_70 hc dX5_outcome_39 ?_
        refine j_aload_n hc dX5_outcome_42 rfl ?_
        refine gf_X5_70 hc dX5_outcome_43 ?_
        refine j_if_le hc 51 dX5_outcome_46 (by decide) (fun h46 => ?_) (fun h46 => by exact absurd (show ¬ (0 : Int32) ≤ (0 : Int32) from h46) (by decide))
        refine j_iload_n hc dX5_outcome_51 rfl ?_
        refine j_if_ne hc 69 dX5_outcome_52 (by decide) (fun h52 => ?_) (fun h52 => ?_)
        · -- if_neg h52
          refine j_aload_n hc dX5_outcome_69 rfl ?_
          refine j_iload_n hc dX5_outcome_70 rfl ?_
          refine j_iload_n hc dX5_outcome_71 rfl ?_
          refine j_callV hc ho (c_X5_fail hl (mi_G (isb_q H p0) 25 0 (by decide)) (isb_in H h5) (oc_14 h17 h52).1 (oc_14 h17 h52).2 (by omega)) vc_X5_113 rfl ⟨rfl, rfl, by decide, by decide⟩ 15 rfl rfl rfl (Nat.le_of_ble_eq_true rfl) ⟨by decide, by decide⟩ dX5_outcome_72 ⟨by decide, by decide⟩ (fun _ h => by cases h) (fun hr72 => ?_)
          refine j_aload_n hc dX5_outcome_75 rfl ?_
          refine gf_X5_32 hc dX5_outcome_76 ?_
          refine j_iload_n hc dX5_outcome_79 rfl ?_
          refine al_m12 hc (isb_in H h5) dX5_outcome_80 ?_
          exact j_iret hc rfl (by decide) (by decide) (by simp only [m_outcome, if_neg h5, if_neg h17, if_pos h31, if_neg h52] <;> rfl) dX5_outcome_81
        · -- if_pos h52
          refine j_aload_n hc dX5_outcome_55 rfl ?_
          refine j_iload_n hc dX5_outcome_56 rfl ?_
          refine j_aload_n hc dX5_outcome_57 rfl ?_
          refine gf_X5_29 hc dX5_outcome_58 ?_
          refine j_iload_n hc dX5_outcome_61 rfl ?_
          refine al_m11 hc (isb_in H h5) dX5_outcome_62 ?_
          refine j_callV hc ho (c_X5_receive hl (isb_in H h5) (by exact (isb_q H p0).2.2.2.1.1)) vc_X5_110 rfl ⟨rfl, rfl, by decide, by decide⟩ 15 rfl rfl rfl (Nat.le_of_ble_eq_true rfl) ⟨by decide, by decide⟩ dX5_outcome_63 ⟨by decide, by decide⟩ (fun _ h => by cases h) (fun hr63 => ?_)
          refine j_goto hc 75 dX5_outcome_66 (by decide) ?_
          refine j_aload_n hc dX5_outcome_75 rfl ?_
          refine gf_X5_32 hc dX5_outcome_76 ?_
          refine j_iload_n hc dX5_outcome_79 rfl ?_
          refine al_m12 hc (isb_in H h5) dX5_outcome_80 ?_
          exact j_iret hc rfl (by decide) (by decide) (by simp only [m_outcome, if_neg h5, if_neg h17, if_pos h31, if_pos h52] <;> rfl) dX5_outcome_81
      · -- if_neg h31
        refine j_iconst hc (v := 3) dX5_outcome_34 (by decide) ?_
        refine j_goto hc 39 dX5_outcome_35 (by decide) ?_
        refine pf_X5_70 hc dX5_outcome_39 ?_
        refine j_aload_n hc dX5_outcome_42 rfl ?_
        refine gf_X5_70 hc dX5_outcome_43 ?_
        refine j_if_le hc 51 dX5_outcome_46 (by decide) (fun h46 => by exact absurd (show (3 : Int32) ≤ (0 : Int32) from h46) (by decide)) (fun h46 => ?_)
        refine j_iconst hc (v := 0) dX5_outcome_49 (by decide) ?_
        exact j_iret hc rfl (by decide) (by decide) (by simp only [m_outcome, if_neg h5, if_neg h17, if_neg h31] <;> rfl) dX5_outcome_50
    · -- if_pos h17
      refine j_iconst hc (v := 2) dX5_outcome_20 (by decide) ?_
      refine j_goto hc 39 dX5_outcome_21 (by decide) ?_
      refine pf_X5_70 hc dX5_outcome_39 ?_
      refine j_aload_n hc dX5_outcome_42 rfl ?_
      refine gf_X5_70 hc dX5_outcome_43 ?_
      refine j_if_le hc 51 dX5_outcome_46 (by decide) (fun h46 => by exact absurd (show (2 : Int32) ≤ (0 : Int32) from h46) (by decide)) (fun h46 => ?_)
      refine j_iconst hc (v := 0) dX5_outcome_49 (by decide) ?_
      exact j_iret hc rfl (by decide) (by decide) (by simp only [m_outcome, if_neg h5, if_pos h17] <;> rfl) dX5_outcome_50
  · -- if_pos h5
    refine j_iconst hc (v := 0) dX5_outcome_8 (by decide) ?_
    exact j_iret hc rfl (by decide) (by decide) (by simp only [m_outcome, if_pos h5] <;> rfl) dX5_outcome_9
set_option maxRecDepth 100000 in
set_option maxHeartbeats 4000000 in
theorem c_X5_pay {l : Launch} {D : va_G} {cs : Nat → ClassId} {sa : Nat → Nat} (hl : l.stackTraces = false)  {ad : Nat → Nat} {n : Nat} {E : ES} {S : MS} {o : Nat → Int64} {h nm : Nat} {Y T : Int} (H : MI h nm Y T S) {p0 v : Int32} : CM l D cs sa yX5_pay cX5_pay 3 (Option.some Jvm.ClassFile.FieldType.int) (RM 4 0 0) 0 0 [.ref (ad 15), .int p0, .int v] (WD ad cs n E S o) (none, some (.int (m_pay S p0 v).1), WD ad cs n E (m_pay S p0 v).2 o) := by
  refine CM.of RX5 hl (by decide +kernel) rfl (Nat.le_of_ble_eq_true rfl) ?_
  intro p e s m args below meth c A hc ho hmn
  refine j_aload_n hc dX5_pay_0 rfl ?_
  refine j_iload_n hc dX5_pay_1 rfl ?_
  refine j_callV hc ho (c_X5_isBill hl) vc_X5_107 rfl ⟨rfl, rfl, by decide, by decide⟩ 15 rfl rfl rfl (Nat.le_of_ble_eq_true rfl) ⟨by decide, by decide⟩ dX5_pay_2 ⟨by decide, by decide⟩ (fun _ h => by cases h) (fun hr2 => ?_)
  refine j_if_ne hc 10 dX5_pay_5 (by decide) (fun h5 => ?_) (fun h5 => ?_)
  · -- if_neg h5
    refine j_aload_n hc dX5_pay_10 rfl ?_
    refine j_iload_n hc dX5_pay_11 rfl ?_
    refine j_iconst hc (v := 1) dX5_pay_12 (by decide) ?_
    refine j_sipush hc (v := 9999) dX5_pay_13 (by decide) ?_
    refine j_callS hc ho (c_X5_in hl) sc_X5_83 rfl ⟨rfl, rfl, by decide, by decide⟩ rfl (Nat.le_of_ble_eq_true rfl) ⟨by decide, by decide⟩ dX5_pay_16 ⟨by decide, by decide⟩ (fun _ h => by cases h) (fun hr16 => ?_)
    refine j_if_ne hc 26 dX5_pay_19 (by decide) (fun h19 => ?_) (fun h19 => ?_)
    · -- if_neg h19
      refine j_aload_n hc dX5_pay_26 rfl ?_
      refine gf_X5_32 hc dX5_pay_27 ?_
      refine j_iload_n hc dX5_pay_30 rfl ?_
      refine al_m12 hc (isb_in H h5) dX5_pay_31 ?_
      refine j_iconst hc (v := 1) dX5_pay_32 (by decide) ?_
      refine j_icmp_eq hc 57 dX5_pay_33 (by decide) (fun h33 => ?_) (fun h33 => ?_)
      · -- if_pos h33
        refine j_iconst hc (v := 3) dX5_pay_57 (by decide) ?_
        refine j_goto hc 62 dX5_pay_58 (by decide) ?_
        refine pf_X5_70 hc dX5_pay_62 ?_
        refine j_aload_n hc dX5_pay_65 rfl ?_
        refine gf_X5_70 hc dX5_pay_66 ?_
        refine j_if_le hc 74 dX5_pay_69 (by decide) (fun h69 => by exact absurd (show (3 : Int32) ≤ (0 : Int32) from h69) (by decide)) (fun h69 => ?_)
        refine j_iconst hc (v := 0) dX5_pay_72 (by decide) ?_
        exact j_iret hc rfl (by decide) (by decide) (by simp only [m_pay, if_neg h5, if_neg h19, if_pos h33] <;> rfl) dX5_pay_73
      · -- if_neg h33
        refine j_aload_n hc dX5_pay_36 rfl ?_
        refine gf_X5_32 hc dX5_pay_37 ?_
        refine j_iload_n hc dX5_pay_40 rfl ?_
        refine al_m12 hc (isb_in H h5) dX5_pay_41 ?_
        refine j_bipush hc (v := 6) dX5_pay_42 (by decide) ?_
        refine j_icmp_eq hc 57 dX5_pay_44 (by decide) (fun h44 => ?_) (fun h44 => ?_)
        · -- if_pos h44
          refine j_iconst hc (v := 3) dX5_pay_57 (by decide) ?_
          refine j_goto hc 62 dX5_pay_58 (by decide) ?_
          refine pf_X5_70 hc dX5_pay_62 ?_
          refine j_aload_n hc dX5_pay_65 rfl ?_
          refine gf_X5_70 hc dX5_pay_66 ?_
          refine j_if_le hc 74 dX5_pay_69 (by decide) (fun h69 => by exact absurd (show (3 : Int32) ≤ (0 : Int32) from h69) (by decide)) (fun h69 => ?_)
          refine j_iconst hc (v := 0) dX5_pay_72 (by decide) ?_
          exact j_iret hc rfl (by decide) (by decide) (by simp only [m_pay, if_neg h5, if_neg h19, if_neg h33, if_pos h44] <;> rfl) dX5_pay_73
        · -- if_neg h44
          refine j_iload_n hc dX5_pay_47 rfl ?_
          refine j_aload_n hc dX5_pay_48 rfl ?_
          refine gf_X5_29 hc dX5_pay_49 ?_
          refine j_iload_n hc dX5_pay_52 rfl ?_
          refine al_m11 hc (isb_in H h5) dX5_pay_53 ?_
          refine j_icmp_le hc 61 dX5_pay_54 (by decide) (fun h54 => ?_) (fun h54 => ?_)
          · -- if_pos h54
            refine j_iconst hc (v := 0) dX5_pay_61 (by decide) ?_
            refine pf_X5_70 hc dX5_pay_62 ?_
            refine j_aload_n hc dX5_pay_65 rfl ?_
            refine gf_X5_70 hc dX5_pay_66 ?_
            refine j_if_le hc 74 dX5_pay_69 (by decide) (fun h69 => ?_) (fun h69 => by exact absurd (show ¬ (0 : Int32) ≤ (0 : Int32) from h69) (by decide))
            refine j_aload_n hc dX5_pay_74 rfl ?_
            refine j_dup hc dX5_pay_75 rfl ?_
            refine gf_X5_116 hc dX5_pay_76 ?_
            refine j_aload_n hc dX5_pay_79 rfl ?_
            refine gf_X5_32 hc dX5_pay_80 ?_
            refine j_iload_n hc dX5_pay_83 rfl ?_
            refine al_m12 hc (isb_in H h5) dX5_pay_84 ?_
            refine j_iconst hc (v := 5) dX5_pay_85 (by decide) ?_
            refine j_icmp_ne hc 93 dX5_pay_86 (by decide) (fun h86 => ?_) (fun h86 => ?_)
            · -- if_neg h86
              refine j_iconst hc (v := 0) dX5_pay_93 (by decide) ?_
              refine j_iadd hc dX5_pay_94 ?_
              refine pf_X5_116 hc dX5_pay_95 ?_
              refine j_aload_n hc dX5_pay_98 rfl ?_
              refine j_iload_n hc dX5_pay_99 rfl ?_
              refine j_iload_n hc dX5_pay_100 rfl ?_
              refine j_callV hc ho (c_X5_receive hl (isb_in H h5) (by exact (isb_q H p0).2.2.2.1.1)) vc_X5_110 rfl ⟨rfl, rfl, by decide, by decide⟩ 15 rfl rfl rfl (Nat.le_of_ble_eq_true rfl) ⟨by decide, by decide⟩ dX5_pay_101 ⟨by decide, by decide⟩ (fun _ h => by cases h) (fun hr101 => ?_)
              refine j_aload_n hc dX5_pay_104 rfl ?_
              refine gf_X5_29 hc dX5_pay_105 ?_
              refine j_iload_n hc dX5_pay_108 rfl ?_
              refine al_m11 hc (isb_in H h5) dX5_pay_109 ?_
              exact j_iret hc rfl (by decide) (by decide) (by simp only [m_pay, if_neg h5, if_neg h19, if_neg h33, if_neg h44, if_pos h54, if_neg h86] <;> rfl) dX5_pay_110
            · -- if_pos h86
              refine j_iload_n hc dX5_pay_89 rfl ?_
              refine j_goto hc 94 dX5_pay_90 (by decide) ?_
              refine j_iadd hc dX5_pay_94 ?_
              refine pf_X5_116 hc dX5_pay_95 ?_
              refine j_aload_n hc dX5_pay_98 rfl ?_
              refine j_iload_n hc dX5_pay_99 rfl ?_
              refine j_iload_n hc dX5_pay_100 rfl ?_
              refine j_callV hc ho (c_X5_receive hl (isb_in H h5) (by exact (isb_q H p0).2.2.2.1.1)) vc_X5_110 rfl ⟨rfl, rfl, by decide, by decide⟩ 15 rfl rfl rfl (Nat.le_of_ble_eq_true rfl) ⟨by decide, by decide⟩ dX5_pay_101 ⟨by decide, by decide⟩ (fun _ h => by cases h) (fun hr101 => ?_)
              refine j_aload_n hc dX5_pay_104 rfl ?_
              refine gf_X5_29 hc dX5_pay_105 ?_
              refine j_iload_n hc dX5_pay_108 rfl ?_
              refine al_m11 hc (isb_in H h5) dX5_pay_109 ?_
              exact j_iret hc rfl (by decide) (by decide) (by simp only [m_pay, if_neg h5, if_neg h19, if_neg h33, if_neg h44, if_pos h54, if_pos h86] <;> rfl) dX5_pay_110
          · -- if_neg h54
            refine j_iconst hc (v := 3) dX5_pay_57 (by decide) ?_
            refine j_goto hc 62 dX5_pay_58 (by decide) ?_
            refine pf_X5_70 hc dX5_pay_62 ?_
            refine j_aload_n hc dX5_pay_65 rfl ?_
            refine gf_X5_70 hc dX5_pay_66 ?_
            refine j_if_le hc 74 dX5_pay_69 (by decide) (fun h69 => by exact absurd (show (3 : Int32) ≤ (0 : Int32) from h69) (by decide)) (fun h69 => ?_)
            refine j_iconst hc (v := 0) dX5_pay_72 (by decide) ?_
            exact j_iret hc rfl (by decide) (by decide) (by simp only [m_pay, if_neg h5, if_neg h19, if_neg h33, if_neg h44, if_neg h54] <;> rfl) dX5_pay_73
    · -- if_pos h19
      refine j_iconst hc (v := 2) dX5_pay_22 (by decide) ?_
      refine j_goto hc 62 dX5_pay_23 (by decide) ?_
      refine pf_X5_70 hc dX5_pay_62 ?_
      refine j_aload_n hc dX5_pay_65 rfl ?_
      refine gf_X5_70 hc dX5_pay_66 ?_
      refine j_if_le hc 74 dX5_pay_69 (by decide) (fun h69 => by exact absurd (show (2 : Int32) ≤ (0 : Int32) from h69) (by decide)) (fun h69 => ?_)
      refine j_iconst hc (v := 0) dX5_pay_72 (by decide) ?_
      exact j_iret hc rfl (by decide) (by decide) (by simp only [m_pay, if_neg h5, if_pos h19] <;> rfl) dX5_pay_73
  · -- if_pos h5
    refine j_iconst hc (v := 0) dX5_pay_8 (by decide) ?_
    exact j_iret hc rfl (by decide) (by decide) (by simp only [m_pay, if_pos h5] <;> rfl) dX5_pay_9
set_option maxRecDepth 100000 in
set_option maxHeartbeats 4000000 in
theorem c_X5_promise {l : Launch} {D : va_G} {cs : Nat → ClassId} {sa : Nat → Nat} (hl : l.stackTraces = false)  {ad : Nat → Nat} {n : Nat} {E : ES} {S : MS} {o : Nat → Int64} {h nm : Nat} {Y T : Int} (H : MI h nm Y T S) {p0 v : Int32} : CM l D cs sa yX5_promise cX5_promise 4 (Option.some Jvm.ClassFile.FieldType.int) (RM 4 0 0) 0 0 [.ref (ad 15), .int p0, .int v] (WD ad cs n E S o) (none, some (.int (m_promise S p0 v).1), WD ad cs n E (m_promise S p0 v).2 o) := by
  refine CM.of RX5 hl (by decide +kernel) rfl (Nat.le_of_ble_eq_true rfl) ?_
  intro p e s m args below meth c A hc ho hmn
  refine j_aload_n hc dX5_promise_0 rfl ?_
  refine j_iload_n hc dX5_promise_1 rfl ?_
  refine j_callV hc ho (c_X5_isBill hl) vc_X5_107 rfl ⟨rfl, rfl, by decide, by decide⟩ 15 rfl rfl rfl (Nat.le_of_ble_eq_true rfl) ⟨by decide, by decide⟩ dX5_promise_2 ⟨by decide, by decide⟩ (fun _ h => by cases h) (fun hr2 => ?_)
  refine j_if_ne hc 10 dX5_promise_5 (by decide) (fun h5 => ?_) (fun h5 => ?_)
  · -- if_neg h5
    refine j_aload_n hc dX5_promise_10 rfl ?_
    refine gf_X5_32 hc dX5_promise_11 ?_
    refine j_iload_n hc dX5_promise_14 rfl ?_
    refine al_m12 hc (isb_in H h5) dX5_promise_15 ?_
    refine j_if_eq hc 39 dX5_promise_16 (by decide) (fun h16 => ?_) (fun h16 => ?_)
    · -- if_pos h16
      refine j_iconst hc (v := 1) dX5_promise_39 (by decide) ?_
      refine j_goto hc 44 dX5_promise_40 (by decide) ?_
      refine j_istore_n hc dX5_promise_44 rfl ?_
      refine j_aload_n hc dX5_promise_45 rfl ?_
      refine j_iload_n hc dX5_promise_46 rfl ?_
      refine j_iconst hc (v := 1) dX5_promise_47 (by decide) ?_
      refine j_bipush hc (v := 30) dX5_promise_48 (by decide) ?_
      refine j_callS hc ho (c_X5_in hl) sc_X5_83 rfl ⟨rfl, rfl, by decide, by decide⟩ rfl (Nat.le_of_ble_eq_true rfl) ⟨by decide, by decide⟩ dX5_promise_50 ⟨by decide, by decide⟩ (fun _ h => by cases h) (fun hr50 => ?_)
      refine j_if_ne hc 60 dX5_promise_53 (by decide) (fun h53 => ?_) (fun h53 => ?_)
      · -- if_neg h53
        refine j_iload_n hc dX5_promise_60 rfl ?_
        refine j_if_eq hc 74 dX5_promise_61 (by decide) (fun h61 => by exact absurd (show (1 : Int32) = (0 : Int32) from h61) (by decide)) (fun h61 => ?_)
        refine j_aload_n hc dX5_promise_64 rfl ?_
        refine gf_X5_44 hc dX5_promise_65 ?_
        refine j_iload_n hc dX5_promise_68 rfl ?_
        refine al_m16 hc (isb_in H h5) dX5_promise_69 ?_
        refine j_iconst hc (v := 2) dX5_promise_70 (by decide) ?_
        refine j_icmp_ne hc 78 dX5_promise_71 (by decide) (fun h71 => ?_) (fun h71 => ?_)
        · -- if_neg h71
          refine j_iconst hc (v := 0) dX5_promise_78 (by decide) ?_
          refine pf_X5_70 hc dX5_promise_79 ?_
          refine j_aload_n hc dX5_promise_82 rfl ?_
          refine gf_X5_70 hc dX5_promise_83 ?_
          refine j_if_le hc 91 dX5_promise_86 (by decide) (fun h86 => ?_) (fun h86 => by exact absurd (show ¬ (0 : Int32) ≤ (0 : Int32) from h86) (by decide))
          refine j_aload_n hc dX5_promise_91 rfl ?_
          refine gf_X5_44 hc dX5_promise_92 ?_
          refine j_iload_n hc dX5_promise_95 rfl ?_
          refine j_dup2 hc dX5_promise_96 rfl rfl ?_
          refine al_m16 hc (isb_in H h5) dX5_promise_97 ?_
          refine j_iconst hc (v := 1) dX5_promise_98 (by decide) ?_
          refine j_iadd hc dX5_promise_99 ?_
          refine as_m16 hc (isb_in H h5) dX5_promise_100 ?_
          refine j_aload_n hc dX5_promise_101 rfl ?_
          refine gf_X5_50 hc dX5_promise_102 ?_
          refine j_iload_n hc dX5_promise_105 rfl ?_
          refine j_aload_n hc dX5_promise_106 rfl ?_
          refine gf_X5_32 hc dX5_promise_107 ?_
          refine j_iload_n hc dX5_promise_110 rfl ?_
          refine al_m12 hc (isb_in H h5) dX5_promise_111 ?_
          refine as_m18 hc (isb_in H h5) dX5_promise_112 ?_
          refine j_aload_n hc dX5_promise_113 rfl ?_
          refine gf_X5_53 hc dX5_promise_114 ?_
          refine j_iload_n hc dX5_promise_117 rfl ?_
          refine j_aload_n hc dX5_promise_118 rfl ?_
          refine gf_X5_35 hc dX5_promise_119 ?_
          refine j_iload_n hc dX5_promise_122 rfl ?_
          refine al_m13 hc (isb_in H h5) dX5_promise_123 ?_
          refine j_aload_n hc dX5_promise_124 rfl ?_
          refine gf_X5_87 hc dX5_promise_125 ?_
          refine j_isub hc dX5_promise_128 ?_
          refine as_m19 hc (isb_in H h5) dX5_promise_129 ?_
          refine j_aload_n hc dX5_promise_130 rfl ?_
          refine gf_X5_35 hc dX5_promise_131 ?_
          refine j_iload_n hc dX5_promise_134 rfl ?_
          refine j_aload_n hc dX5_promise_135 rfl ?_
          refine gf_X5_87 hc dX5_promise_136 ?_
          refine j_iload_n hc dX5_promise_139 rfl ?_
          refine j_iadd hc dX5_promise_140 ?_
          refine as_m13 hc (isb_in H h5) dX5_promise_141 ?_
          refine j_aload_n hc dX5_promise_142 rfl ?_
          refine j_iload_n hc dX5_promise_143 rfl ?_
          refine j_iconst hc (v := 4) dX5_promise_144 (by decide) ?_
          refine j_callV hc ho (c_X5_enter hl (isb_in H h5) (by exact (isb_q H p0).2.2.2.1.1)) vc_X5_100 rfl ⟨rfl, rfl, by decide, by decide⟩ 15 rfl rfl rfl (Nat.le_of_ble_eq_true rfl) ⟨by decide, by decide⟩ dX5_promise_145 ⟨by decide, by decide⟩ (fun _ h => by cases h) (fun hr145 => ?_)
          refine j_aload_n hc dX5_promise_148 rfl ?_
          refine gf_X5_35 hc dX5_promise_149 ?_
          refine j_iload_n hc dX5_promise_152 rfl ?_
          refine al_m13 hc (isb_in H h5) dX5_promise_153 ?_
          exact j_iret hc rfl (by decide) (by decide) (by simp only [m_promise, m_prom0, m_prom1, if_neg h5, if_pos h16, if_neg h53, if_neg h71] <;> rfl) dX5_promise_154
        · -- if_pos h71
          refine j_iconst hc (v := 3) dX5_promise_74 (by decide) ?_
          refine j_goto hc 79 dX5_promise_75 (by decide) ?_
          refine pf_X5_70 hc dX5_promise_79 ?_
          refine j_aload_n hc dX5_promise_82 rfl ?_
          refine gf_X5_70 hc dX5_promise_83 ?_
          refine j_if_le hc 91 dX5_promise_86 (by decide) (fun h86 => by exact absurd (show (3 : Int32) ≤ (0 : Int32) from h86) (by decide)) (fun h86 => ?_)
          refine j_iconst hc (v := 0) dX5_promise_89 (by decide) ?_
          exact j_iret hc rfl (by decide) (by decide) (by simp only [m_promise, m_prom0, m_prom1, if_neg h5, if_pos h16, if_neg h53, if_pos h71] <;> rfl) dX5_promise_90
      · -- if_pos h53
        refine j_iconst hc (v := 2) dX5_promise_56 (by decide) ?_
        refine j_goto hc 79 dX5_promise_57 (by decide) ?_
        refine pf_X5_70 hc dX5_promise_79 ?_
        refine j_aload_n hc dX5_promise_82 rfl ?_
        refine gf_X5_70 hc dX5_promise_83 ?_
        refine j_if_le hc 91 dX5_promise_86 (by decide) (fun h86 => by exact absurd (show (2 : Int32) ≤ (0 : Int32) from h86) (by decide)) (fun h86 => ?_)
        refine j_iconst hc (v := 0) dX5_promise_89 (by decide) ?_
        exact j_iret hc rfl (by decide) (by decide) (by simp only [m_promise, m_prom0, m_prom1, if_neg h5, if_pos h16, if_pos h53] <;> rfl) dX5_promise_90
    · -- if_neg h16
      refine j_aload_n hc dX5_promise_19 rfl ?_
      refine gf_X5_32 hc dX5_promise_20 ?_
      refine j_iload_n hc dX5_promise_23 rfl ?_
      refine al_m12 hc (isb_in H h5) dX5_promise_24 ?_
      refine j_iconst hc (v := 2) dX5_promise_25 (by decide) ?_
      refine j_icmp_eq hc 39 dX5_promise_26 (by decide) (fun h26 => ?_) (fun h26 => ?_)
      · -- if_pos h26
        refine j_iconst hc (v := 1) dX5_promise_39 (by decide) ?_
        refine j_goto hc 44 dX5_promise_40 (by decide) ?_
        refine j_istore_n hc dX5_promise_44 rfl ?_
        refine j_aload_n hc dX5_promise_45 rfl ?_
        refine j_iload_n hc dX5_promise_46 rfl ?_
        refine j_iconst hc (v := 1) dX5_promise_47 (by decide) ?_
        refine j_bipush hc (v := 30) dX5_promise_48 (by decide) ?_
        refine j_callS hc ho (c_X5_in hl) sc_X5_83 rfl ⟨rfl, rfl, by decide, by decide⟩ rfl (Nat.le_of_ble_eq_true rfl) ⟨by decide, by decide⟩ dX5_promise_50 ⟨by decide, by decide⟩ (fun _ h => by cases h) (fun hr50 => ?_)
        refine j_if_ne hc 60 dX5_promise_53 (by decide) (fun h53 => ?_) (fun h53 => ?_)
        · -- if_neg h53
          refine j_iload_n hc dX5_promise_60 rfl ?_
          refine j_if_eq hc 74 dX5_promise_61 (by decide) (fun h61 => by exact absurd (show (1 : Int32) = (0 : Int32) from h61) (by decide)) (fun h61 => ?_)
          refine j_aload_n hc dX5_promise_64 rfl ?_
          refine gf_X5_44 hc dX5_promise_65 ?_
          refine j_iload_n hc dX5_promise_68 rfl ?_
          refine al_m16 hc (isb_in H h5) dX5_promise_69 ?_
          refine j_iconst hc (v := 2) dX5_promise_70 (by decide) ?_
          refine j_icmp_ne hc 78 dX5_promise_71 (by decide) (fun h71 => ?_) (fun h71 => ?_)
          · -- if_neg h71
            refine j_iconst hc (v := 0) dX5_promise_78 (by decide) ?_
            refine pf_X5_70 hc dX5_promise_79 ?_
            refine j_aload_n hc dX5_promise_82 rfl ?_
            refine gf_X5_70 hc dX5_promise_83 ?_
            refine j_if_le hc 91 dX5_promise_86 (by decide) (fun h86 => ?_) (fun h86 => by exact absurd (show ¬ (0 : Int32) ≤ (0 : Int32) from h86) (by decide))
            refine j_aload_n hc dX5_promise_91 rfl ?_
            refine gf_X5_44 hc dX5_promise_92 ?_
            refine j_iload_n hc dX5_promise_95 rfl ?_
            refine j_dup2 hc dX5_promise_96 rfl rfl ?_
            refine al_m16 hc (isb_in H h5) dX5_promise_97 ?_
            refine j_iconst hc (v := 1) dX5_promise_98 (by decide) ?_
            refine j_iadd hc dX5_promise_99 ?_
            refine as_m16 hc (isb_in H h5) dX5_promise_100 ?_
            refine j_aload_n hc dX5_promise_101 rfl ?_
            refine gf_X5_50 hc dX5_promise_102 ?_
            refine j_iload_n hc dX5_promise_105 rfl ?_
            refine j_aload_n hc dX5_promise_106 rfl ?_
            refine gf_X5_32 hc dX5_promise_107 ?_
            refine j_iload_n hc dX5_promise_110 rfl ?_
            refine al_m12 hc (isb_in H h5) dX5_promise_111 ?_
            refine as_m18 hc (isb_in H h5) dX5_promise_112 ?_
            refine j_aload_n hc dX5_promise_113 rfl ?_
            refine gf_X5_53 hc dX5_promise_114 ?_
            refine j_iload_n hc dX5_promise_117 rfl ?_
            refine j_aload_n hc dX5_promise_118 rfl ?_
            refine gf_X5_35 hc dX5_promise_119 ?_
            refine j_iload_n hc dX5_promise_122 rfl ?_
            refine al_m13 hc (isb_in H h5) dX5_promise_123 ?_
            refine j_aload_n hc dX5_promise_124 rfl ?_
            refine gf_X5_87 hc dX5_promise_125 ?_
            refine j_isub hc dX5_promise_128 ?_
            refine as_m19 hc (isb_in H h5) dX5_promise_129 ?_
            refine j_aload_n hc dX5_promise_130 rfl ?_
            refine gf_X5_35 hc dX5_promise_131 ?_
            refine j_iload_n hc dX5_promise_134 rfl ?_
            refine j_aload_n hc dX5_promise_135 rfl ?_
            refine gf_X5_87 hc dX5_promise_136 ?_
            refine j_iload_n hc dX5_promise_139 rfl ?_
            refine j_iadd hc dX5_promise_140 ?_
            refine as_m13 hc (isb_in H h5) dX5_promise_141 ?_
            refine j_aload_n hc dX5_promise_142 rfl ?_
            refine j_iload_n hc dX5_promise_143 rfl ?_
            refine j_iconst hc (v := 4) dX5_promise_144 (by decide) ?_
            refine j_callV hc ho (c_X5_enter hl (isb_in H h5) (by exact (isb_q H p0).2.2.2.1.1)) vc_X5_100 rfl ⟨rfl, rfl, by decide, by decide⟩ 15 rfl rfl rfl (Nat.le_of_ble_eq_true rfl) ⟨by decide, by decide⟩ dX5_promise_145 ⟨by decide, by decide⟩ (fun _ h => by cases h) (fun hr145 => ?_)
            refine j_aload_n hc dX5_promise_148 rfl ?_
            refine gf_X5_35 hc dX5_promise_149 ?_
            refine j_iload_n hc dX5_promise_152 rfl ?_
            refine al_m13 hc (isb_in H h5) dX5_promise_153 ?_
            exact j_iret hc rfl (by decide) (by decide) (by simp only [m_promise, m_prom0, m_prom1, if_neg h5, if_neg h16, if_pos h26, if_neg h53, if_neg h71] <;> rfl) dX5_promise_154
          · -- if_pos h71
            refine j_iconst hc (v := 3) dX5_promise_74 (by decide) ?_
            refine j_goto hc 79 dX5_promise_75 (by decide) ?_
            refine pf_X5_70 hc dX5_promise_79 ?_
            refine j_aload_n hc dX5_promise_82 rfl ?_
            refine gf_X5_70 hc dX5_promise_83 ?_
            refine j_if_le hc 91 dX5_promise_86 (by decide) (fun h86 => by exact absurd (show (3 : Int32) ≤ (0 : Int32) from h86) (by decide)) (fun h86 => ?_)
            refine j_iconst hc (v := 0) dX5_promise_89 (by decide) ?_
            exact j_iret hc rfl (by decide) (by decide) (by simp only [m_promise, m_prom0, m_prom1, if_neg h5, if_neg h16, if_pos h26, if_neg h53, if_pos h71] <;> rfl) dX5_promise_90
        · -- if_pos h53
          refine j_iconst hc (v := 2) dX5_promise_56 (by decide) ?_
          refine j_goto hc 79 dX5_promise_57 (by decide) ?_
          refine pf_X5_70 hc dX5_promise_79 ?_
          refine j_aload_n hc dX5_promise_82 rfl ?_
          refine gf_X5_70 hc dX5_promise_83 ?_
          refine j_if_le hc 91 dX5_promise_86 (by decide) (fun h86 => by exact absurd (show (2 : Int32) ≤ (0 : Int32) from h86) (by decide)) (fun h86 => ?_)
          refine j_iconst hc (v := 0) dX5_promise_89 (by decide) ?_
          exact j_iret hc rfl (by decide) (by decide) (by simp only [m_promise, m_prom0, m_prom1, if_neg h5, if_neg h16, if_pos h26, if_pos h53] <;> rfl) dX5_promise_90
      · -- if_neg h26
        refine j_aload_n hc dX5_promise_29 rfl ?_
        refine gf_X5_32 hc dX5_promise_30 ?_
        refine j_iload_n hc dX5_promise_33 rfl ?_
        refine al_m12 hc (isb_in H h5) dX5_promise_34 ?_
        refine j_iconst hc (v := 3) dX5_promise_35 (by decide) ?_
        refine j_icmp_ne hc 43 dX5_promise_36 (by decide) (fun h36 => ?_) (fun h36 => ?_)
        · -- if_neg h36
          refine j_iconst hc (v := 0) dX5_promise_43 (by decide) ?_
          refine j_istore_n hc dX5_promise_44 rfl ?_
          refine j_aload_n hc dX5_promise_45 rfl ?_
          refine j_iload_n hc dX5_promise_46 rfl ?_
          refine j_iconst hc (v := 1) dX5_promise_47 (by decide) ?_
          refine j_bipush hc (v := 30) dX5_promise_48 (by decide) ?_
          refine j_callS hc ho (c_X5_in hl) sc_X5_83 rfl ⟨rfl, rfl, by decide, by decide⟩ rfl (Nat.le_of_ble_eq_true rfl) ⟨by decide, by decide⟩ dX5_promise_50 ⟨by decide, by decide⟩ (fun _ h => by cases h) (fun hr50 => ?_)
          refine j_if_ne hc 60 dX5_promise_53 (by decide) (fun h53 => ?_) (fun h53 => ?_)
          · -- if_neg h53
            refine j_iload_n hc dX5_promise_60 rfl ?_
            refine j_if_eq hc 74 dX5_promise_61 (by decide) (fun h61 => ?_) (fun h61 => by exact absurd (show ¬ (0 : Int32) = (0 : Int32) from h61) (by decide))
            refine j_iconst hc (v := 3) dX5_promise_74 (by decide) ?_
            refine j_goto hc 79 dX5_promise_75 (by decide) ?_
            refine pf_X5_70 hc dX5_promise_79 ?_
            refine j_aload_n hc dX5_promise_82 rfl ?_
            refine gf_X5_70 hc dX5_promise_83 ?_
            refine j_if_le hc 91 dX5_promise_86 (by decide) (fun h86 => by exact absurd (show (3 : Int32) ≤ (0 : Int32) from h86) (by decide)) (fun h86 => ?_)
            refine j_iconst hc (v := 0) dX5_promise_89 (by decide) ?_
            exact j_iret hc rfl (by decide) (by decide) (by simp only [m_promise, m_prom0, m_prom1, if_neg h5, if_neg h16, if_neg h26, if_neg h36, if_neg h53] <;> rfl) dX5_promise_90
          · -- if_pos h53
            refine j_iconst hc (v := 2) dX5_promise_56 (by decide) ?_
            refine j_goto hc 79 dX5_promise_57 (by decide) ?_
            refine pf_X5_70 hc dX5_promise_79 ?_
            refine j_aload_n hc dX5_promise_82 rfl ?_
            refine gf_X5_70 hc dX5_promise_83 ?_
            refine j_if_le hc 91 dX5_promise_86 (by decide) (fun h86 => by exact absurd (show (2 : Int32) ≤ (0 : Int32) from h86) (by decide)) (fun h86 => ?_)
            refine j_iconst hc (v := 0) dX5_promise_89 (by decide) ?_
            exact j_iret hc rfl (by decide) (by decide) (by simp only [m_promise, m_prom0, m_prom1, if_neg h5, if_neg h16, if_neg h26, if_neg h36, if_pos h53] <;> rfl) dX5_promise_90
        · -- if_pos h36
          refine j_iconst hc (v := 1) dX5_promise_39 (by decide) ?_
          refine j_goto hc 44 dX5_promise_40 (by decide) ?_
          refine j_istore_n hc dX5_promise_44 rfl ?_
          refine j_aload_n hc dX5_promise_45 rfl ?_
          refine j_iload_n hc dX5_promise_46 rfl ?_
          refine j_iconst hc (v := 1) dX5_promise_47 (by decide) ?_
          refine j_bipush hc (v := 30) dX5_promise_48 (by decide) ?_
          refine j_callS hc ho (c_X5_in hl) sc_X5_83 rfl ⟨rfl, rfl, by decide, by decide⟩ rfl (Nat.le_of_ble_eq_true rfl) ⟨by decide, by decide⟩ dX5_promise_50 ⟨by decide, by decide⟩ (fun _ h => by cases h) (fun hr50 => ?_)
          refine j_if_ne hc 60 dX5_promise_53 (by decide) (fun h53 => ?_) (fun h53 => ?_)
          · -- if_neg h53
            refine j_iload_n hc dX5_promise_60 rfl ?_
            refine j_if_eq hc 74 dX5_promise_61 (by decide) (fun h61 => by exact absurd (show (1 : Int32) = (0 : Int32) from h61) (by decide)) (fun h61 => ?_)
            refine j_aload_n hc dX5_promise_64 rfl ?_
            refine gf_X5_44 hc dX5_promise_65 ?_
            refine j_iload_n hc dX5_promise_68 rfl ?_
            refine al_m16 hc (isb_in H h5) dX5_promise_69 ?_
            refine j_iconst hc (v := 2) dX5_promise_70 (by decide) ?_
            refine j_icmp_ne hc 78 dX5_promise_71 (by decide) (fun h71 => ?_) (fun h71 => ?_)
            · -- if_neg h71
              refine j_iconst hc (v := 0) dX5_promise_78 (by decide) ?_
              refine pf_X5_70 hc dX5_promise_79 ?_
              refine j_aload_n hc dX5_promise_82 rfl ?_
              refine gf_X5_70 hc dX5_promise_83 ?_
              refine j_if_le hc 91 dX5_promise_86 (by decide) (fun h86 => ?_) (fun h86 => by exact absurd (show ¬ (0 : Int32) ≤ (0 : Int32) from h86) (by decide))
              refine j_aload_n hc dX5_promise_91 rfl ?_
              refine gf_X5_44 hc dX5_promise_92 ?_
              refine j_iload_n hc dX5_promise_95 rfl ?_
              refine j_dup2 hc dX5_promise_96 rfl rfl ?_
              refine al_m16 hc (isb_in H h5) dX5_promise_97 ?_
              refine j_iconst hc (v := 1) dX5_promise_98 (by decide) ?_
              refine j_iadd hc dX5_promise_99 ?_
              refine as_m16 hc (isb_in H h5) dX5_promise_100 ?_
              refine j_aload_n hc dX5_promise_101 rfl ?_
              refine gf_X5_50 hc dX5_promise_102 ?_
              refine j_iload_n hc dX5_promise_105 rfl ?_
              refine j_aload_n hc dX5_promise_106 rfl ?_
              refine gf_X5_32 hc dX5_promise_107 ?_
              refine j_iload_n hc dX5_promise_110 rfl ?_
              refine al_m12 hc (isb_in H h5) dX5_promise_111 ?_
              refine as_m18 hc (isb_in H h5) dX5_promise_112 ?_
              refine j_aload_n hc dX5_promise_113 rfl ?_
              refine gf_X5_53 hc dX5_promise_114 ?_
              refine j_iload_n hc dX5_promise_117 rfl ?_
              refine j_aload_n hc dX5_promise_118 rfl ?_
              refine gf_X5_35 hc dX5_promise_119 ?_
              refine j_iload_n hc dX5_promise_122 rfl ?_
              refine al_m13 hc (isb_in H h5) dX5_promise_123 ?_
              refine j_aload_n hc dX5_promise_124 rfl ?_
              refine gf_X5_87 hc dX5_promise_125 ?_
              refine j_isub hc dX5_promise_128 ?_
              refine as_m19 hc (isb_in H h5) dX5_promise_129 ?_
              refine j_aload_n hc dX5_promise_130 rfl ?_
              refine gf_X5_35 hc dX5_promise_131 ?_
              refine j_iload_n hc dX5_promise_134 rfl ?_
              refine j_aload_n hc dX5_promise_135 rfl ?_
              refine gf_X5_87 hc dX5_promise_136 ?_
              refine j_iload_n hc dX5_promise_139 rfl ?_
              refine j_iadd hc dX5_promise_140 ?_
              refine as_m13 hc (isb_in H h5) dX5_promise_141 ?_
              refine j_aload_n hc dX5_promise_142 rfl ?_
              refine j_iload_n hc dX5_promise_143 rfl ?_
              refine j_iconst hc (v := 4) dX5_promise_144 (by decide) ?_
              refine j_callV hc ho (c_X5_enter hl (isb_in H h5) (by exact (isb_q H p0).2.2.2.1.1)) vc_X5_100 rfl ⟨rfl, rfl, by decide, by decide⟩ 15 rfl rfl rfl (Nat.le_of_ble_eq_true rfl) ⟨by decide, by decide⟩ dX5_promise_145 ⟨by decide, by decide⟩ (fun _ h => by cases h) (fun hr145 => ?_)
              refine j_aload_n hc dX5_promise_148 rfl ?_
              refine gf_X5_35 hc dX5_promise_149 ?_
              refine j_iload_n hc dX5_promise_152 rfl ?_
              refine al_m13 hc (isb_in H h5) dX5_promise_153 ?_
              exact j_iret hc rfl (by decide) (by decide) (by simp only [m_promise, m_prom0, m_prom1, if_neg h5, if_neg h16, if_neg h26, if_pos h36, if_neg h53, if_neg h71] <;> rfl) dX5_promise_154
            · -- if_pos h71
              refine j_iconst hc (v := 3) dX5_promise_74 (by decide) ?_
              refine j_goto hc 79 dX5_promise_75 (by decide) ?_
              refine pf_X5_70 hc dX5_promise_79 ?_
              refine j_aload_n hc dX5_promise_82 rfl ?_
              refine gf_X5_70 hc dX5_promise_83 ?_
              refine j_if_le hc 91 dX5_promise_86 (by decide) (fun h86 => by exact absurd (show (3 : Int32) ≤ (0 : Int32) from h86) (by decide)) (fun h86 => ?_)
              refine j_iconst hc (v := 0) dX5_promise_89 (by decide) ?_
              exact j_iret hc rfl (by decide) (by decide) (by simp only [m_promise, m_prom0, m_prom1, if_neg h5, if_neg h16, if_neg h26, if_pos h36, if_neg h53, if_pos h71] <;> rfl) dX5_promise_90
          · -- if_pos h53
            refine j_iconst hc (v := 2) dX5_promise_56 (by decide) ?_
            refine j_goto hc 79 dX5_promise_57 (by decide) ?_
            refine pf_X5_70 hc dX5_promise_79 ?_
            refine j_aload_n hc dX5_promise_82 rfl ?_
            refine gf_X5_70 hc dX5_promise_83 ?_
            refine j_if_le hc 91 dX5_promise_86 (by decide) (fun h86 => by exact absurd (show (2 : Int32) ≤ (0 : Int32) from h86) (by decide)) (fun h86 => ?_)
            refine j_iconst hc (v := 0) dX5_promise_89 (by decide) ?_
            exact j_iret hc rfl (by decide) (by decide) (by simp only [m_promise, m_prom0, m_prom1, if_neg h5, if_neg h16, if_neg h26, if_pos h36, if_pos h53] <;> rfl) dX5_promise_90
  · -- if_pos h5
    refine j_iconst hc (v := 0) dX5_promise_8 (by decide) ?_
    exact j_iret hc rfl (by decide) (by decide) (by simp only [m_promise, m_prom0, m_prom1, if_pos h5] <;> rfl) dX5_promise_9
set_option maxRecDepth 100000 in
set_option maxHeartbeats 4000000 in
theorem c_X5_setWeekday {l : Launch} {D : va_G} {cs : Nat → ClassId} {sa : Nat → Nat} (hl : l.stackTraces = false)  {ad : Nat → Nat} {n : Nat} {E : ES} {S : MS} {o : Nat → Int64} {k f : Int32} : CM l D cs sa yX5_setWeekday cX5_setWeekday 5 (Option.some Jvm.ClassFile.FieldType.int) (RM 1 0 0) 0 0 [.ref (ad 15), .int k, .int f] (WD ad cs n E S o) (none, some (.int (m_setWeekday S k f).1), WD ad cs n E (m_setWeekday S k f).2 o) := by
  refine CM.of RX5 hl (by decide +kernel) rfl (Nat.le_of_ble_eq_true rfl) ?_
  intro p e s m args below meth c A hc ho hmn
  have loop : ¬ m_in k 0 6 = 0 → ∀ (j i : Nat) (c0 : Int32), i + j = 7 → m_many (mG S 25 0) k f 7 0 0 = m_many (mG S 25 0) k f j i c0 → J p l e (RM 1 0 0) s m args below meth c D A 5 0 0 (QE below args s D A 0 0 (WD ad cs n E S o) (none, some (.int (m_setWeekday S k f).1), WD ad cs n E (m_setWeekday S k f).2 o)) (WD ad cs n E (mG S 25 0) o) 33 [(0, .ref (ad 15)), (1, .int k), (2, .int f), (3, .int c0), (4, .int (nI i))] [] := by
    intro h8 j
    induction j with
    | zero =>
      intro i c0 hi hd
      replace hd : m_many (mG S 25 0) k f 7 0 0 = c0 := hd
      subst hd
      refine j_iload hc dX5_setWeekday_33 rfl ?_
      refine j_bipush hc (v := 7) dX5_setWeekday_35 (by decide) ?_
      refine j_icmp_ge hc 77 dX5_setWeekday_37 (by decide) (fun h37 => ?_) (fun h37 => by exact absurd h37 (fun z => z (nI_le (a := 7) (by omega) (by omega))))
      refine j_aload_n hc dX5_setWeekday_77 rfl ?_
      refine j_iload_n hc dX5_setWeekday_78 rfl ?_
      refine j_if_ne hc 86 dX5_setWeekday_79 (by decide) (fun h79 => ?_) (fun h79 => ?_)
      · -- if_neg h79
        refine j_iconst hc (v := 0) dX5_setWeekday_86 (by decide) ?_
        refine pf_X5_70 hc dX5_setWeekday_87 ?_
        refine j_aload_n hc dX5_setWeekday_90 rfl ?_
        refine gf_X5_70 hc dX5_setWeekday_91 ?_
        refine j_if_le hc 99 dX5_setWeekday_94 (by decide) (fun h94 => ?_) (fun h94 => by exact absurd (show ¬ (0 : Int32) ≤ (0 : Int32) from h94) (by decide))
        refine j_aload_n hc dX5_setWeekday_99 rfl ?_
        refine gf_X5_7 hc dX5_setWeekday_100 ?_
        refine j_iload_n hc dX5_setWeekday_103 rfl ?_
        refine j_iload_n hc dX5_setWeekday_104 rfl ?_
        refine as_m1 hc (in_vp (m := 7) h8 (by decide) (by decide)) dX5_setWeekday_105 ?_
        refine j_iload_n hc dX5_setWeekday_106 rfl ?_
        exact j_iret hc rfl (by decide) (by decide) (by simp only [m_setWeekday, if_neg h8, if_pos h37, if_neg h79] <;> rfl) dX5_setWeekday_107
      · -- if_pos h79
        refine j_iconst hc (v := 2) dX5_setWeekday_82 (by decide) ?_
        refine j_goto hc 87 dX5_setWeekday_83 (by decide) ?_
        refine pf_X5_70 hc dX5_setWeekday_87 ?_
        refine j_aload_n hc dX5_setWeekday_90 rfl ?_
        refine gf_X5_70 hc dX5_setWeekday_91 ?_
        refine j_if_le hc 99 dX5_setWeekday_94 (by decide) (fun h94 => by exact absurd (show (2 : Int32) ≤ (0 : Int32) from h94) (by decide)) (fun h94 => ?_)
        refine j_iconst hc (v := 0) dX5_setWeekday_97 (by decide) ?_
        exact j_iret hc rfl (by decide) (by decide) (by simp only [m_setWeekday, if_neg h8, if_pos h37, if_pos h79] <;> rfl) dX5_setWeekday_98
    | succ j ih =>
      intro i c0 hi hd
      refine j_iload hc dX5_setWeekday_33 rfl ?_
      refine j_bipush hc (v := 7) dX5_setWeekday_35 (by decide) ?_
      refine j_icmp_ge hc 77 dX5_setWeekday_37 (by decide) (fun h37 => by exact absurd h37 (nI_ge (b := 7) (by omega) (by omega))) (fun h37 => ?_)
      refine j_iload_n hc dX5_setWeekday_40 rfl ?_
      refine j_iload hc dX5_setWeekday_41 rfl ?_
      refine j_iload_n hc dX5_setWeekday_43 rfl ?_
      refine j_icmp_ne hc 54 dX5_setWeekday_44 (by decide) (fun h44 => ?_) (fun h44 => ?_)
      · -- if_neg h44
        refine j_aload_n hc dX5_setWeekday_54 rfl ?_
        refine gf_X5_7 hc dX5_setWeekday_55 ?_
        refine j_iload hc dX5_setWeekday_58 rfl ?_
        refine al_m1 hc (vp_in_nI (by omega) (by decide)) dX5_setWeekday_60 ?_
        refine j_if_eq hc 68 dX5_setWeekday_61 (by decide) (fun h61 => ?_) (fun h61 => ?_)
        · -- if_pos h61
          refine j_iconst hc (v := 0) dX5_setWeekday_68 (by decide) ?_
          refine j_iadd hc dX5_setWeekday_69 ?_
          refine j_istore_n hc dX5_setWeekday_70 rfl ?_
          refine j_inc hc dX5_setWeekday_71 rfl (z := 1) (by decide) rfl ?_
          refine j_goto hc 33 dX5_setWeekday_74 (by decide) ?_
          refine j_lv [(0, .ref (ad 15)), (1, .int k), (2, .int f), (3, .int _), (4, .int (nI i + 1))] ⟨rfl, rfl, rfl, rfl, rfl, trivial⟩ ?_
          rw [nI_1]
          exact ih (i + 1) _ (by omega) (by rw [hd]; simp only [m_many, if_neg h37, if_neg h44, if_pos h61])
        · -- if_neg h61
          refine j_iconst hc (v := 1) dX5_setWeekday_64 (by decide) ?_
          refine j_goto hc 69 dX5_setWeekday_65 (by decide) ?_
          refine j_iadd hc dX5_setWeekday_69 ?_
          refine j_istore_n hc dX5_setWeekday_70 rfl ?_
          refine j_inc hc dX5_setWeekday_71 rfl (z := 1) (by decide) rfl ?_
          refine j_goto hc 33 dX5_setWeekday_74 (by decide) ?_
          refine j_lv [(0, .ref (ad 15)), (1, .int k), (2, .int f), (3, .int _), (4, .int (nI i + 1))] ⟨rfl, rfl, rfl, rfl, rfl, trivial⟩ ?_
          rw [nI_1]
          exact ih (i + 1) _ (by omega) (by rw [hd]; simp only [m_many, if_neg h37, if_neg h44, if_neg h61])
      · -- if_pos h44
        refine j_iload_n hc dX5_setWeekday_47 rfl ?_
        refine j_if_eq hc 68 dX5_setWeekday_48 (by decide) (fun h48 => ?_) (fun h48 => ?_)
        · -- if_pos h48
          refine j_iconst hc (v := 0) dX5_setWeekday_68 (by decide) ?_
          refine j_iadd hc dX5_setWeekday_69 ?_
          refine j_istore_n hc dX5_setWeekday_70 rfl ?_
          refine j_inc hc dX5_setWeekday_71 rfl (z := 1) (by decide) rfl ?_
          refine j_goto hc 33 dX5_setWeekday_74 (by decide) ?_
          refine j_lv [(0, .ref (ad 15)), (1, .int k), (2, .int f), (3, .int _), (4, .int (nI i + 1))] ⟨rfl, rfl, rfl, rfl, rfl, trivial⟩ ?_
          rw [nI_1]
          exact ih (i + 1) _ (by omega) (by rw [hd]; simp only [m_many, if_neg h37, if_pos h44, if_pos h48])
        · -- if_neg h48
          refine j_goto hc 64 dX5_setWeekday_51 (by decide) ?_
          refine j_iconst hc (v := 1) dX5_setWeekday_64 (by decide) ?_
          refine j_goto hc 69 dX5_setWeekday_65 (by decide) ?_
          refine j_iadd hc dX5_setWeekday_69 ?_
          refine j_istore_n hc dX5_setWeekday_70 rfl ?_
          refine j_inc hc dX5_setWeekday_71 rfl (z := 1) (by decide) rfl ?_
          refine j_goto hc 33 dX5_setWeekday_74 (by decide) ?_
          refine j_lv [(0, .ref (ad 15)), (1, .int k), (2, .int f), (3, .int _), (4, .int (nI i + 1))] ⟨rfl, rfl, rfl, rfl, rfl, trivial⟩ ?_
          rw [nI_1]
          exact ih (i + 1) _ (by omega) (by rw [hd]; simp only [m_many, if_neg h37, if_pos h44, if_neg h48])
  refine j_aload_n hc dX5_setWeekday_0 rfl ?_
  refine j_iload_n hc dX5_setWeekday_1 rfl ?_
  refine j_iconst hc (v := 0) dX5_setWeekday_2 (by decide) ?_
  refine j_bipush hc (v := 6) dX5_setWeekday_3 (by decide) ?_
  refine j_callS hc ho (c_X5_in hl) sc_X5_83 rfl ⟨rfl, rfl, by decide, by decide⟩ rfl (Nat.le_of_ble_eq_true rfl) ⟨by decide, by decide⟩ dX5_setWeekday_5 ⟨by decide, by decide⟩ (fun _ h => by cases h) (fun hr5 => ?_)
  refine j_if_eq hc 15 dX5_setWeekday_8 (by decide) (fun h8 => ?_) (fun h8 => ?_)
  · -- if_pos h8
    refine j_iconst hc (v := 1) dX5_setWeekday_15 (by decide) ?_
    refine pf_X5_70 hc dX5_setWeekday_16 ?_
    refine j_aload_n hc dX5_setWeekday_19 rfl ?_
    refine gf_X5_70 hc dX5_setWeekday_20 ?_
    refine j_if_le hc 28 dX5_setWeekday_23 (by decide) (fun h23 => by exact absurd (show (1 : Int32) ≤ (0 : Int32) from h23) (by decide)) (fun h23 => ?_)
    refine j_iconst hc (v := 0) dX5_setWeekday_26 (by decide) ?_
    exact j_iret hc rfl (by decide) (by decide) (by simp only [m_setWeekday, if_pos h8] <;> rfl) dX5_setWeekday_27
  · -- if_neg h8
    refine j_iconst hc (v := 0) dX5_setWeekday_11 (by decide) ?_
    refine j_goto hc 16 dX5_setWeekday_12 (by decide) ?_
    refine pf_X5_70 hc dX5_setWeekday_16 ?_
    refine j_aload_n hc dX5_setWeekday_19 rfl ?_
    refine gf_X5_70 hc dX5_setWeekday_20 ?_
    refine j_if_le hc 28 dX5_setWeekday_23 (by decide) (fun h23 => ?_) (fun h23 => by exact absurd (show ¬ (0 : Int32) ≤ (0 : Int32) from h23) (by decide))
    refine j_iconst hc (v := 0) dX5_setWeekday_28 (by decide) ?_
    refine j_istore_n hc dX5_setWeekday_29 rfl ?_
    refine j_iconst hc (v := 0) dX5_setWeekday_30 (by decide) ?_
    refine j_istore hc dX5_setWeekday_31 rfl ?_
    refine j_lv [(0, .ref (ad 15)), (1, .int k), (2, .int f), (3, .int 0), (4, .int 0)] ⟨rfl, rfl, rfl, rfl, rfl, trivial⟩ ?_
    exact loop h8 7 0 0 (by omega) rfl
set_option maxRecDepth 100000 in
set_option maxHeartbeats 4000000 in
theorem c_X5_addHoliday {l : Launch} {D : va_G} {cs : Nat → ClassId} {sa : Nat → Nat} (hl : l.stackTraces = false)  {ad : Nat → Nat} {n : Nat} {E : ES} {S : MS} {o : Nat → Int64} {h nm : Nat} {Y T : Int} (H : MI h nm Y T S) (hlt : h < 1024) {d : Int32} : CM l D cs sa yX5_addHoliday cX5_addHoliday 2 (Option.some Jvm.ClassFile.FieldType.boolean) (RM 1 0 0) 0 0 [.ref (ad 15), .int d] (WD ad cs n E S o) (none, some (.int (m_addHoliday S d).1), WD ad cs n E (m_addHoliday S d).2 o) := by
  refine CM.of RX5 hl (by decide +kernel) rfl (Nat.le_of_ble_eq_true rfl) ?_
  intro p e s m args below meth c A hc ho hmn
  refine j_aload_n hc dX5_addHoliday_0 rfl ?_
  refine j_iload_n hc dX5_addHoliday_1 rfl ?_
  refine j_aload_n hc dX5_addHoliday_2 rfl ?_
  refine gf_X5_87 hc dX5_addHoliday_3 ?_
  refine j_iconst hc (v := 1) dX5_addHoliday_6 (by decide) ?_
  refine j_iadd hc dX5_addHoliday_7 ?_
  refine j_aload_n hc dX5_addHoliday_8 rfl ?_
  refine gf_X5_87 hc dX5_addHoliday_9 ?_
  refine j_bipush hc (v := 60) dX5_addHoliday_12 (by decide) ?_
  refine j_iadd hc dX5_addHoliday_14 ?_
  refine j_callS hc ho (c_X5_in hl) sc_X5_83 rfl ⟨rfl, rfl, by decide, by decide⟩ rfl (Nat.le_of_ble_eq_true rfl) ⟨by decide, by decide⟩ dX5_addHoliday_15 ⟨by decide, by decide⟩ (fun _ h => by cases h) (fun hr15 => ?_)
  refine j_if_eq hc 25 dX5_addHoliday_18 (by decide) (fun h18 => ?_) (fun h18 => ?_)
  · -- if_pos h18
    refine j_iconst hc (v := 1) dX5_addHoliday_25 (by decide) ?_
    refine pf_X5_70 hc dX5_addHoliday_26 ?_
    refine j_aload_n hc dX5_addHoliday_29 rfl ?_
    refine gf_X5_70 hc dX5_addHoliday_30 ?_
    refine j_if_gt hc 44 dX5_addHoliday_33 (by decide) (fun h33 => ?_) (fun h33 => by exact absurd (show ¬ (0 : Int32) < (1 : Int32) from h33) (by decide))
    refine j_iconst hc (v := 0) dX5_addHoliday_44 (by decide) ?_
    exact j_zret hc rfl rfl (by decide) (by decide) (by simp only [m_addHoliday, if_pos h18] <;> rfl) dX5_addHoliday_45
  · -- if_neg h18
    refine j_iconst hc (v := 0) dX5_addHoliday_21 (by decide) ?_
    refine j_goto hc 26 dX5_addHoliday_22 (by decide) ?_
    refine pf_X5_70 hc dX5_addHoliday_26 ?_
    refine j_aload_n hc dX5_addHoliday_29 rfl ?_
    refine gf_X5_70 hc dX5_addHoliday_30 ?_
    refine j_if_gt hc 44 dX5_addHoliday_33 (by decide) (fun h33 => by exact absurd (show (0 : Int32) < (0 : Int32) from h33) (by decide)) (fun h33 => ?_)
    refine j_aload_n hc dX5_addHoliday_36 rfl ?_
    refine j_iload_n hc dX5_addHoliday_37 rfl ?_
    refine j_callV hc ho (c_X5_isHoliday hl (mi_G H 25 0 (by decide)).1.1 (mi_G H 25 0 (by decide)).1.2) vc_X5_76 rfl ⟨rfl, rfl, by decide, by decide⟩ 15 rfl rfl rfl (Nat.le_of_ble_eq_true rfl) ⟨by decide, by decide⟩ dX5_addHoliday_38 ⟨by decide, by decide⟩ (fun _ h => by cases h) (fun hr38 => ?_)
    refine j_if_eq hc 46 dX5_addHoliday_41 (by decide) (fun h41 => ?_) (fun h41 => ?_)
    · -- if_pos h41
      refine j_aload_n hc dX5_addHoliday_46 rfl ?_
      refine gf_X5_13 hc dX5_addHoliday_47 ?_
      refine j_aload_n hc dX5_addHoliday_50 rfl ?_
      refine gf_X5_73 hc dX5_addHoliday_51 ?_
      refine j_iload_n hc dX5_addHoliday_54 rfl ?_
      refine as_m2 hc (show vp_in (S.1 3) 1024 by rw [H.1.1]; exact vp_in_nI hlt (by decide)) dX5_addHoliday_55 ?_
      refine j_aload_n hc dX5_addHoliday_56 rfl ?_
      refine j_dup hc dX5_addHoliday_57 rfl ?_
      refine gf_X5_73 hc dX5_addHoliday_58 ?_
      refine j_iconst hc (v := 1) dX5_addHoliday_61 (by decide) ?_
      refine j_iadd hc dX5_addHoliday_62 ?_
      refine pf_X5_73 hc dX5_addHoliday_63 ?_
      refine j_iconst hc (v := 1) dX5_addHoliday_66 (by decide) ?_
      exact j_zret hc rfl rfl (by decide) (by decide) (by simp only [m_addHoliday, if_neg h18, if_pos h41] <;> rfl) dX5_addHoliday_67
    · -- if_neg h41
      refine j_iconst hc (v := 0) dX5_addHoliday_44 (by decide) ?_
      exact j_zret hc rfl rfl (by decide) (by decide) (by simp only [m_addHoliday, if_neg h18, if_neg h41] <;> rfl) dX5_addHoliday_45
theorem ag_in {h n : Nat} {Y T : Int} {S : MS} (H : MI h n Y T S) {r : Int32} (h1 : ¬ m_in r 1 4 = 0) (h2 : ¬ S.2 5 r.toNatClampNeg = 6) : vp_in (6 * r + S.2 5 r.toNatClampNeg) 30 := by
  have hh := in_none h1
  have e1 : (1 : Int32).toInt = 1 := by decide
  have e4 : (4 : Int32).toInt = 4 := by decide
  have e6 : (6 : Int32).toInt = 6 := by decide
  have hr := H.2.2.2.2.2.2.2.1 r.toNatClampNeg (by show r.toInt.toNat < 5; omega)
  rw [← Int32.toInt_inj, e6] at h2
  have em := mul6 (r := r) (by omega) (by omega)
  rw [vp_in_iff, i32_add (by omega) (by omega)]; omega
set_option maxRecDepth 100000 in
set_option maxHeartbeats 4000000 in
theorem c_X5_addGap {l : Launch} {D : va_G} {cs : Nat → ClassId} {sa : Nat → Nat} (hl : l.stackTraces = false)  {ad : Nat → Nat} {n : Nat} {E : ES} {S : MS} {o : Nat → Int64} {h nm : Nat} {Y T : Int} (H : MI h nm Y T S) {r v : Int32} : CM l D cs sa yX5_addGap cX5_addGap 3 (Option.some Jvm.ClassFile.FieldType.int) (RM 1 0 0) 0 0 [.ref (ad 15), .int r, .int v] (WD ad cs n E S o) (none, some (.int (m_addGap S r v).1), WD ad cs n E (m_addGap S r v).2 o) := by
  refine CM.of RX5 hl (by decide +kernel) rfl (Nat.le_of_ble_eq_true rfl) ?_
  intro p e s m args below meth c A hc ho hmn
  refine j_aload_n hc dX5_addGap_0 rfl ?_
  refine j_iload_n hc dX5_addGap_1 rfl ?_
  refine j_iconst hc (v := 1) dX5_addGap_2 (by decide) ?_
  refine j_iconst hc (v := 4) dX5_addGap_3 (by decide) ?_
  refine j_callS hc ho (c_X5_in hl) sc_X5_83 rfl ⟨rfl, rfl, by decide, by decide⟩ rfl (Nat.le_of_ble_eq_true rfl) ⟨by decide, by decide⟩ dX5_addGap_4 ⟨by decide, by decide⟩ (fun _ h => by cases h) (fun hr4 => ?_)
  refine j_if_ne hc 14 dX5_addGap_7 (by decide) (fun h7 => ?_) (fun h7 => ?_)
  · -- if_neg h7
    refine j_iload_n hc dX5_addGap_14 rfl ?_
    refine j_iconst hc (v := 1) dX5_addGap_15 (by decide) ?_
    refine j_bipush hc (v := 30) dX5_addGap_16 (by decide) ?_
    refine j_callS hc ho (c_X5_in hl) sc_X5_83 rfl ⟨rfl, rfl, by decide, by decide⟩ rfl (Nat.le_of_ble_eq_true rfl) ⟨by decide, by decide⟩ dX5_addGap_18 ⟨by decide, by decide⟩ (fun _ h => by cases h) (fun hr18 => ?_)
    refine j_if_ne hc 28 dX5_addGap_21 (by decide) (fun h21 => ?_) (fun h21 => ?_)
    · -- if_neg h21
      refine j_aload_n hc dX5_addGap_28 rfl ?_
      refine gf_X5_20 hc dX5_addGap_29 ?_
      refine j_iload_n hc dX5_addGap_32 rfl ?_
      refine al_m5 hc (in_vp (m := 5) h7 (by decide) (by decide)) dX5_addGap_33 ?_
      refine j_bipush hc (v := 6) dX5_addGap_34 (by decide) ?_
      refine j_icmp_ne hc 43 dX5_addGap_36 (by decide) (fun h36 => ?_) (fun h36 => ?_)
      · -- if_neg h36
        refine j_iconst hc (v := 0) dX5_addGap_43 (by decide) ?_
        refine pf_X5_70 hc dX5_addGap_44 ?_
        refine j_aload_n hc dX5_addGap_47 rfl ?_
        refine gf_X5_70 hc dX5_addGap_48 ?_
        refine j_if_le hc 56 dX5_addGap_51 (by decide) (fun h51 => ?_) (fun h51 => by exact absurd (show ¬ (0 : Int32) ≤ (0 : Int32) from h51) (by decide))
        refine j_aload_n hc dX5_addGap_56 rfl ?_
        refine gf_X5_17 hc dX5_addGap_57 ?_
        refine j_bipush hc (v := 6) dX5_addGap_60 (by decide) ?_
        refine j_iload_n hc dX5_addGap_62 rfl ?_
        refine j_imul hc dX5_addGap_63 ?_
        refine j_aload_n hc dX5_addGap_64 rfl ?_
        refine gf_X5_20 hc dX5_addGap_65 ?_
        refine j_iload_n hc dX5_addGap_68 rfl ?_
        refine al_m5 hc (in_vp (m := 5) h7 (by decide) (by decide)) dX5_addGap_69 ?_
        refine j_iadd hc dX5_addGap_70 ?_
        refine j_iload_n hc dX5_addGap_71 rfl ?_
        refine as_m4 hc (ag_in H h7 h36) dX5_addGap_72 ?_
        refine j_aload_n hc dX5_addGap_73 rfl ?_
        refine gf_X5_20 hc dX5_addGap_74 ?_
        refine j_iload_n hc dX5_addGap_77 rfl ?_
        refine j_dup2 hc dX5_addGap_78 rfl rfl ?_
        refine al_m5 hc (in_vp (m := 5) h7 (by decide) (by decide)) dX5_addGap_79 ?_
        refine j_iconst hc (v := 1) dX5_addGap_80 (by decide) ?_
        refine j_iadd hc dX5_addGap_81 ?_
        refine as_m5 hc (in_vp (m := 5) h7 (by decide) (by decide)) dX5_addGap_82 ?_
        refine j_aload_n hc dX5_addGap_83 rfl ?_
        refine gf_X5_20 hc dX5_addGap_84 ?_
        refine j_iload_n hc dX5_addGap_87 rfl ?_
        refine al_m5 hc (in_vp (m := 5) h7 (by decide) (by decide)) dX5_addGap_88 ?_
        exact j_iret hc rfl (by decide) (by decide) (by simp only [m_addGap, if_neg h7, if_neg h21, if_neg h36] <;> rfl) dX5_addGap_89
      · -- if_pos h36
        refine j_iconst hc (v := 3) dX5_addGap_39 (by decide) ?_
        refine j_goto hc 44 dX5_addGap_40 (by decide) ?_
        refine pf_X5_70 hc dX5_addGap_44 ?_
        refine j_aload_n hc dX5_addGap_47 rfl ?_
        refine gf_X5_70 hc dX5_addGap_48 ?_
        refine j_if_le hc 56 dX5_addGap_51 (by decide) (fun h51 => by exact absurd (show (3 : Int32) ≤ (0 : Int32) from h51) (by decide)) (fun h51 => ?_)
        refine j_iconst hc (v := 0) dX5_addGap_54 (by decide) ?_
        exact j_iret hc rfl (by decide) (by decide) (by simp only [m_addGap, if_neg h7, if_neg h21, if_pos h36] <;> rfl) dX5_addGap_55
    · -- if_pos h21
      refine j_iconst hc (v := 2) dX5_addGap_24 (by decide) ?_
      refine j_goto hc 44 dX5_addGap_25 (by decide) ?_
      refine pf_X5_70 hc dX5_addGap_44 ?_
      refine j_aload_n hc dX5_addGap_47 rfl ?_
      refine gf_X5_70 hc dX5_addGap_48 ?_
      refine j_if_le hc 56 dX5_addGap_51 (by decide) (fun h51 => by exact absurd (show (2 : Int32) ≤ (0 : Int32) from h51) (by decide)) (fun h51 => ?_)
      refine j_iconst hc (v := 0) dX5_addGap_54 (by decide) ?_
      exact j_iret hc rfl (by decide) (by decide) (by simp only [m_addGap, if_neg h7, if_pos h21] <;> rfl) dX5_addGap_55
  · -- if_pos h7
    refine j_iconst hc (v := 1) dX5_addGap_10 (by decide) ?_
    refine j_goto hc 44 dX5_addGap_11 (by decide) ?_
    refine pf_X5_70 hc dX5_addGap_44 ?_
    refine j_aload_n hc dX5_addGap_47 rfl ?_
    refine gf_X5_70 hc dX5_addGap_48 ?_
    refine j_if_le hc 56 dX5_addGap_51 (by decide) (fun h51 => by exact absurd (show (1 : Int32) ≤ (0 : Int32) from h51) (by decide)) (fun h51 => ?_)
    refine j_iconst hc (v := 0) dX5_addGap_54 (by decide) ?_
    exact j_iret hc rfl (by decide) (by decide) (by simp only [m_addGap, if_pos h7] <;> rfl) dX5_addGap_55
set_option maxRecDepth 100000 in
set_option maxHeartbeats 4000000 in
theorem c_X5_clearGaps {l : Launch} {D : va_G} {cs : Nat → ClassId} {sa : Nat → Nat} (hl : l.stackTraces = false)  {ad : Nat → Nat} {n : Nat} {E : ES} {S : MS} {o : Nat → Int64} {r : Int32} : CM l D cs sa yX5_clearGaps cX5_clearGaps 3 (Option.some Jvm.ClassFile.FieldType.int) (RM 1 0 0) 0 0 [.ref (ad 15), .int r] (WD ad cs n E S o) (none, some (.int (m_clearGaps S r).1), WD ad cs n E (m_clearGaps S r).2 o) := by
  refine CM.of RX5 hl (by decide +kernel) rfl (Nat.le_of_ble_eq_true rfl) ?_
  intro p e s m args below meth c A hc ho hmn
  refine j_aload_n hc dX5_clearGaps_0 rfl ?_
  refine j_iload_n hc dX5_clearGaps_1 rfl ?_
  refine j_iconst hc (v := 1) dX5_clearGaps_2 (by decide) ?_
  refine j_iconst hc (v := 4) dX5_clearGaps_3 (by decide) ?_
  refine j_callS hc ho (c_X5_in hl) sc_X5_83 rfl ⟨rfl, rfl, by decide, by decide⟩ rfl (Nat.le_of_ble_eq_true rfl) ⟨by decide, by decide⟩ dX5_clearGaps_4 ⟨by decide, by decide⟩ (fun _ h => by cases h) (fun hr4 => ?_)
  refine j_if_eq hc 14 dX5_clearGaps_7 (by decide) (fun h7 => ?_) (fun h7 => ?_)
  · -- if_pos h7
    refine j_iconst hc (v := 1) dX5_clearGaps_14 (by decide) ?_
    refine pf_X5_70 hc dX5_clearGaps_15 ?_
    refine j_aload_n hc dX5_clearGaps_18 rfl ?_
    refine gf_X5_70 hc dX5_clearGaps_19 ?_
    refine j_if_le hc 27 dX5_clearGaps_22 (by decide) (fun h22 => by exact absurd (show (1 : Int32) ≤ (0 : Int32) from h22) (by decide)) (fun h22 => ?_)
    refine j_iconst hc (v := 0) dX5_clearGaps_25 (by decide) ?_
    exact j_iret hc rfl (by decide) (by decide) (by simp only [m_clearGaps, if_pos h7] <;> rfl) dX5_clearGaps_26
  · -- if_neg h7
    refine j_iconst hc (v := 0) dX5_clearGaps_10 (by decide) ?_
    refine j_goto hc 15 dX5_clearGaps_11 (by decide) ?_
    refine pf_X5_70 hc dX5_clearGaps_15 ?_
    refine j_aload_n hc dX5_clearGaps_18 rfl ?_
    refine gf_X5_70 hc dX5_clearGaps_19 ?_
    refine j_if_le hc 27 dX5_clearGaps_22 (by decide) (fun h22 => ?_) (fun h22 => by exact absurd (show ¬ (0 : Int32) ≤ (0 : Int32) from h22) (by decide))
    refine j_aload_n hc dX5_clearGaps_27 rfl ?_
    refine gf_X5_20 hc dX5_clearGaps_28 ?_
    refine j_iload_n hc dX5_clearGaps_31 rfl ?_
    refine al_m5 hc (in_vp (m := 5) h7 (by decide) (by decide)) dX5_clearGaps_32 ?_
    refine j_istore_n hc dX5_clearGaps_33 rfl ?_
    refine j_aload_n hc dX5_clearGaps_34 rfl ?_
    refine gf_X5_20 hc dX5_clearGaps_35 ?_
    refine j_iload_n hc dX5_clearGaps_38 rfl ?_
    refine j_iconst hc (v := 0) dX5_clearGaps_39 (by decide) ?_
    refine as_m5 hc (in_vp (m := 5) h7 (by decide) (by decide)) dX5_clearGaps_40 ?_
    refine j_iload_n hc dX5_clearGaps_41 rfl ?_
    exact j_iret hc rfl (by decide) (by decide) (by simp only [m_clearGaps, if_neg h7] <;> rfl) dX5_clearGaps_42
set_option maxRecDepth 100000 in
set_option maxHeartbeats 4000000 in
theorem c_X5_setTimes {l : Launch} {D : va_G} {cs : Nat → ClassId} {sa : Nat → Nat} (hl : l.stackTraces = false)  {ad : Nat → Nat} {n : Nat} {E : ES} {S : MS} {o : Nat → Int64} {x y : Int32} : CM l D cs sa yX5_setTimes cX5_setTimes 4 (Option.some Jvm.ClassFile.FieldType.int) (RM 1 0 0) 0 0 [.ref (ad 15), .int x, .int y] (WD ad cs n E S o) (none, some (.int (m_setTimes S x y).1), WD ad cs n E (m_setTimes S x y).2 o) := by
  refine CM.of RX5 hl (by decide +kernel) rfl (Nat.le_of_ble_eq_true rfl) ?_
  intro p e s m args below meth c A hc ho hmn
  refine j_aload_n hc dX5_setTimes_0 rfl ?_
  refine j_iload_n hc dX5_setTimes_1 rfl ?_
  refine j_iconst hc (v := 1) dX5_setTimes_2 (by decide) ?_
  refine j_bipush hc (v := 60) dX5_setTimes_3 (by decide) ?_
  refine j_callS hc ho (c_X5_in hl) sc_X5_83 rfl ⟨rfl, rfl, by decide, by decide⟩ rfl (Nat.le_of_ble_eq_true rfl) ⟨by decide, by decide⟩ dX5_setTimes_5 ⟨by decide, by decide⟩ (fun _ h => by cases h) (fun hr5 => ?_)
  refine j_if_eq hc 25 dX5_setTimes_8 (by decide) (fun h8 => ?_) (fun h8 => ?_)
  · -- if_pos h8
    refine j_iconst hc (v := 1) dX5_setTimes_25 (by decide) ?_
    refine pf_X5_70 hc dX5_setTimes_26 ?_
    refine j_aload_n hc dX5_setTimes_29 rfl ?_
    refine gf_X5_70 hc dX5_setTimes_30 ?_
    refine j_if_le hc 38 dX5_setTimes_33 (by decide) (fun h33 => by exact absurd (show (1 : Int32) ≤ (0 : Int32) from h33) (by decide)) (fun h33 => ?_)
    refine j_iconst hc (v := 0) dX5_setTimes_36 (by decide) ?_
    exact j_iret hc rfl (by decide) (by decide) (by simp only [m_setTimes, if_pos h8] <;> rfl) dX5_setTimes_37
  · -- if_neg h8
    refine j_iload_n hc dX5_setTimes_11 rfl ?_
    refine j_iconst hc (v := 1) dX5_setTimes_12 (by decide) ?_
    refine j_bipush hc (v := 90) dX5_setTimes_13 (by decide) ?_
    refine j_callS hc ho (c_X5_in hl) sc_X5_83 rfl ⟨rfl, rfl, by decide, by decide⟩ rfl (Nat.le_of_ble_eq_true rfl) ⟨by decide, by decide⟩ dX5_setTimes_15 ⟨by decide, by decide⟩ (fun _ h => by cases h) (fun hr15 => ?_)
    refine j_if_eq hc 25 dX5_setTimes_18 (by decide) (fun h18 => ?_) (fun h18 => ?_)
    · -- if_pos h18
      refine j_iconst hc (v := 1) dX5_setTimes_25 (by decide) ?_
      refine pf_X5_70 hc dX5_setTimes_26 ?_
      refine j_aload_n hc dX5_setTimes_29 rfl ?_
      refine gf_X5_70 hc dX5_setTimes_30 ?_
      refine j_if_le hc 38 dX5_setTimes_33 (by decide) (fun h33 => by exact absurd (show (1 : Int32) ≤ (0 : Int32) from h33) (by decide)) (fun h33 => ?_)
      refine j_iconst hc (v := 0) dX5_setTimes_36 (by decide) ?_
      exact j_iret hc rfl (by decide) (by decide) (by simp only [m_setTimes, if_neg h8, if_pos h18] <;> rfl) dX5_setTimes_37
    · -- if_neg h18
      refine j_iconst hc (v := 0) dX5_setTimes_21 (by decide) ?_
      refine j_goto hc 26 dX5_setTimes_22 (by decide) ?_
      refine pf_X5_70 hc dX5_setTimes_26 ?_
      refine j_aload_n hc dX5_setTimes_29 rfl ?_
      refine gf_X5_70 hc dX5_setTimes_30 ?_
      refine j_if_le hc 38 dX5_setTimes_33 (by decide) (fun h33 => ?_) (fun h33 => by exact absurd (show ¬ (0 : Int32) ≤ (0 : Int32) from h33) (by decide))
      refine j_aload_n hc dX5_setTimes_38 rfl ?_
      refine gf_X5_63 hc dX5_setTimes_39 ?_
      refine j_istore_n hc dX5_setTimes_42 rfl ?_
      refine j_aload_n hc dX5_setTimes_43 rfl ?_
      refine j_iload_n hc dX5_setTimes_44 rfl ?_
      refine pf_X5_63 hc dX5_setTimes_45 ?_
      refine j_aload_n hc dX5_setTimes_48 rfl ?_
      refine j_iload_n hc dX5_setTimes_49 rfl ?_
      refine pf_X5_67 hc dX5_setTimes_50 ?_
      refine j_iload_n hc dX5_setTimes_53 rfl ?_
      exact j_iret hc rfl (by decide) (by decide) (by simp only [m_setTimes, if_neg h8, if_neg h18] <;> rfl) dX5_setTimes_54
theorem mi_n {h n : Nat} {Y T : Int} {S : MS} (H : MI h n Y T S) (hn : n < 30) : MI h (n + 1) Y T (mG S 8 (S.1 8 + 1)) := by
  obtain ⟨q1, ⟨q2, q3⟩, q4⟩ := H
  exact ⟨q1, ⟨by show S.1 8 + 1 = _; rw [q2, nI_1], by omega⟩, q4⟩
theorem n_lt {h n : Nat} {Y T : Int} {S : MS} (H : MI h n Y T S) (h2 : ¬ S.1 8 = 30) : n < 30 := by
  obtain ⟨q1, ⟨q2, q3⟩, q4⟩ := H
  rcases Nat.lt_or_ge n 30 with z | z
  · exact z
  · exact absurd (by rw [q2, show n = 30 by omega]; rfl) h2
theorem n_in {h n : Nat} {Y T : Int} {S : MS} (H : MI h n Y T S) (h2 : ¬ S.1 8 = 30) : vp_in (S.1 8) 30 := by
  have := n_lt H h2
  rw [H.2.1.1]; exact vp_in_nI this (by decide)
set_option maxRecDepth 100000 in
set_option maxHeartbeats 4000000 in
theorem c_X5_bill {l : Launch} {D : va_G} {cs : Nat → ClassId} {sa : Nat → Nat} (hl : l.stackTraces = false)  {ad : Nat → Nat} {n : Nat} {E : ES} {S : MS} {o : Nat → Int64} {h nm : Nat} {Y T : Int} (H : MI h nm Y T S) {x v : Int32} : CM l D cs sa yX5_bill cX5_bill 4 (Option.some Jvm.ClassFile.FieldType.int) (RM 3 0 0) 0 0 [.ref (ad 15), .int x, .int v] (WD ad cs n E S o) (none, some (.int (m_bill S x v).1), WD ad cs n E (m_bill S x v).2 o) := by
  refine CM.of RX5 hl (by decide +kernel) rfl (Nat.le_of_ble_eq_true rfl) ?_
  intro p e s m args below meth c A hc ho hmn
  refine j_aload_n hc dX5_bill_0 rfl ?_
  refine j_iload_n hc dX5_bill_1 rfl ?_
  refine j_iconst hc (v := 0) dX5_bill_2 (by decide) ?_
  refine j_bipush hc (v := 7) dX5_bill_3 (by decide) ?_
  refine j_callS hc ho (c_X5_in hl) sc_X5_83 rfl ⟨rfl, rfl, by decide, by decide⟩ rfl (Nat.le_of_ble_eq_true rfl) ⟨by decide, by decide⟩ dX5_bill_5 ⟨by decide, by decide⟩ (fun _ h => by cases h) (fun hr5 => ?_)
  refine j_if_ne hc 15 dX5_bill_8 (by decide) (fun h8 => ?_) (fun h8 => ?_)
  · -- if_neg h8
    refine j_iload_n hc dX5_bill_15 rfl ?_
    refine j_iconst hc (v := 1) dX5_bill_16 (by decide) ?_
    refine j_sipush hc (v := 9999) dX5_bill_17 (by decide) ?_
    refine j_callS hc ho (c_X5_in hl) sc_X5_83 rfl ⟨rfl, rfl, by decide, by decide⟩ rfl (Nat.le_of_ble_eq_true rfl) ⟨by decide, by decide⟩ dX5_bill_20 ⟨by decide, by decide⟩ (fun _ h => by cases h) (fun hr20 => ?_)
    refine j_if_ne hc 30 dX5_bill_23 (by decide) (fun h23 => ?_) (fun h23 => ?_)
    · -- if_neg h23
      refine j_aload_n hc dX5_bill_30 rfl ?_
      refine gf_X5_93 hc dX5_bill_31 ?_
      refine j_bipush hc (v := 30) dX5_bill_34 (by decide) ?_
      refine j_icmp_ne hc 43 dX5_bill_36 (by decide) (fun h36 => ?_) (fun h36 => ?_)
      · -- if_neg h36
        refine j_iconst hc (v := 0) dX5_bill_43 (by decide) ?_
        refine pf_X5_70 hc dX5_bill_44 ?_
        refine j_aload_n hc dX5_bill_47 rfl ?_
        refine gf_X5_70 hc dX5_bill_48 ?_
        refine j_if_le hc 56 dX5_bill_51 (by decide) (fun h51 => ?_) (fun h51 => by exact absurd (show ¬ (0 : Int32) ≤ (0 : Int32) from h51) (by decide))
        refine j_aload_n hc dX5_bill_56 rfl ?_
        refine gf_X5_93 hc dX5_bill_57 ?_
        refine j_istore_n hc dX5_bill_60 rfl ?_
        refine j_aload_n hc dX5_bill_61 rfl ?_
        refine j_dup hc dX5_bill_62 rfl ?_
        refine gf_X5_93 hc dX5_bill_63 ?_
        refine j_iconst hc (v := 1) dX5_bill_66 (by decide) ?_
        refine j_iadd hc dX5_bill_67 ?_
        refine pf_X5_93 hc dX5_bill_68 ?_
        refine j_aload_n hc dX5_bill_71 rfl ?_
        refine gf_X5_23 hc dX5_bill_72 ?_
        refine j_iload_n hc dX5_bill_75 rfl ?_
        refine j_iload_n hc dX5_bill_76 rfl ?_
        refine as_m9 hc (n_in H h36) dX5_bill_77 ?_
        refine j_aload_n hc dX5_bill_78 rfl ?_
        refine gf_X5_26 hc dX5_bill_79 ?_
        refine j_iload_n hc dX5_bill_82 rfl ?_
        refine j_iload_n hc dX5_bill_83 rfl ?_
        refine as_m10 hc (n_in H h36) dX5_bill_84 ?_
        refine j_aload_n hc dX5_bill_85 rfl ?_
        refine gf_X5_29 hc dX5_bill_86 ?_
        refine j_iload_n hc dX5_bill_89 rfl ?_
        refine j_iload_n hc dX5_bill_90 rfl ?_
        refine as_m11 hc (n_in H h36) dX5_bill_91 ?_
        refine j_aload_n hc dX5_bill_92 rfl ?_
        refine gf_X5_35 hc dX5_bill_93 ?_
        refine j_iload_n hc dX5_bill_96 rfl ?_
        refine j_aload_n hc dX5_bill_97 rfl ?_
        refine j_aload_n hc dX5_bill_98 rfl ?_
        refine gf_X5_87 hc dX5_bill_99 ?_
        refine j_iconst hc (v := 1) dX5_bill_102 (by decide) ?_
        refine j_iadd hc dX5_bill_103 ?_
        refine j_callV hc ho (c_X5_chargingFrom hl (mi_A (mi_A (mi_A (mi_n (mi_G H 25 0 (by decide)) (n_lt H h36)) 9 _ _ (by decide)) 10 _ _ (by decide)) 11 _ _ (by decide)) (now_cf H).1 (now_cf H).2) vc_X5_96 rfl ⟨rfl, rfl, by decide, by decide⟩ 15 rfl rfl rfl (Nat.le_of_ble_eq_true rfl) ⟨by decide, by decide⟩ dX5_bill_104 ⟨by decide, by decide⟩ (fun _ h => by cases h) (fun hr104 => ?_)
        refine as_m13 hc (n_in H h36) dX5_bill_107 ?_
        refine j_aload_n hc dX5_bill_108 rfl ?_
        refine j_iload_n hc dX5_bill_109 rfl ?_
        refine j_iconst hc (v := 0) dX5_bill_110 (by decide) ?_
        refine j_callV hc ho (c_X5_enter hl (n_in H h36) (by exact H.2.2.2.1.1)) vc_X5_100 rfl ⟨rfl, rfl, by decide, by decide⟩ 15 rfl rfl rfl (Nat.le_of_ble_eq_true rfl) ⟨by decide, by decide⟩ dX5_bill_111 ⟨by decide, by decide⟩ (fun _ h => by cases h) (fun hr111 => ?_)
        refine j_iload_n hc dX5_bill_114 rfl ?_
        exact j_iret hc rfl (by decide) (by decide) (by simp only [m_bill, if_neg h8, if_neg h23, if_neg h36] <;> rfl) dX5_bill_115
      · -- if_pos h36
        refine j_iconst hc (v := 3) dX5_bill_39 (by decide) ?_
        refine j_goto hc 44 dX5_bill_40 (by decide) ?_
        refine pf_X5_70 hc dX5_bill_44 ?_
        refine j_aload_n hc dX5_bill_47 rfl ?_
        refine gf_X5_70 hc dX5_bill_48 ?_
        refine j_if_le hc 56 dX5_bill_51 (by decide) (fun h51 => by exact absurd (show (3 : Int32) ≤ (0 : Int32) from h51) (by decide)) (fun h51 => ?_)
        refine j_iconst hc (v := 0) dX5_bill_54 (by decide) ?_
        exact j_iret hc rfl (by decide) (by decide) (by simp only [m_bill, if_neg h8, if_neg h23, if_pos h36] <;> rfl) dX5_bill_55
    · -- if_pos h23
      refine j_iconst hc (v := 2) dX5_bill_26 (by decide) ?_
      refine j_goto hc 44 dX5_bill_27 (by decide) ?_
      refine pf_X5_70 hc dX5_bill_44 ?_
      refine j_aload_n hc dX5_bill_47 rfl ?_
      refine gf_X5_70 hc dX5_bill_48 ?_
      refine j_if_le hc 56 dX5_bill_51 (by decide) (fun h51 => by exact absurd (show (2 : Int32) ≤ (0 : Int32) from h51) (by decide)) (fun h51 => ?_)
      refine j_iconst hc (v := 0) dX5_bill_54 (by decide) ?_
      exact j_iret hc rfl (by decide) (by decide) (by simp only [m_bill, if_neg h8, if_pos h23] <;> rfl) dX5_bill_55
  · -- if_pos h8
    refine j_iconst hc (v := 1) dX5_bill_11 (by decide) ?_
    refine j_goto hc 44 dX5_bill_12 (by decide) ?_
    refine pf_X5_70 hc dX5_bill_44 ?_
    refine j_aload_n hc dX5_bill_47 rfl ?_
    refine gf_X5_70 hc dX5_bill_48 ?_
    refine j_if_le hc 56 dX5_bill_51 (by decide) (fun h51 => by exact absurd (show (1 : Int32) ≤ (0 : Int32) from h51) (by decide)) (fun h51 => ?_)
    refine j_iconst hc (v := 0) dX5_bill_54 (by decide) ?_
    exact j_iret hc rfl (by decide) (by decide) (by simp only [m_bill, if_pos h8] <;> rfl) dX5_bill_55
set_option maxRecDepth 100000 in
set_option maxHeartbeats 4000000 in
theorem c_X5_today {l : Launch} {D : va_G} {cs : Nat → ClassId} {sa : Nat → Nat} (hl : l.stackTraces = false)  {ad : Nat → Nat} {n : Nat} {E : ES} {S : MS} {o : Nat → Int64} : CM l D cs sa yX5_today cX5_today 1 (Option.some Jvm.ClassFile.FieldType.int) (RM 0 0 0) 0 0 [.ref (ad 15)] (WD ad cs n E S o) (none, some (.int (S.1 0)), WD ad cs n E (mG S 25 0) o) := by
  refine CM.of RX5 hl (by decide +kernel) rfl (Nat.le_of_ble_eq_true rfl) ?_
  intro p e s m args below meth c A hc ho hmn
  refine j_aload_n hc dX5_today_0 rfl ?_
  refine j_iconst hc (v := 0) dX5_today_1 (by decide) ?_
  refine pf_X5_70 hc dX5_today_2 ?_
  refine j_aload_n hc dX5_today_5 rfl ?_
  refine gf_X5_87 hc dX5_today_6 ?_
  exact j_iret hc rfl (by decide) (by decide) (rfl) dX5_today_9
set_option maxRecDepth 100000 in
set_option maxHeartbeats 4000000 in
theorem c_X5_paid {l : Launch} {D : va_G} {cs : Nat → ClassId} {sa : Nat → Nat} (hl : l.stackTraces = false)  {ad : Nat → Nat} {n : Nat} {E : ES} {S : MS} {o : Nat → Int64} : CM l D cs sa yX5_paid cX5_paid 1 (Option.some Jvm.ClassFile.FieldType.int) (RM 0 0 0) 0 0 [.ref (ad 15)] (WD ad cs n E S o) (none, some (.int (S.1 20)), WD ad cs n E (mG S 25 0) o) := by
  refine CM.of RX5 hl (by decide +kernel) rfl (Nat.le_of_ble_eq_true rfl) ?_
  intro p e s m args below meth c A hc ho hmn
  refine j_aload_n hc dX5_paid_0 rfl ?_
  refine j_iconst hc (v := 0) dX5_paid_1 (by decide) ?_
  refine pf_X5_70 hc dX5_paid_2 ?_
  refine j_aload_n hc dX5_paid_5 rfl ?_
  refine gf_X5_104 hc dX5_paid_6 ?_
  exact j_iret hc rfl (by decide) (by decide) (rfl) dX5_paid_9
set_option maxRecDepth 100000 in
set_option maxHeartbeats 4000000 in
theorem c_X5_writtenOff {l : Launch} {D : va_G} {cs : Nat → ClassId} {sa : Nat → Nat} (hl : l.stackTraces = false)  {ad : Nat → Nat} {n : Nat} {E : ES} {S : MS} {o : Nat → Int64} : CM l D cs sa yX5_writtenOff cX5_writtenOff 1 (Option.some Jvm.ClassFile.FieldType.int) (RM 0 0 0) 0 0 [.ref (ad 15)] (WD ad cs n E S o) (none, some (.int (S.1 21)), WD ad cs n E (mG S 25 0) o) := by
  refine CM.of RX5 hl (by decide +kernel) rfl (Nat.le_of_ble_eq_true rfl) ?_
  intro p e s m args below meth c A hc ho hmn
  refine j_aload_n hc dX5_writtenOff_0 rfl ?_
  refine j_iconst hc (v := 0) dX5_writtenOff_1 (by decide) ?_
  refine pf_X5_70 hc dX5_writtenOff_2 ?_
  refine j_aload_n hc dX5_writtenOff_5 rfl ?_
  refine gf_X5_119 hc dX5_writtenOff_6 ?_
  exact j_iret hc rfl (by decide) (by decide) (rfl) dX5_writtenOff_9
set_option maxRecDepth 100000 in
set_option maxHeartbeats 4000000 in
theorem c_X5_broughtBack {l : Launch} {D : va_G} {cs : Nat → ClassId} {sa : Nat → Nat} (hl : l.stackTraces = false)  {ad : Nat → Nat} {n : Nat} {E : ES} {S : MS} {o : Nat → Int64} : CM l D cs sa yX5_broughtBack cX5_broughtBack 1 (Option.some Jvm.ClassFile.FieldType.int) (RM 0 0 0) 0 0 [.ref (ad 15)] (WD ad cs n E S o) (none, some (.int (S.1 22)), WD ad cs n E (mG S 25 0) o) := by
  refine CM.of RX5 hl (by decide +kernel) rfl (Nat.le_of_ble_eq_true rfl) ?_
  intro p e s m args below meth c A hc ho hmn
  refine j_aload_n hc dX5_broughtBack_0 rfl ?_
  refine j_iconst hc (v := 0) dX5_broughtBack_1 (by decide) ?_
  refine pf_X5_70 hc dX5_broughtBack_2 ?_
  refine j_aload_n hc dX5_broughtBack_5 rfl ?_
  refine gf_X5_116 hc dX5_broughtBack_6 ?_
  exact j_iret hc rfl (by decide) (by decide) (rfl) dX5_broughtBack_9
set_option maxRecDepth 100000 in
set_option maxHeartbeats 4000000 in
theorem c_X5_bills {l : Launch} {D : va_G} {cs : Nat → ClassId} {sa : Nat → Nat} (hl : l.stackTraces = false)  {ad : Nat → Nat} {n : Nat} {E : ES} {S : MS} {o : Nat → Int64} : CM l D cs sa yX5_bills cX5_bills 1 (Option.some Jvm.ClassFile.FieldType.int) (RM 0 0 0) 0 0 [.ref (ad 15)] (WD ad cs n E S o) (none, some (.int (S.1 8)), WD ad cs n E (mG S 25 0) o) := by
  refine CM.of RX5 hl (by decide +kernel) rfl (Nat.le_of_ble_eq_true rfl) ?_
  intro p e s m args below meth c A hc ho hmn
  refine j_aload_n hc dX5_bills_0 rfl ?_
  refine j_iconst hc (v := 0) dX5_bills_1 (by decide) ?_
  refine pf_X5_70 hc dX5_bills_2 ?_
  refine j_aload_n hc dX5_bills_5 rfl ?_
  refine gf_X5_93 hc dX5_bills_6 ?_
  exact j_iret hc rfl (by decide) (by decide) (rfl) dX5_bills_9
set_option maxRecDepth 100000 in
set_option maxHeartbeats 4000000 in
theorem c_X5_events {l : Launch} {D : va_G} {cs : Nat → ClassId} {sa : Nat → Nat} (hl : l.stackTraces = false)  {ad : Nat → Nat} {n : Nat} {E : ES} {S : MS} {o : Nat → Int64} : CM l D cs sa yX5_events cX5_events 1 (Option.some Jvm.ClassFile.FieldType.int) (RM 0 0 0) 0 0 [.ref (ad 15)] (WD ad cs n E S o) (none, some (.int (S.1 24)), WD ad cs n E (mG S 25 0) o) := by
  refine CM.of RX5 hl (by decide +kernel) rfl (Nat.le_of_ble_eq_true rfl) ?_
  intro p e s m args below meth c A hc ho hmn
  refine j_aload_n hc dX5_events_0 rfl ?_
  refine j_iconst hc (v := 0) dX5_events_1 (by decide) ?_
  refine pf_X5_70 hc dX5_events_2 ?_
  refine j_aload_n hc dX5_events_5 rfl ?_
  refine gf_X5_90 hc dX5_events_6 ?_
  exact j_iret hc rfl (by decide) (by decide) (rfl) dX5_events_9
theorem mchg_01 (S : MS) (d : Int32) : m_chg S d = 0 ∨ m_chg S d = 1 := by
  unfold m_chg
  split
  · exact Or.inl rfl
  · split
    · exact Or.inr rfl
    · exact Or.inl rfl
set_option maxRecDepth 100000 in
set_option maxHeartbeats 4000000 in
theorem c_X5_isCharging {l : Launch} {D : va_G} {cs : Nat → ClassId} {sa : Nat → Nat} (hl : l.stackTraces = false)  {ad : Nat → Nat} {n : Nat} {E : ES} {S : MS} {o : Nat → Int64} {h nm : Nat} {Y T : Int} (H : MI h nm Y T S) {d : Int32} : CM l D cs sa yX5_isCharging cX5_isCharging 2 (Option.some Jvm.ClassFile.FieldType.boolean) (RM 2 0 0) 0 0 [.ref (ad 15), .int d] (WD ad cs n E S o) (none, some (.int (m_isCharging S d).1), WD ad cs n E (m_isCharging S d).2 o) := by
  refine CM.of RX5 hl (by decide +kernel) rfl (Nat.le_of_ble_eq_true rfl) ?_
  intro p e s m args below meth c A hc ho hmn
  refine j_aload_n hc dX5_isCharging_0 rfl ?_
  refine j_iload_n hc dX5_isCharging_1 rfl ?_
  refine j_iconst hc (v := 0) dX5_isCharging_2 (by decide) ?_
  refine j_ldc hc wt_741 dX5_isCharging_3 ?_
  refine j_callS hc ho (c_X5_in hl) sc_X5_83 rfl ⟨rfl, rfl, by decide, by decide⟩ rfl (Nat.le_of_ble_eq_true rfl) ⟨by decide, by decide⟩ dX5_isCharging_5 ⟨by decide, by decide⟩ (fun _ h => by cases h) (fun hr5 => ?_)
  refine j_if_eq hc 15 dX5_isCharging_8 (by decide) (fun h8 => ?_) (fun h8 => ?_)
  · -- if_pos h8
    refine j_iconst hc (v := 1) dX5_isCharging_15 (by decide) ?_
    refine pf_X5_70 hc dX5_isCharging_16 ?_
    refine j_aload_n hc dX5_isCharging_19 rfl ?_
    refine gf_X5_70 hc dX5_isCharging_20 ?_
    refine j_if_ne hc 38 dX5_isCharging_23 (by decide) (fun h23 => ?_) (fun h23 => by exact absurd (show (1 : Int32) = (0 : Int32) from h23) (by decide))
    refine j_iconst hc (v := 0) dX5_isCharging_38 (by decide) ?_
    exact j_zret hc rfl rfl (by decide) (by decide) (by simp only [m_isCharging, if_pos h8] <;> rfl) dX5_isCharging_39
  · -- if_neg h8
    refine j_iconst hc (v := 0) dX5_isCharging_11 (by decide) ?_
    refine j_goto hc 16 dX5_isCharging_12 (by decide) ?_
    refine pf_X5_70 hc dX5_isCharging_16 ?_
    refine j_aload_n hc dX5_isCharging_19 rfl ?_
    refine gf_X5_70 hc dX5_isCharging_20 ?_
    refine j_if_ne hc 38 dX5_isCharging_23 (by decide) (fun h23 => by exact absurd (show ¬ (0 : Int32) = (0 : Int32) from h23) (by decide)) (fun h23 => ?_)
    refine j_aload_n hc dX5_isCharging_26 rfl ?_
    refine j_iload_n hc dX5_isCharging_27 rfl ?_
    refine j_callV hc ho (c_X5_charges hl (mi_G H 25 0 (by decide)) (in_none h8).1) vc_X5_80 rfl ⟨rfl, rfl, by decide, by decide⟩ 15 rfl rfl rfl (Nat.le_of_ble_eq_true rfl) ⟨by decide, by decide⟩ dX5_isCharging_28 ⟨by decide, by decide⟩ (fun _ h => by cases h) (fun hr28 => ?_)
    refine j_if_eq hc 38 dX5_isCharging_31 (by decide) (fun h31 => ?_) (fun h31 => ?_)
    · -- if_pos h31
      refine j_iconst hc (v := 0) dX5_isCharging_38 (by decide) ?_
      exact j_zret hc rfl rfl (by decide) (by decide) (by simp only [m_isCharging, if_neg h8, h31]) dX5_isCharging_39
    · -- if_neg h31
      refine j_iconst hc (v := 1) dX5_isCharging_34 (by decide) ?_
      refine j_goto hc 39 dX5_isCharging_35 (by decide) ?_
      exact j_zret hc rfl rfl (by decide) (by decide) (by simp only [m_isCharging, if_neg h8, (mchg_01 (mG S 25 0) d).resolve_left h31]) dX5_isCharging_39
set_option maxRecDepth 100000 in
set_option maxHeartbeats 4000000 in
theorem c_X5_stateOf {l : Launch} {D : va_G} {cs : Nat → ClassId} {sa : Nat → Nat} (hl : l.stackTraces = false)  {ad : Nat → Nat} {n : Nat} {E : ES} {S : MS} {o : Nat → Int64} {h nm : Nat} {Y T : Int} (H : MI h nm Y T S) {p0 : Int32} : CM l D cs sa yX5_stateOf cX5_stateOf 2 (Option.some Jvm.ClassFile.FieldType.int) (RM 2 0 0) 0 0 [.ref (ad 15), .int p0] (WD ad cs n E S o) (none, some (.int (m_bf S 12 p0).1), WD ad cs n E (m_bf S 12 p0).2 o) := by
  refine CM.of RX5 hl (by decide +kernel) rfl (Nat.le_of_ble_eq_true rfl) ?_
  intro p e s m args below meth c A hc ho hmn
  refine j_aload_n hc dX5_stateOf_0 rfl ?_
  refine j_iload_n hc dX5_stateOf_1 rfl ?_
  refine j_callV hc ho (c_X5_isBill hl) vc_X5_107 rfl ⟨rfl, rfl, by decide, by decide⟩ 15 rfl rfl rfl (Nat.le_of_ble_eq_true rfl) ⟨by decide, by decide⟩ dX5_stateOf_2 ⟨by decide, by decide⟩ (fun _ h => by cases h) (fun hr2 => ?_)
  refine j_if_eq hc 17 dX5_stateOf_5 (by decide) (fun h5 => ?_) (fun h5 => ?_)
  · -- if_pos h5
    refine j_iconst hc (v := 0) dX5_stateOf_17 (by decide) ?_
    exact j_iret hc rfl (by decide) (by decide) (by simp only [m_bf, if_pos h5] <;> rfl) dX5_stateOf_18
  · -- if_neg h5
    refine j_aload_n hc dX5_stateOf_8 rfl ?_
    refine gf_X5_32 hc dX5_stateOf_9 ?_
    refine j_iload_n hc dX5_stateOf_12 rfl ?_
    refine al_m12 hc (isb_in H h5) dX5_stateOf_13 ?_
    refine j_goto hc 18 dX5_stateOf_14 (by decide) ?_
    exact j_iret hc rfl (by decide) (by decide) (by simp only [m_bf, if_neg h5] <;> rfl) dX5_stateOf_18
set_option maxRecDepth 100000 in
set_option maxHeartbeats 4000000 in
theorem c_X5_left {l : Launch} {D : va_G} {cs : Nat → ClassId} {sa : Nat → Nat} (hl : l.stackTraces = false)  {ad : Nat → Nat} {n : Nat} {E : ES} {S : MS} {o : Nat → Int64} {h nm : Nat} {Y T : Int} (H : MI h nm Y T S) {p0 : Int32} : CM l D cs sa yX5_left cX5_left 2 (Option.some Jvm.ClassFile.FieldType.int) (RM 2 0 0) 0 0 [.ref (ad 15), .int p0] (WD ad cs n E S o) (none, some (.int (m_bf S 11 p0).1), WD ad cs n E (m_bf S 11 p0).2 o) := by
  refine CM.of RX5 hl (by decide +kernel) rfl (Nat.le_of_ble_eq_true rfl) ?_
  intro p e s m args below meth c A hc ho hmn
  refine j_aload_n hc dX5_left_0 rfl ?_
  refine j_iload_n hc dX5_left_1 rfl ?_
  refine j_callV hc ho (c_X5_isBill hl) vc_X5_107 rfl ⟨rfl, rfl, by decide, by decide⟩ 15 rfl rfl rfl (Nat.le_of_ble_eq_true rfl) ⟨by decide, by decide⟩ dX5_left_2 ⟨by decide, by decide⟩ (fun _ h => by cases h) (fun hr2 => ?_)
  refine j_if_eq hc 17 dX5_left_5 (by decide) (fun h5 => ?_) (fun h5 => ?_)
  · -- if_pos h5
    refine j_iconst hc (v := 0) dX5_left_17 (by decide) ?_
    exact j_iret hc rfl (by decide) (by decide) (by simp only [m_bf, if_pos h5] <;> rfl) dX5_left_18
  · -- if_neg h5
    refine j_aload_n hc dX5_left_8 rfl ?_
    refine gf_X5_29 hc dX5_left_9 ?_
    refine j_iload_n hc dX5_left_12 rfl ?_
    refine al_m11 hc (isb_in H h5) dX5_left_13 ?_
    refine j_goto hc 18 dX5_left_14 (by decide) ?_
    exact j_iret hc rfl (by decide) (by decide) (by simp only [m_bf, if_neg h5] <;> rfl) dX5_left_18
set_option maxRecDepth 100000 in
set_option maxHeartbeats 4000000 in
theorem c_X5_tries {l : Launch} {D : va_G} {cs : Nat → ClassId} {sa : Nat → Nat} (hl : l.stackTraces = false)  {ad : Nat → Nat} {n : Nat} {E : ES} {S : MS} {o : Nat → Int64} {h nm : Nat} {Y T : Int} (H : MI h nm Y T S) {p0 : Int32} : CM l D cs sa yX5_tries cX5_tries 2 (Option.some Jvm.ClassFile.FieldType.int) (RM 2 0 0) 0 0 [.ref (ad 15), .int p0] (WD ad cs n E S o) (none, some (.int (m_bf S 14 p0).1), WD ad cs n E (m_bf S 14 p0).2 o) := by
  refine CM.of RX5 hl (by decide +kernel) rfl (Nat.le_of_ble_eq_true rfl) ?_
  intro p e s m args below meth c A hc ho hmn
  refine j_aload_n hc dX5_tries_0 rfl ?_
  refine j_iload_n hc dX5_tries_1 rfl ?_
  refine j_callV hc ho (c_X5_isBill hl) vc_X5_107 rfl ⟨rfl, rfl, by decide, by decide⟩ 15 rfl rfl rfl (Nat.le_of_ble_eq_true rfl) ⟨by decide, by decide⟩ dX5_tries_2 ⟨by decide, by decide⟩ (fun _ h => by cases h) (fun hr2 => ?_)
  refine j_if_eq hc 17 dX5_tries_5 (by decide) (fun h5 => ?_) (fun h5 => ?_)
  · -- if_pos h5
    refine j_iconst hc (v := 0) dX5_tries_17 (by decide) ?_
    exact j_iret hc rfl (by decide) (by decide) (by simp only [m_bf, if_pos h5] <;> rfl) dX5_tries_18
  · -- if_neg h5
    refine j_aload_n hc dX5_tries_8 rfl ?_
    refine gf_X5_38 hc dX5_tries_9 ?_
    refine j_iload_n hc dX5_tries_12 rfl ?_
    refine al_m14 hc (isb_in H h5) dX5_tries_13 ?_
    refine j_goto hc 18 dX5_tries_14 (by decide) ?_
    exact j_iret hc rfl (by decide) (by decide) (by simp only [m_bf, if_neg h5] <;> rfl) dX5_tries_18
set_option maxRecDepth 100000 in
set_option maxHeartbeats 4000000 in
theorem c_X5_broken {l : Launch} {D : va_G} {cs : Nat → ClassId} {sa : Nat → Nat} (hl : l.stackTraces = false)  {ad : Nat → Nat} {n : Nat} {E : ES} {S : MS} {o : Nat → Int64} {h nm : Nat} {Y T : Int} (H : MI h nm Y T S) {p0 : Int32} : CM l D cs sa yX5_broken cX5_broken 2 (Option.some Jvm.ClassFile.FieldType.int) (RM 2 0 0) 0 0 [.ref (ad 15), .int p0] (WD ad cs n E S o) (none, some (.int (m_bf S 17 p0).1), WD ad cs n E (m_bf S 17 p0).2 o) := by
  refine CM.of RX5 hl (by decide +kernel) rfl (Nat.le_of_ble_eq_true rfl) ?_
  intro p e s m args below meth c A hc ho hmn
  refine j_aload_n hc dX5_broken_0 rfl ?_
  refine j_iload_n hc dX5_broken_1 rfl ?_
  refine j_callV hc ho (c_X5_isBill hl) vc_X5_107 rfl ⟨rfl, rfl, by decide, by decide⟩ 15 rfl rfl rfl (Nat.le_of_ble_eq_true rfl) ⟨by decide, by decide⟩ dX5_broken_2 ⟨by decide, by decide⟩ (fun _ h => by cases h) (fun hr2 => ?_)
  refine j_if_eq hc 17 dX5_broken_5 (by decide) (fun h5 => ?_) (fun h5 => ?_)
  · -- if_pos h5
    refine j_iconst hc (v := 0) dX5_broken_17 (by decide) ?_
    exact j_iret hc rfl (by decide) (by decide) (by simp only [m_bf, if_pos h5] <;> rfl) dX5_broken_18
  · -- if_neg h5
    refine j_aload_n hc dX5_broken_8 rfl ?_
    refine gf_X5_47 hc dX5_broken_9 ?_
    refine j_iload_n hc dX5_broken_12 rfl ?_
    refine al_m17 hc (isb_in H h5) dX5_broken_13 ?_
    refine j_goto hc 18 dX5_broken_14 (by decide) ?_
    exact j_iret hc rfl (by decide) (by decide) (by simp only [m_bf, if_neg h5] <;> rfl) dX5_broken_18
theorem fl_in {h n : Nat} {Y T : Int} {S : MS} (H : MI h n Y T S) {p0 r : Int32} (h1 : ¬ m_in p0 0 (S.1 8 - 1) = 0) (h2 : ¬ m_in r 1 4 = 0) : vp_in (5 * p0 + r) 150 := by
  have a1 := in_none h1
  have a2 := in_none h2
  have e0 : (0 : Int32).toInt = 0 := by decide
  have e1 : (1 : Int32).toInt = 1 := by decide
  have e4 : (4 : Int32).toInt = 4 := by decide
  rw [n_m1 H] at a1
  have := H.2.1.2
  exact mul_in (by rw [vp_in_iff]; omega) (by omega) (by omega)
set_option maxRecDepth 100000 in
set_option maxHeartbeats 4000000 in
theorem c_X5_failures {l : Launch} {D : va_G} {cs : Nat → ClassId} {sa : Nat → Nat} (hl : l.stackTraces = false)  {ad : Nat → Nat} {n : Nat} {E : ES} {S : MS} {o : Nat → Int64} {h nm : Nat} {Y T : Int} (H : MI h nm Y T S) {p0 r : Int32} : CM l D cs sa yX5_failures cX5_failures 3 (Option.some Jvm.ClassFile.FieldType.int) (RM 2 0 0) 0 0 [.ref (ad 15), .int p0, .int r] (WD ad cs n E S o) (none, some (.int (m_failures S p0 r).1), WD ad cs n E (m_failures S p0 r).2 o) := by
  refine CM.of RX5 hl (by decide +kernel) rfl (Nat.le_of_ble_eq_true rfl) ?_
  intro p e s m args below meth c A hc ho hmn
  refine j_aload_n hc dX5_failures_0 rfl ?_
  refine j_iload_n hc dX5_failures_1 rfl ?_
  refine j_iconst hc (v := 0) dX5_failures_2 (by decide) ?_
  refine j_aload_n hc dX5_failures_3 rfl ?_
  refine gf_X5_93 hc dX5_failures_4 ?_
  refine j_iconst hc (v := 1) dX5_failures_7 (by decide) ?_
  refine j_isub hc dX5_failures_8 ?_
  refine j_callS hc ho (c_X5_in hl) sc_X5_83 rfl ⟨rfl, rfl, by decide, by decide⟩ rfl (Nat.le_of_ble_eq_true rfl) ⟨by decide, by decide⟩ dX5_failures_9 ⟨by decide, by decide⟩ (fun _ h => by cases h) (fun hr9 => ?_)
  refine j_if_eq hc 28 dX5_failures_12 (by decide) (fun h12 => ?_) (fun h12 => ?_)
  · -- if_pos h12
    refine j_iconst hc (v := 1) dX5_failures_28 (by decide) ?_
    refine pf_X5_70 hc dX5_failures_29 ?_
    refine j_aload_n hc dX5_failures_32 rfl ?_
    refine gf_X5_70 hc dX5_failures_33 ?_
    refine j_if_ne hc 52 dX5_failures_36 (by decide) (fun h36 => ?_) (fun h36 => by exact absurd (show (1 : Int32) = (0 : Int32) from h36) (by decide))
    refine j_iconst hc (v := 0) dX5_failures_52 (by decide) ?_
    exact j_iret hc rfl (by decide) (by decide) (by simp only [m_failures, if_pos h12] <;> rfl) dX5_failures_53
  · -- if_neg h12
    refine j_iload_n hc dX5_failures_15 rfl ?_
    refine j_iconst hc (v := 1) dX5_failures_16 (by decide) ?_
    refine j_iconst hc (v := 4) dX5_failures_17 (by decide) ?_
    refine j_callS hc ho (c_X5_in hl) sc_X5_83 rfl ⟨rfl, rfl, by decide, by decide⟩ rfl (Nat.le_of_ble_eq_true rfl) ⟨by decide, by decide⟩ dX5_failures_18 ⟨by decide, by decide⟩ (fun _ h => by cases h) (fun hr18 => ?_)
    refine j_if_eq hc 28 dX5_failures_21 (by decide) (fun h21 => ?_) (fun h21 => ?_)
    · -- if_pos h21
      refine j_iconst hc (v := 1) dX5_failures_28 (by decide) ?_
      refine pf_X5_70 hc dX5_failures_29 ?_
      refine j_aload_n hc dX5_failures_32 rfl ?_
      refine gf_X5_70 hc dX5_failures_33 ?_
      refine j_if_ne hc 52 dX5_failures_36 (by decide) (fun h36 => ?_) (fun h36 => by exact absurd (show (1 : Int32) = (0 : Int32) from h36) (by decide))
      refine j_iconst hc (v := 0) dX5_failures_52 (by decide) ?_
      exact j_iret hc rfl (by decide) (by decide) (by simp only [m_failures, if_neg h12, if_pos h21] <;> rfl) dX5_failures_53
    · -- if_neg h21
      refine j_iconst hc (v := 0) dX5_failures_24 (by decide) ?_
      refine j_goto hc 29 dX5_failures_25 (by decide) ?_
      refine pf_X5_70 hc dX5_failures_29 ?_
      refine j_aload_n hc dX5_failures_32 rfl ?_
      refine gf_X5_70 hc dX5_failures_33 ?_
      refine j_if_ne hc 52 dX5_failures_36 (by decide) (fun h36 => by exact absurd (show ¬ (0 : Int32) = (0 : Int32) from h36) (by decide)) (fun h36 => ?_)
      refine j_aload_n hc dX5_failures_39 rfl ?_
      refine gf_X5_41 hc dX5_failures_40 ?_
      refine j_iconst hc (v := 5) dX5_failures_43 (by decide) ?_
      refine j_iload_n hc dX5_failures_44 rfl ?_
      refine j_imul hc dX5_failures_45 ?_
      refine j_iload_n hc dX5_failures_46 rfl ?_
      refine j_iadd hc dX5_failures_47 ?_
      refine al_m15 hc (fl_in H h12 h21) dX5_failures_48 ?_
      refine j_goto hc 53 dX5_failures_49 (by decide) ?_
      exact j_iret hc rfl (by decide) (by decide) (by simp only [m_failures, if_neg h12, if_neg h21] <;> rfl) dX5_failures_53
set_option maxRecDepth 100000 in
set_option maxHeartbeats 4000000 in
theorem c_X5_waitsFor {l : Launch} {D : va_G} {cs : Nat → ClassId} {sa : Nat → Nat} (hl : l.stackTraces = false)  {ad : Nat → Nat} {n : Nat} {E : ES} {S : MS} {o : Nat → Int64} {h nm : Nat} {Y T : Int} (H : MI h nm Y T S) {p0 : Int32} : CM l D cs sa yX5_waitsFor cX5_waitsFor 2 (Option.some Jvm.ClassFile.FieldType.int) (RM 2 0 0) 0 0 [.ref (ad 15), .int p0] (WD ad cs n E S o) (none, some (.int (m_waitsFor S p0).1), WD ad cs n E (m_waitsFor S p0).2 o) := by
  refine CM.of RX5 hl (by decide +kernel) rfl (Nat.le_of_ble_eq_true rfl) ?_
  intro p e s m args below meth c A hc ho hmn
  refine j_aload_n hc dX5_waitsFor_0 rfl ?_
  refine j_iload_n hc dX5_waitsFor_1 rfl ?_
  refine j_callV hc ho (c_X5_isBill hl) vc_X5_107 rfl ⟨rfl, rfl, by decide, by decide⟩ 15 rfl rfl rfl (Nat.le_of_ble_eq_true rfl) ⟨by decide, by decide⟩ dX5_waitsFor_2 ⟨by decide, by decide⟩ (fun _ h => by cases h) (fun hr2 => ?_)
  refine j_if_ne hc 10 dX5_waitsFor_5 (by decide) (fun h5 => ?_) (fun h5 => ?_)
  · -- if_neg h5
    refine j_aload_n hc dX5_waitsFor_10 rfl ?_
    refine gf_X5_32 hc dX5_waitsFor_11 ?_
    refine j_iload_n hc dX5_waitsFor_14 rfl ?_
    refine al_m12 hc (isb_in H h5) dX5_waitsFor_15 ?_
    refine j_iconst hc (v := 1) dX5_waitsFor_16 (by decide) ?_
    refine j_icmp_eq hc 41 dX5_waitsFor_17 (by decide) (fun h17 => ?_) (fun h17 => ?_)
    · -- if_pos h17
      refine j_iconst hc (v := -1) dX5_waitsFor_41 (by decide) ?_
      refine j_goto hc 51 dX5_waitsFor_42 (by decide) ?_
      exact j_iret hc rfl (by decide) (by decide) (by simp only [m_waitsFor, if_neg h5, if_pos h17] <;> rfl) dX5_waitsFor_51
    · -- if_neg h17
      refine j_aload_n hc dX5_waitsFor_20 rfl ?_
      refine gf_X5_32 hc dX5_waitsFor_21 ?_
      refine j_iload_n hc dX5_waitsFor_24 rfl ?_
      refine al_m12 hc (isb_in H h5) dX5_waitsFor_25 ?_
      refine j_iconst hc (v := 5) dX5_waitsFor_26 (by decide) ?_
      refine j_icmp_eq hc 41 dX5_waitsFor_27 (by decide) (fun h27 => ?_) (fun h27 => ?_)
      · -- if_pos h27
        refine j_iconst hc (v := -1) dX5_waitsFor_41 (by decide) ?_
        refine j_goto hc 51 dX5_waitsFor_42 (by decide) ?_
        exact j_iret hc rfl (by decide) (by decide) (by simp only [m_waitsFor, if_neg h5, if_neg h17, if_pos h27] <;> rfl) dX5_waitsFor_51
      · -- if_neg h27
        refine j_aload_n hc dX5_waitsFor_30 rfl ?_
        refine gf_X5_32 hc dX5_waitsFor_31 ?_
        refine j_iload_n hc dX5_waitsFor_34 rfl ?_
        refine al_m12 hc (isb_in H h5) dX5_waitsFor_35 ?_
        refine j_bipush hc (v := 6) dX5_waitsFor_36 (by decide) ?_
        refine j_icmp_ne hc 45 dX5_waitsFor_38 (by decide) (fun h38 => ?_) (fun h38 => ?_)
        · -- if_neg h38
          refine j_aload_n hc dX5_waitsFor_45 rfl ?_
          refine gf_X5_35 hc dX5_waitsFor_46 ?_
          refine j_iload_n hc dX5_waitsFor_49 rfl ?_
          refine al_m13 hc (isb_in H h5) dX5_waitsFor_50 ?_
          exact j_iret hc rfl (by decide) (by decide) (by simp only [m_waitsFor, if_neg h5, if_neg h17, if_neg h27, if_neg h38] <;> rfl) dX5_waitsFor_51
        · -- if_pos h38
          refine j_iconst hc (v := -1) dX5_waitsFor_41 (by decide) ?_
          refine j_goto hc 51 dX5_waitsFor_42 (by decide) ?_
          exact j_iret hc rfl (by decide) (by decide) (by simp only [m_waitsFor, if_neg h5, if_neg h17, if_neg h27, if_pos h38] <;> rfl) dX5_waitsFor_51
  · -- if_pos h5
    refine j_iconst hc (v := 0) dX5_waitsFor_8 (by decide) ?_
    exact j_iret hc rfl (by decide) (by decide) (by simp only [m_waitsFor, if_pos h5] <;> rfl) dX5_waitsFor_9
theorem tl_in {x k : Int32} (h1 : 0 ≤ k.toInt) (h2 : ¬ x ≤ k) : vp_in (x - 1 - k - (x - 1 - k) / 400 * 400) 400 := by
  rw [i32_le] at h2
  have e1 : (1 : Int32).toInt = 1 := by decide
  have hb := i32_b x
  have e : (x - 1 - k).toInt = x.toInt - 1 - k.toInt := by
    rw [i32_sub (by rw [i32_sub (by omega) (by omega)]; omega) (by rw [i32_sub (by omega) (by omega)]; omega), i32_sub (by omega) (by omega)]; omega
  exact rem_in (m := 400) (by omega) (by decide) (by decide)
set_option maxRecDepth 100000 in
set_option maxHeartbeats 4000000 in
theorem c_X5_event {l : Launch} {D : va_G} {cs : Nat → ClassId} {sa : Nat → Nat} (hl : l.stackTraces = false)  {ad : Nat → Nat} {n : Nat} {E : ES} {S : MS} {o : Nat → Int64} {k : Int32} : CM l D cs sa yX5_event cX5_event 2 (Option.some Jvm.ClassFile.FieldType.int) (RM 1 0 0) 0 0 [.ref (ad 15), .int k] (WD ad cs n E S o) (none, some (.int (m_event S k).1), WD ad cs n E (m_event S k).2 o) := by
  refine CM.of RX5 hl (by decide +kernel) rfl (Nat.le_of_ble_eq_true rfl) ?_
  intro p e s m args below meth c A hc ho hmn
  refine j_aload_n hc dX5_event_0 rfl ?_
  refine j_iload_n hc dX5_event_1 rfl ?_
  refine j_iconst hc (v := 0) dX5_event_2 (by decide) ?_
  refine j_sipush hc (v := 399) dX5_event_3 (by decide) ?_
  refine j_callS hc ho (c_X5_in hl) sc_X5_83 rfl ⟨rfl, rfl, by decide, by decide⟩ rfl (Nat.le_of_ble_eq_true rfl) ⟨by decide, by decide⟩ dX5_event_6 ⟨by decide, by decide⟩ (fun _ h => by cases h) (fun hr6 => ?_)
  refine j_if_eq hc 24 dX5_event_9 (by decide) (fun h9 => ?_) (fun h9 => ?_)
  · -- if_pos h9
    refine j_iconst hc (v := 1) dX5_event_24 (by decide) ?_
    refine pf_X5_70 hc dX5_event_25 ?_
    refine j_aload_n hc dX5_event_28 rfl ?_
    refine gf_X5_70 hc dX5_event_29 ?_
    refine j_if_ne hc 55 dX5_event_32 (by decide) (fun h32 => ?_) (fun h32 => by exact absurd (show (1 : Int32) = (0 : Int32) from h32) (by decide))
    refine j_iconst hc (v := 0) dX5_event_55 (by decide) ?_
    exact j_iret hc rfl (by decide) (by decide) (by simp only [m_event, m_tld, if_pos h9] <;> rfl) dX5_event_56
  · -- if_neg h9
    refine j_iload_n hc dX5_event_12 rfl ?_
    refine j_aload_n hc dX5_event_13 rfl ?_
    refine gf_X5_90 hc dX5_event_14 ?_
    refine j_icmp_ge hc 24 dX5_event_17 (by decide) (fun h17 => ?_) (fun h17 => ?_)
    · -- if_pos h17
      refine j_iconst hc (v := 1) dX5_event_24 (by decide) ?_
      refine pf_X5_70 hc dX5_event_25 ?_
      refine j_aload_n hc dX5_event_28 rfl ?_
      refine gf_X5_70 hc dX5_event_29 ?_
      refine j_if_ne hc 55 dX5_event_32 (by decide) (fun h32 => ?_) (fun h32 => by exact absurd (show (1 : Int32) = (0 : Int32) from h32) (by decide))
      refine j_iconst hc (v := 0) dX5_event_55 (by decide) ?_
      exact j_iret hc rfl (by decide) (by decide) (by simp only [m_event, m_tld, if_neg h9, if_pos h17] <;> rfl) dX5_event_56
    · -- if_neg h17
      refine j_iconst hc (v := 0) dX5_event_20 (by decide) ?_
      refine j_goto hc 25 dX5_event_21 (by decide) ?_
      refine pf_X5_70 hc dX5_event_25 ?_
      refine j_aload_n hc dX5_event_28 rfl ?_
      refine gf_X5_70 hc dX5_event_29 ?_
      refine j_if_ne hc 55 dX5_event_32 (by decide) (fun h32 => by exact absurd (show ¬ (0 : Int32) = (0 : Int32) from h32) (by decide)) (fun h32 => ?_)
      refine j_aload_n hc dX5_event_35 rfl ?_
      refine gf_X5_56 hc dX5_event_36 ?_
      refine j_aload_n hc dX5_event_39 rfl ?_
      refine gf_X5_90 hc dX5_event_40 ?_
      refine j_iconst hc (v := 1) dX5_event_43 (by decide) ?_
      refine j_isub hc dX5_event_44 ?_
      refine j_iload_n hc dX5_event_45 rfl ?_
      refine j_isub hc dX5_event_46 ?_
      refine j_sipush hc (v := 400) dX5_event_47 (by decide) ?_
      refine j_irem hc dX5_event_50 (by decide) ?_
      refine al_m23 hc (tl_in (in_none h9).1 h17) dX5_event_51 ?_
      refine j_goto hc 56 dX5_event_52 (by decide) ?_
      exact j_iret hc rfl (by decide) (by decide) (by simp only [m_event, m_tld, if_neg h9, if_neg h17] <;> rfl) dX5_event_56
set_option maxRecDepth 100000 in
set_option maxHeartbeats 4000000 in
theorem c_X5_passDay {l : Launch} {D : va_G} {cs : Nat → ClassId} {sa : Nat → Nat} (hl : l.stackTraces = false)  {ad : Nat → Nat} {n : Nat} {E : ES} {S : MS} {o : Nat → Int64} {h nm : Nat} {Y T : Int} (H : MI h nm Y T S) (hY : Y + 1 ≤ 100000) (hT : T + 90 ≤ 1000000000) : CM l D cs sa yX5_passDay cX5_passDay 3 (Option.some Jvm.ClassFile.FieldType.int) (RM 5 0 0) 0 0 [.ref (ad 15)] (WD ad cs n E S o) (none, some (.int (m_day nm S).1), WD ad cs n E (m_day nm S).2 o) := by
  refine CM.of RX5 hl (by decide +kernel) rfl (Nat.le_of_ble_eq_true rfl) ?_
  intro p e s m args below meth c A hc ho hmn
  have hn30 := H.2.1.2
  have HF := mi_now (mi_fut nm 0 H (by omega)) hY
  have loop2 : ∀ (k i : Nat) (c0 : Int32) (S3 : MS) (T3 : Int), i + k = nm → MI h nm (Y + 1) T3 S3 → T3 + k ≤ 1000000000 → m_lab nm 0 0 (mG (m_fut nm 0 S) 0 ((m_fut nm 0 S).1 0 + 1)) = m_lab k i c0 S3 → J p l e (RM 5 0 0) s m args below meth c D A 3 0 0 (QE below args s D A 0 0 (WD ad cs n E S o) (none, some (.int (m_day nm S).1), WD ad cs n E (m_day nm S).2 o)) (WD ad cs n E S3 o) 46 [(0, .ref (ad 15)), (1, .int c0), (2, .int (nI i))] [] := by
    intro k
    induction k with
    | zero =>
      intro i c0 S3 T3 hi H3 hT3 hd
      refine j_iload_n hc dX5_passDay_46 rfl ?_
      refine j_aload_n hc dX5_passDay_47 rfl ?_
      refine gf_X5_93 hc dX5_passDay_48 ?_
      refine j_icmp_ge hc 76 dX5_passDay_51 (by decide) (fun h51 => ?_) (fun h51 => by exact absurd h51 (fun z => z (by rw [H3.2.1.1]; exact nI_le (by omega) (by omega))))
      refine j_iload_n hc dX5_passDay_76 rfl ?_
      exact j_iret hc rfl (by decide) (by decide) (by rw [m_day, hd]; rfl) dX5_passDay_77
    | succ k ih =>
      intro i c0 S3 T3 hi H3 hT3 hd
      have hb : vp_in (nI i) 30 := vp_in_nI (by omega) (by decide)
      refine j_iload_n hc dX5_passDay_46 rfl ?_
      refine j_aload_n hc dX5_passDay_47 rfl ?_
      refine gf_X5_93 hc dX5_passDay_48 ?_
      refine j_icmp_ge hc 76 dX5_passDay_51 (by decide) (fun h51 => by exact absurd h51 (by rw [H3.2.1.1]; exact nI_ge (by omega) (by omega))) (fun h51 => ?_)
      refine j_iload_n hc dX5_passDay_54 rfl ?_
      refine j_aload_n hc dX5_passDay_55 rfl ?_
      refine j_iload_n hc dX5_passDay_56 rfl ?_
      refine j_callV hc ho (c_X5_look hl H3 hb) vc_X5_126 rfl ⟨rfl, rfl, by decide, by decide⟩ 15 rfl rfl rfl (Nat.le_of_ble_eq_true rfl) ⟨by decide, by decide⟩ dX5_passDay_57 ⟨by decide, by decide⟩ (fun _ h => by cases h) (fun hr57 => ?_)
      refine j_if_eq hc 67 dX5_passDay_60 (by decide) (fun h60 => ?_) (fun h60 => ?_)
      · -- if_pos h60
        refine j_iconst hc (v := 0) dX5_passDay_67 (by decide) ?_
        refine j_iadd hc dX5_passDay_68 ?_
        refine j_istore_n hc dX5_passDay_69 rfl ?_
        refine j_inc hc dX5_passDay_70 rfl (z := 1) (by decide) rfl ?_
        refine j_goto hc 46 dX5_passDay_73 (by decide) ?_
        refine j_lv [(0, .ref (ad 15)), (1, .int _), (2, .int (nI i + 1))] ⟨rfl, rfl, rfl, trivial⟩ ?_
        rw [nI_1]
        exact ih (i + 1) _ _ (T3 + 1) (by omega) (mi_look H3 (by omega) _) (by omega) (by rw [hd]; simp only [m_lab, if_neg h51, if_pos h60])
      · -- if_neg h60
        refine j_iconst hc (v := 1) dX5_passDay_63 (by decide) ?_
        refine j_goto hc 68 dX5_passDay_64 (by decide) ?_
        refine j_iadd hc dX5_passDay_68 ?_
        refine j_istore_n hc dX5_passDay_69 rfl ?_
        refine j_inc hc dX5_passDay_70 rfl (z := 1) (by decide) rfl ?_
        refine j_goto hc 46 dX5_passDay_73 (by decide) ?_
        refine j_lv [(0, .ref (ad 15)), (1, .int _), (2, .int (nI i + 1))] ⟨rfl, rfl, rfl, trivial⟩ ?_
        rw [nI_1]
        exact ih (i + 1) _ _ (T3 + 1) (by omega) (mi_look H3 (by omega) _) (by omega) (by rw [hd]; simp only [m_lab, if_neg h51, if_neg h60])
  have loop1 : ∀ (k i : Nat) (S3 : MS) (T3 : Int), i + k = nm → MI h nm Y T3 S3 → T3 + 2 * k ≤ 1000000000 → m_fut nm 0 S = m_fut k i S3 → J p l e (RM 5 0 0) s m args below meth c D A 3 0 0 (QE below args s D A 0 0 (WD ad cs n E S o) (none, some (.int (m_day nm S).1), WD ad cs n E (m_day nm S).2 o)) (WD ad cs n E S3 o) 2 [(0, .ref (ad 15)), (1, .int (nI i))] [] := by
    intro k
    induction k with
    | zero =>
      intro i S3 T3 hi H3 hT3 hd
      replace hd : m_fut nm 0 S = S3 := hd
      subst hd
      refine j_iload_n hc dX5_passDay_2 rfl ?_
      refine j_aload_n hc dX5_passDay_3 rfl ?_
      refine gf_X5_93 hc dX5_passDay_4 ?_
      refine j_icmp_ge hc 32 dX5_passDay_7 (by decide) (fun h7 => ?_) (fun h7 => by exact absurd h7 (fun z => z (by rw [H3.2.1.1]; exact nI_le (by omega) (by omega))))
      refine j_aload_n hc dX5_passDay_32 rfl ?_
      refine j_dup hc dX5_passDay_33 rfl ?_
      refine gf_X5_87 hc dX5_passDay_34 ?_
      refine j_iconst hc (v := 1) dX5_passDay_37 (by decide) ?_
      refine j_iadd hc dX5_passDay_38 ?_
      refine pf_X5_87 hc dX5_passDay_39 ?_
      refine j_iconst hc (v := 0) dX5_passDay_42 (by decide) ?_
      refine j_istore_n hc dX5_passDay_43 rfl ?_
      refine j_iconst hc (v := 0) dX5_passDay_44 (by decide) ?_
      refine j_istore_n hc dX5_passDay_45 rfl ?_
      refine j_lv [(0, .ref (ad 15)), (1, .int 0), (2, .int 0)] ⟨rfl, rfl, rfl, trivial⟩ ?_
      exact loop2 nm 0 0 _ _ (by omega) HF (by omega) rfl
    | succ k ih =>
      intro i S3 T3 hi H3 hT3 hd
      have hb : vp_in (nI i) 30 := vp_in_nI (by omega) (by decide)
      refine j_iload_n hc dX5_passDay_2 rfl ?_
      refine j_aload_n hc dX5_passDay_3 rfl ?_
      refine gf_X5_93 hc dX5_passDay_4 ?_
      refine j_icmp_ge hc 32 dX5_passDay_7 (by decide) (fun h7 => by exact absurd h7 (by rw [H3.2.1.1]; exact nI_ge (by omega) (by omega))) (fun h7 => ?_)
      refine j_aload_n hc dX5_passDay_10 rfl ?_
      refine gf_X5_32 hc dX5_passDay_11 ?_
      refine j_iload_n hc dX5_passDay_14 rfl ?_
      refine al_m12 hc hb dX5_passDay_15 ?_
      refine j_iconst hc (v := 1) dX5_passDay_16 (by decide) ?_
      refine j_icmp_ne hc 26 dX5_passDay_17 (by decide) (fun h17 => ?_) (fun h17 => ?_)
      · -- if_neg h17
        refine j_inc hc dX5_passDay_26 rfl (z := 1) (by decide) rfl ?_
        refine j_goto hc 2 dX5_passDay_29 (by decide) ?_
        refine j_lv [(0, .ref (ad 15)), (1, .int (nI i + 1))] ⟨rfl, rfl, trivial⟩ ?_
        rw [nI_1]
        exact ih (i + 1) _ (T3 + 2) (by omega) (mi_mono H3 (by omega) (by omega)) (by omega) (by rw [hd]; simp only [m_fut, if_neg h7, if_neg h17])
      · -- if_pos h17
        refine j_aload_n hc dX5_passDay_20 rfl ?_
        refine j_iload_n hc dX5_passDay_21 rfl ?_
        refine j_iconst hc (v := 4) dX5_passDay_22 (by decide) ?_
        refine j_callV hc ho (c_X5_fail hl H3 hb (by decide) (by decide) (by omega)) vc_X5_113 rfl ⟨rfl, rfl, by decide, by decide⟩ 15 rfl rfl rfl (Nat.le_of_ble_eq_true rfl) ⟨by decide, by decide⟩ dX5_passDay_23 ⟨by decide, by decide⟩ (fun _ h => by cases h) (fun hr23 => ?_)
        refine j_inc hc dX5_passDay_26 rfl (z := 1) (by decide) rfl ?_
        refine j_goto hc 2 dX5_passDay_29 (by decide) ?_
        refine j_lv [(0, .ref (ad 15)), (1, .int (nI i + 1))] ⟨rfl, rfl, trivial⟩ ?_
        rw [nI_1]
        exact ih (i + 1) _ (T3 + 2) (by omega) (mi_fail H3 (by omega) _ _) (by omega) (by rw [hd]; simp only [m_fut, if_neg h7, if_pos h17])
  refine j_iconst hc (v := 0) dX5_passDay_0 (by decide) ?_
  refine j_istore_n hc dX5_passDay_1 rfl ?_
  refine j_lv [(0, .ref (ad 15)), (1, .int 0)] ⟨rfl, rfl, trivial⟩ ?_
  exact loop1 nm 0 S T (by omega) H (by omega) rfl
set_option maxRecDepth 100000 in
set_option maxHeartbeats 4000000 in
theorem c_X5_pass {l : Launch} {D : va_G} {cs : Nat → ClassId} {sa : Nat → Nat} (hl : l.stackTraces = false)  {ad : Nat → Nat} {n : Nat} {E : ES} {S : MS} {o : Nat → Int64} {h nm : Nat} {Y T : Int} (H : MI h nm Y T S) (hY : Y + 60 ≤ 100000) (hT : T + 5400 ≤ 1000000000) {p0 : Int32} : CM l D cs sa yX5_pass cX5_pass 4 (Option.some Jvm.ClassFile.FieldType.int) (RM 6 0 0) 0 0 [.ref (ad 15), .int p0] (WD ad cs n E S o) (none, some (.int (m_pass nm S p0).1), WD ad cs n E (m_pass nm S p0).2 o) := by
  refine CM.of RX5 hl (by decide +kernel) rfl (Nat.le_of_ble_eq_true rfl) ?_
  intro p e s m args below meth c A hc ho hmn
  have loop : ¬ m_in p0 1 60 = 0 → ∀ (P : Nat), p0 = nI P → P ≤ 60 → ∀ (k i : Nat) (c0 : Int32) (S3 : MS) (Y3 T3 : Int), i + k = P → MI h nm Y3 T3 S3 → Y3 + k ≤ 100000 → T3 + 90 * k ≤ 1000000000 → S3.1 25 = 0 → m_days nm P 0 (mG S 25 0) = m_days nm k c0 S3 → J p l e (RM 6 0 0) s m args below meth c D A 4 0 0 (QE below args s D A 0 0 (WD ad cs n E S o) (none, some (.int (m_pass nm S p0).1), WD ad cs n E (m_pass nm S p0).2 o)) (WD ad cs n E S3 o) 23 [(0, .ref (ad 15)), (1, .int (nI P)), (2, .int c0), (3, .int (nI i))] [] := by
    intro h8 P hP hP60
    have hre : m_pass nm S p0 = m_days nm P 0 (mG S 25 0) := by rw [m_pass, if_neg h8, hP, nI_clamp (by omega)]
    intro k
    induction k with
    | zero =>
      intro i c0 S3 Y3 T3 hi H3 hY3 hT3 hth hd
      refine j_iload_n hc dX5_pass_23 rfl ?_
      refine j_iload_n hc dX5_pass_24 rfl ?_
      refine j_icmp_ge hc 48 dX5_pass_25 (by decide) (fun h25 => ?_) (fun h25 => by exact absurd h25 (fun z => z (nI_le (by omega) (by omega))))
      refine j_iload_n hc dX5_pass_48 rfl ?_
      exact j_iret hc rfl (by decide) (by decide) (by rw [hre, hd]; rfl) dX5_pass_49
    | succ k ih =>
      intro i c0 S3 Y3 T3 hi H3 hY3 hT3 hth hd
      refine j_iload_n hc dX5_pass_23 rfl ?_
      refine j_iload_n hc dX5_pass_24 rfl ?_
      refine j_icmp_ge hc 48 dX5_pass_25 (by decide) (fun h25 => by exact absurd h25 (nI_ge (by omega) (by omega))) (fun h25 => ?_)
      refine j_aload_n hc dX5_pass_28 rfl ?_
      refine gf_X5_70 hc dX5_pass_29 ?_
      refine j_if_ne hc 48 dX5_pass_32 (by decide) (fun h32 => by exact absurd hth h32) (fun h32 => ?_)
      refine j_iload_n hc dX5_pass_35 rfl ?_
      refine j_aload_n hc dX5_pass_36 rfl ?_
      refine j_callV hc ho (c_X5_passDay hl H3 (by omega) (by omega)) vc_X5_129 rfl ⟨rfl, rfl, by decide, by decide⟩ 15 rfl rfl rfl (Nat.le_of_ble_eq_true rfl) ⟨by decide, by decide⟩ dX5_pass_37 ⟨by decide, by decide⟩ (fun _ h => by cases h) (fun hr37 => ?_)
      refine j_iadd hc dX5_pass_40 ?_
      refine j_istore_n hc dX5_pass_41 rfl ?_
      refine j_inc hc dX5_pass_42 rfl (z := 1) (by decide) rfl ?_
      refine j_goto hc 23 dX5_pass_45 (by decide) ?_
      refine j_lv [(0, .ref (ad 15)), (1, .int (nI P)), (2, .int _), (3, .int (nI i + 1))] ⟨rfl, rfl, rfl, rfl, trivial⟩ ?_
      rw [nI_1]
      exact ih (i + 1) _ _ (Y3 + 1) (T3 + 90) (by omega) (mi_day H3 (by omega) (by omega)) (by omega) (by omega) (by rw [th_day]; exact hth) (by rw [hd]; rfl)
  refine j_aload_n hc dX5_pass_0 rfl ?_
  refine j_iload_n hc dX5_pass_1 rfl ?_
  refine j_iconst hc (v := 1) dX5_pass_2 (by decide) ?_
  refine j_bipush hc (v := 60) dX5_pass_3 (by decide) ?_
  refine j_callS hc ho (c_X5_in hl) sc_X5_83 rfl ⟨rfl, rfl, by decide, by decide⟩ rfl (Nat.le_of_ble_eq_true rfl) ⟨by decide, by decide⟩ dX5_pass_5 ⟨by decide, by decide⟩ (fun _ h => by cases h) (fun hr5 => ?_)
  refine j_if_eq hc 15 dX5_pass_8 (by decide) (fun h8 => ?_) (fun h8 => ?_)
  · -- if_pos h8
    refine j_iconst hc (v := 1) dX5_pass_15 (by decide) ?_
    refine pf_X5_70 hc dX5_pass_16 ?_
    refine j_iconst hc (v := 0) dX5_pass_19 (by decide) ?_
    refine j_istore_n hc dX5_pass_20 rfl ?_
    refine j_iconst hc (v := 0) dX5_pass_21 (by decide) ?_
    refine j_istore_n hc dX5_pass_22 rfl ?_
    refine j_iload_n hc dX5_pass_23 rfl ?_
    refine j_iload_n hc dX5_pass_24 rfl ?_
    refine j_icmp_ge hc 48 dX5_pass_25 (by decide) (fun h25 => ?_) (fun h25 => ?_)
    · -- if_pos h25
      refine j_iload_n hc dX5_pass_48 rfl ?_
      exact j_iret hc rfl (by decide) (by decide) (by simp only [m_pass, if_pos h8] <;> rfl) dX5_pass_49
    · -- if_neg h25
      refine j_aload_n hc dX5_pass_28 rfl ?_
      refine gf_X5_70 hc dX5_pass_29 ?_
      refine j_if_ne hc 48 dX5_pass_32 (by decide) (fun h32 => ?_) (fun h32 => by exact absurd (show (1 : Int32) = (0 : Int32) from h32) (by decide))
      refine j_iload_n hc dX5_pass_48 rfl ?_
      exact j_iret hc rfl (by decide) (by decide) (by simp only [m_pass, if_pos h8] <;> rfl) dX5_pass_49
  · -- if_neg h8
    refine j_iconst hc (v := 0) dX5_pass_11 (by decide) ?_
    refine j_goto hc 16 dX5_pass_12 (by decide) ?_
    refine pf_X5_70 hc dX5_pass_16 ?_
    refine j_iconst hc (v := 0) dX5_pass_19 (by decide) ?_
    refine j_istore_n hc dX5_pass_20 rfl ?_
    refine j_iconst hc (v := 0) dX5_pass_21 (by decide) ?_
    refine j_istore_n hc dX5_pass_22 rfl ?_
    obtain ⟨P, hP60, rfl⟩ : ∃ P : Nat, P ≤ 60 ∧ p0 = nI P := by
      have hh := in_none h8
      have e0 : (0 : Int32).toInt = 0 := by decide
      have e1 : (1 : Int32).toInt = 1 := by decide
      have e60 : (60 : Int32).toInt = 60 := by decide
      exact nI_of2 (n := 60) e60 (by rw [i32_lt]; omega) (by rw [i32_le]; omega)
    refine j_lv [(0, .ref (ad 15)), (1, .int (nI P)), (2, .int 0), (3, .int 0)] ⟨rfl, rfl, rfl, rfl, trivial⟩ ?_
    exact loop h8 P rfl hP60 P 0 0 _ Y T (by omega) (mi_G H 25 0 (by decide)) (by omega) (by omega) rfl rfl
set_option maxRecDepth 100000 in
set_option maxHeartbeats 4000000 in
theorem c_X5_service {l : Launch} {D : va_G} {cs : Nat → ClassId} {sa : Nat → Nat} (hl : l.stackTraces = false)  {ad : Nat → Nat} {n : Nat} {E : ES} {S : MS} {o : Nat → Int64} {h nm : Nat} {Y T : Int} (H : MI h nm Y T S) {x : Int32} : CM l D cs sa yX5_service cX5_service 7 (Option.some Jvm.ClassFile.FieldType.int) (RM 1 0 0) 0 0 [.ref (ad 15), .int x] (WD ad cs n E S o) (none, some (.int (m_service nm S x).1), WD ad cs n E (m_service nm S x).2 o) := by
  refine CM.of RX5 hl (by decide +kernel) rfl (Nat.le_of_ble_eq_true rfl) ?_
  intro p e s m args below meth c A hc ho hmn
  have hn30 := H.2.1.2
  have loop : ¬ m_in x 0 7 = 0 → ∀ (k i : Nat) (c0 : Int32), i + k = nm → m_svc (mG S 25 0) x nm 0 2 = m_svc (mG S 25 0) x k i c0 → J p l e (RM 1 0 0) s m args below meth c D A 7 0 0 (QE below args s D A 0 0 (WD ad cs n E S o) (none, some (.int (m_service nm S x).1), WD ad cs n E (m_service nm S x).2 o)) (WD ad cs n E (mG S 25 0) o) 23 [(0, .ref (ad 15)), (1, .int x), (2, .int c0), (3, .int (nI i))] [] := by
    intro h8 k
    induction k with
    | zero =>
      intro i c0 hi hd
      refine j_iload_n hc dX5_service_23 rfl ?_
      refine j_aload_n hc dX5_service_24 rfl ?_
      refine gf_X5_93 hc dX5_service_25 ?_
      refine j_icmp_ge hc 151 dX5_service_28 (by decide) (fun h28 => ?_) (fun h28 => by exact absurd h28 (fun z => z (show S.1 8 ≤ nI i by rw [H.2.1.1]; exact nI_le (by omega) (by omega))))
      refine j_aload_n hc dX5_service_151 rfl ?_
      refine gf_X5_70 hc dX5_service_152 ?_
      refine j_if_ne hc 162 dX5_service_155 (by decide) (fun h155 => by exact absurd (show ¬ (0 : Int32) = (0 : Int32) from h155) (by decide)) (fun h155 => ?_)
      refine j_iload_n hc dX5_service_158 rfl ?_
      refine j_goto hc 163 dX5_service_159 (by decide) ?_
      exact j_iret hc rfl (by decide) (by decide) (by rw [m_service, if_neg h8, hd]; rfl) dX5_service_163
    | succ k ih =>
      intro i c0 hi hd
      have hb : vp_in (nI i) 30 := vp_in_nI (by omega) (by decide)
      refine j_iload_n hc dX5_service_23 rfl ?_
      refine j_aload_n hc dX5_service_24 rfl ?_
      refine gf_X5_93 hc dX5_service_25 ?_
      refine j_icmp_ge hc 151 dX5_service_28 (by decide) (fun h28 => by exact absurd (show S.1 8 ≤ nI i from h28) (by rw [H.2.1.1]; exact nI_ge (by omega) (by omega))) (fun h28 => ?_)
      refine j_aload_n hc dX5_service_31 rfl ?_
      refine gf_X5_70 hc dX5_service_32 ?_
      refine j_if_ne hc 151 dX5_service_35 (by decide) (fun h35 => by exact absurd (show ¬ (0 : Int32) = (0 : Int32) from h35) (by decide)) (fun h35 => ?_)
      refine j_aload_n hc dX5_service_38 rfl ?_
      refine gf_X5_23 hc dX5_service_39 ?_
      refine j_iload_n hc dX5_service_42 rfl ?_
      refine al_m9 hc hb dX5_service_43 ?_
      refine j_iload_n hc dX5_service_44 rfl ?_
      refine j_icmp_ne hc 145 dX5_service_45 (by decide) (fun h45 => ?_) (fun h45 => ?_)
      · -- if_neg h45
        refine j_inc hc dX5_service_145 rfl (z := 1) (by decide) rfl ?_
        refine j_goto hc 23 dX5_service_148 (by decide) ?_
        refine j_lv [(0, .ref (ad 15)), (1, .int x), (2, .int _), (3, .int (nI i + 1))] ⟨rfl, rfl, rfl, rfl, trivial⟩ ?_
        rw [nI_1]
        exact ih (i + 1) _ (by omega) (by rw [hd]; simp only [m_svc, m_sw, if_neg h28, if_neg h45])
      · -- if_pos h45
        refine j_aload_n hc dX5_service_48 rfl ?_
        refine gf_X5_32 hc dX5_service_49 ?_
        refine j_iload_n hc dX5_service_52 rfl ?_
        refine al_m12 hc hb dX5_service_53 ?_
        refine j_iconst hc (v := 3) dX5_service_54 (by decide) ?_
        refine j_icmp_eq hc 68 dX5_service_55 (by decide) (fun h55 => ?_) (fun h55 => ?_)
        · -- if_pos h55
          refine j_iconst hc (v := 1) dX5_service_68 (by decide) ?_
          refine j_goto hc 73 dX5_service_69 (by decide) ?_
          refine j_istore hc dX5_service_73 rfl ?_
          refine j_aload_n hc dX5_service_75 rfl ?_
          refine gf_X5_32 hc dX5_service_76 ?_
          refine j_iload_n hc dX5_service_79 rfl ?_
          refine al_m12 hc hb dX5_service_80 ?_
          refine j_iconst hc (v := 2) dX5_service_81 (by decide) ?_
          refine j_icmp_eq hc 104 dX5_service_82 (by decide) (fun h82 => by exact absurd (h55.symm.trans h82) (by decide)) (fun h82 => ?_)
          refine j_aload_n hc dX5_service_85 rfl ?_
          refine gf_X5_32 hc dX5_service_86 ?_
          refine j_iload_n hc dX5_service_89 rfl ?_
          refine al_m12 hc hb dX5_service_90 ?_
          refine j_iconst hc (v := 4) dX5_service_91 (by decide) ?_
          refine j_icmp_ne hc 108 dX5_service_92 (by decide) (fun h92 => ?_) (fun h92 => ?_)
          · -- if_neg h92
            refine j_iconst hc (v := 0) dX5_service_108 (by decide) ?_
            refine j_istore hc dX5_service_109 rfl ?_
            refine j_iload hc dX5_service_111 rfl ?_
            refine j_if_eq hc 120 dX5_service_113 (by decide) (fun h113 => by exact absurd (show (1 : Int32) = (0 : Int32) from h113) (by decide)) (fun h113 => ?_)
            refine j_iconst hc (v := 0) dX5_service_116 (by decide) ?_
            refine j_goto hc 130 dX5_service_117 (by decide) ?_
            refine j_istore hc dX5_service_130 rfl ?_
            refine j_iload hc dX5_service_132 rfl ?_
            refine j_iload_n hc dX5_service_134 rfl ?_
            refine j_icmp_ge hc 143 dX5_service_135 (by decide) (fun h135 => ?_) (fun h135 => ?_)
            · -- if_pos h135
              refine j_iload_n hc dX5_service_143 rfl ?_
              refine j_istore_n hc dX5_service_144 rfl ?_
              refine j_inc hc dX5_service_145 rfl (z := 1) (by decide) rfl ?_
              refine j_goto hc 23 dX5_service_148 (by decide) ?_
              refine j_lv [(0, .ref (ad 15)), (1, .int x), (2, .int _), (3, .int (nI i + 1))] ⟨rfl, rfl, rfl, rfl, trivial⟩ ?_
              rw [nI_1]
              exact ih (i + 1) _ (by omega) (by rw [hd]; simp only [m_svc, m_sw, if_neg h28, if_pos h45, if_pos h55, if_neg h82, if_neg h92, if_pos h135])
            · -- if_neg h135
              refine j_iload hc dX5_service_138 rfl ?_
              refine j_goto hc 144 dX5_service_140 (by decide) ?_
              refine j_istore_n hc dX5_service_144 rfl ?_
              refine j_inc hc dX5_service_145 rfl (z := 1) (by decide) rfl ?_
              refine j_goto hc 23 dX5_service_148 (by decide) ?_
              refine j_lv [(0, .ref (ad 15)), (1, .int x), (2, .int _), (3, .int (nI i + 1))] ⟨rfl, rfl, rfl, rfl, trivial⟩ ?_
              rw [nI_1]
              exact ih (i + 1) _ (by omega) (by rw [hd]; simp only [m_svc, m_sw, if_neg h28, if_pos h45, if_pos h55, if_neg h82, if_neg h92, if_neg h135])
          · -- if_pos h92
            refine j_aload_n hc dX5_service_95 rfl ?_
            refine gf_X5_50 hc dX5_service_96 ?_
            refine j_iload_n hc dX5_service_99 rfl ?_
            refine al_m18 hc hb dX5_service_100 ?_
            refine j_if_eq hc 108 dX5_service_101 (by decide) (fun h101 => ?_) (fun h101 => ?_)
            · -- if_pos h101
              refine j_iconst hc (v := 0) dX5_service_108 (by decide) ?_
              refine j_istore hc dX5_service_109 rfl ?_
              refine j_iload hc dX5_service_111 rfl ?_
              refine j_if_eq hc 120 dX5_service_113 (by decide) (fun h113 => by exact absurd (show (1 : Int32) = (0 : Int32) from h113) (by decide)) (fun h113 => ?_)
              refine j_iconst hc (v := 0) dX5_service_116 (by decide) ?_
              refine j_goto hc 130 dX5_service_117 (by decide) ?_
              refine j_istore hc dX5_service_130 rfl ?_
              refine j_iload hc dX5_service_132 rfl ?_
              refine j_iload_n hc dX5_service_134 rfl ?_
              refine j_icmp_ge hc 143 dX5_service_135 (by decide) (fun h135 => ?_) (fun h135 => ?_)
              · -- if_pos h135
                refine j_iload_n hc dX5_service_143 rfl ?_
                refine j_istore_n hc dX5_service_144 rfl ?_
                refine j_inc hc dX5_service_145 rfl (z := 1) (by decide) rfl ?_
                refine j_goto hc 23 dX5_service_148 (by decide) ?_
                refine j_lv [(0, .ref (ad 15)), (1, .int x), (2, .int _), (3, .int (nI i + 1))] ⟨rfl, rfl, rfl, rfl, trivial⟩ ?_
                rw [nI_1]
                exact ih (i + 1) _ (by omega) (by rw [hd]; simp only [m_svc, m_sw, if_neg h28, if_pos h45, if_pos h55, if_neg h82, if_pos h92, if_pos h101, if_pos h135])
              · -- if_neg h135
                refine j_iload hc dX5_service_138 rfl ?_
                refine j_goto hc 144 dX5_service_140 (by decide) ?_
                refine j_istore_n hc dX5_service_144 rfl ?_
                refine j_inc hc dX5_service_145 rfl (z := 1) (by decide) rfl ?_
                refine j_goto hc 23 dX5_service_148 (by decide) ?_
                refine j_lv [(0, .ref (ad 15)), (1, .int x), (2, .int _), (3, .int (nI i + 1))] ⟨rfl, rfl, rfl, rfl, trivial⟩ ?_
                rw [nI_1]
                exact ih (i + 1) _ (by omega) (by rw [hd]; simp only [m_svc, m_sw, if_neg h28, if_pos h45, if_pos h55, if_neg h82, if_pos h92, if_pos h101, if_neg h135])
            · -- if_neg h101
              refine j_iconst hc (v := 1) dX5_service_104 (by decide) ?_
              refine j_goto hc 109 dX5_service_105 (by decide) ?_
              refine j_istore hc dX5_service_109 rfl ?_
              refine j_iload hc dX5_service_111 rfl ?_
              refine j_if_eq hc 120 dX5_service_113 (by decide) (fun h113 => by exact absurd (show (1 : Int32) = (0 : Int32) from h113) (by decide)) (fun h113 => ?_)
              refine j_iconst hc (v := 0) dX5_service_116 (by decide) ?_
              refine j_goto hc 130 dX5_service_117 (by decide) ?_
              refine j_istore hc dX5_service_130 rfl ?_
              refine j_iload hc dX5_service_132 rfl ?_
              refine j_iload_n hc dX5_service_134 rfl ?_
              refine j_icmp_ge hc 143 dX5_service_135 (by decide) (fun h135 => ?_) (fun h135 => ?_)
              · -- if_pos h135
                refine j_iload_n hc dX5_service_143 rfl ?_
                refine j_istore_n hc dX5_service_144 rfl ?_
                refine j_inc hc dX5_service_145 rfl (z := 1) (by decide) rfl ?_
                refine j_goto hc 23 dX5_service_148 (by decide) ?_
                refine j_lv [(0, .ref (ad 15)), (1, .int x), (2, .int _), (3, .int (nI i + 1))] ⟨rfl, rfl, rfl, rfl, trivial⟩ ?_
                rw [nI_1]
                exact ih (i + 1) _ (by omega) (by rw [hd]; simp only [m_svc, m_sw, if_neg h28, if_pos h45, if_pos h55, if_neg h82, if_pos h92, if_neg h101, if_pos h135])
              · -- if_neg h135
                refine j_iload hc dX5_service_138 rfl ?_
                refine j_goto hc 144 dX5_service_140 (by decide) ?_
                refine j_istore_n hc dX5_service_144 rfl ?_
                refine j_inc hc dX5_service_145 rfl (z := 1) (by decide) rfl ?_
                refine j_goto hc 23 dX5_service_148 (by decide) ?_
                refine j_lv [(0, .ref (ad 15)), (1, .int x), (2, .int _), (3, .int (nI i + 1))] ⟨rfl, rfl, rfl, rfl, trivial⟩ ?_
                rw [nI_1]
                exact ih (i + 1) _ (by omega) (by rw [hd]; simp only [m_svc, m_sw, if_neg h28, if_pos h45, if_pos h55, if_neg h82, if_pos h92, if_neg h101, if_neg h135])
        · -- if_neg h55
          refine j_aload_n hc dX5_service_58 rfl ?_
          refine gf_X5_32 hc dX5_service_59 ?_
          refine j_iload_n hc dX5_service_62 rfl ?_
          refine al_m12 hc hb dX5_service_63 ?_
          refine j_iconst hc (v := 5) dX5_service_64 (by decide) ?_
          refine j_icmp_ne hc 72 dX5_service_65 (by decide) (fun h65 => ?_) (fun h65 => ?_)
          · -- if_neg h65
            refine j_iconst hc (v := 0) dX5_service_72 (by decide) ?_
            refine j_istore hc dX5_service_73 rfl ?_
            refine j_aload_n hc dX5_service_75 rfl ?_
            refine gf_X5_32 hc dX5_service_76 ?_
            refine j_iload_n hc dX5_service_79 rfl ?_
            refine al_m12 hc hb dX5_service_80 ?_
            refine j_iconst hc (v := 2) dX5_service_81 (by decide) ?_
            refine j_icmp_eq hc 104 dX5_service_82 (by decide) (fun h82 => ?_) (fun h82 => ?_)
            · -- if_pos h82
              refine j_iconst hc (v := 1) dX5_service_104 (by decide) ?_
              refine j_goto hc 109 dX5_service_105 (by decide) ?_
              refine j_istore hc dX5_service_109 rfl ?_
              refine j_iload hc dX5_service_111 rfl ?_
              refine j_if_eq hc 120 dX5_service_113 (by decide) (fun h113 => ?_) (fun h113 => by exact absurd (show ¬ (0 : Int32) = (0 : Int32) from h113) (by decide))
              refine j_iload hc dX5_service_120 rfl ?_
              refine j_if_eq hc 129 dX5_service_122 (by decide) (fun h122 => by exact absurd (show (1 : Int32) = (0 : Int32) from h122) (by decide)) (fun h122 => ?_)
              refine j_iconst hc (v := 1) dX5_service_125 (by decide) ?_
              refine j_goto hc 130 dX5_service_126 (by decide) ?_
              refine j_istore hc dX5_service_130 rfl ?_
              refine j_iload hc dX5_service_132 rfl ?_
              refine j_iload_n hc dX5_service_134 rfl ?_
              refine j_icmp_ge hc 143 dX5_service_135 (by decide) (fun h135 => ?_) (fun h135 => ?_)
              · -- if_pos h135
                refine j_iload_n hc dX5_service_143 rfl ?_
                refine j_istore_n hc dX5_service_144 rfl ?_
                refine j_inc hc dX5_service_145 rfl (z := 1) (by decide) rfl ?_
                refine j_goto hc 23 dX5_service_148 (by decide) ?_
                refine j_lv [(0, .ref (ad 15)), (1, .int x), (2, .int _), (3, .int (nI i + 1))] ⟨rfl, rfl, rfl, rfl, trivial⟩ ?_
                rw [nI_1]
                exact ih (i + 1) _ (by omega) (by rw [hd]; simp only [m_svc, m_sw, if_neg h28, if_pos h45, if_neg h55, if_neg h65, if_pos h82, if_pos h135])
              · -- if_neg h135
                refine j_iload hc dX5_service_138 rfl ?_
                refine j_goto hc 144 dX5_service_140 (by decide) ?_
                refine j_istore_n hc dX5_service_144 rfl ?_
                refine j_inc hc dX5_service_145 rfl (z := 1) (by decide) rfl ?_
                refine j_goto hc 23 dX5_service_148 (by decide) ?_
                refine j_lv [(0, .ref (ad 15)), (1, .int x), (2, .int _), (3, .int (nI i + 1))] ⟨rfl, rfl, rfl, rfl, trivial⟩ ?_
                rw [nI_1]
                exact ih (i + 1) _ (by omega) (by rw [hd]; simp only [m_svc, m_sw, if_neg h28, if_pos h45, if_neg h55, if_neg h65, if_pos h82, if_neg h135])
            · -- if_neg h82
              refine j_aload_n hc dX5_service_85 rfl ?_
              refine gf_X5_32 hc dX5_service_86 ?_
              refine j_iload_n hc dX5_service_89 rfl ?_
              refine al_m12 hc hb dX5_service_90 ?_
              refine j_iconst hc (v := 4) dX5_service_91 (by decide) ?_
              refine j_icmp_ne hc 108 dX5_service_92 (by decide) (fun h92 => ?_) (fun h92 => ?_)
              · -- if_neg h92
                refine j_iconst hc (v := 0) dX5_service_108 (by decide) ?_
                refine j_istore hc dX5_service_109 rfl ?_
                refine j_iload hc dX5_service_111 rfl ?_
                refine j_if_eq hc 120 dX5_service_113 (by decide) (fun h113 => ?_) (fun h113 => by exact absurd (show ¬ (0 : Int32) = (0 : Int32) from h113) (by decide))
                refine j_iload hc dX5_service_120 rfl ?_
                refine j_if_eq hc 129 dX5_service_122 (by decide) (fun h122 => ?_) (fun h122 => by exact absurd (show ¬ (0 : Int32) = (0 : Int32) from h122) (by decide))
                refine j_iconst hc (v := 2) dX5_service_129 (by decide) ?_
                refine j_istore hc dX5_service_130 rfl ?_
                refine j_iload hc dX5_service_132 rfl ?_
                refine j_iload_n hc dX5_service_134 rfl ?_
                refine j_icmp_ge hc 143 dX5_service_135 (by decide) (fun h135 => ?_) (fun h135 => ?_)
                · -- if_pos h135
                  refine j_iload_n hc dX5_service_143 rfl ?_
                  refine j_istore_n hc dX5_service_144 rfl ?_
                  refine j_inc hc dX5_service_145 rfl (z := 1) (by decide) rfl ?_
                  refine j_goto hc 23 dX5_service_148 (by decide) ?_
                  refine j_lv [(0, .ref (ad 15)), (1, .int x), (2, .int _), (3, .int (nI i + 1))] ⟨rfl, rfl, rfl, rfl, trivial⟩ ?_
                  rw [nI_1]
                  exact ih (i + 1) _ (by omega) (by rw [hd]; simp only [m_svc, m_sw, if_neg h28, if_pos h45, if_neg h55, if_neg h65, if_neg h82, if_neg h92, if_pos h135])
                · -- if_neg h135
                  refine j_iload hc dX5_service_138 rfl ?_
                  refine j_goto hc 144 dX5_service_140 (by decide) ?_
                  refine j_istore_n hc dX5_service_144 rfl ?_
                  refine j_inc hc dX5_service_145 rfl (z := 1) (by decide) rfl ?_
                  refine j_goto hc 23 dX5_service_148 (by decide) ?_
                  refine j_lv [(0, .ref (ad 15)), (1, .int x), (2, .int _), (3, .int (nI i + 1))] ⟨rfl, rfl, rfl, rfl, trivial⟩ ?_
                  rw [nI_1]
                  exact ih (i + 1) _ (by omega) (by rw [hd]; simp only [m_svc, m_sw, if_neg h28, if_pos h45, if_neg h55, if_neg h65, if_neg h82, if_neg h92, if_neg h135])
              · -- if_pos h92
                refine j_aload_n hc dX5_service_95 rfl ?_
                refine gf_X5_50 hc dX5_service_96 ?_
                refine j_iload_n hc dX5_service_99 rfl ?_
                refine al_m18 hc hb dX5_service_100 ?_
                refine j_if_eq hc 108 dX5_service_101 (by decide) (fun h101 => ?_) (fun h101 => ?_)
                · -- if_pos h101
                  refine j_iconst hc (v := 0) dX5_service_108 (by decide) ?_
                  refine j_istore hc dX5_service_109 rfl ?_
                  refine j_iload hc dX5_service_111 rfl ?_
                  refine j_if_eq hc 120 dX5_service_113 (by decide) (fun h113 => ?_) (fun h113 => by exact absurd (show ¬ (0 : Int32) = (0 : Int32) from h113) (by decide))
                  refine j_iload hc dX5_service_120 rfl ?_
                  refine j_if_eq hc 129 dX5_service_122 (by decide) (fun h122 => ?_) (fun h122 => by exact absurd (show ¬ (0 : Int32) = (0 : Int32) from h122) (by decide))
                  refine j_iconst hc (v := 2) dX5_service_129 (by decide) ?_
                  refine j_istore hc dX5_service_130 rfl ?_
                  refine j_iload hc dX5_service_132 rfl ?_
                  refine j_iload_n hc dX5_service_134 rfl ?_
                  refine j_icmp_ge hc 143 dX5_service_135 (by decide) (fun h135 => ?_) (fun h135 => ?_)
                  · -- if_pos h135
                    refine j_iload_n hc dX5_service_143 rfl ?_
                    refine j_istore_n hc dX5_service_144 rfl ?_
                    refine j_inc hc dX5_service_145 rfl (z := 1) (by decide) rfl ?_
                    refine j_goto hc 23 dX5_service_148 (by decide) ?_
                    refine j_lv [(0, .ref (ad 15)), (1, .int x), (2, .int _), (3, .int (nI i + 1))] ⟨rfl, rfl, rfl, rfl, trivial⟩ ?_
                    rw [nI_1]
                    exact ih (i + 1) _ (by omega) (by rw [hd]; simp only [m_svc, m_sw, if_neg h28, if_pos h45, if_neg h55, if_neg h65, if_neg h82, if_pos h92, if_pos h101, if_pos h135])
                  · -- if_neg h135
                    refine j_iload hc dX5_service_138 rfl ?_
                    refine j_goto hc 144 dX5_service_140 (by decide) ?_
                    refine j_istore_n hc dX5_service_144 rfl ?_
                    refine j_inc hc dX5_service_145 rfl (z := 1) (by decide) rfl ?_
                    refine j_goto hc 23 dX5_service_148 (by decide) ?_
                    refine j_lv [(0, .ref (ad 15)), (1, .int x), (2, .int _), (3, .int (nI i + 1))] ⟨rfl, rfl, rfl, rfl, trivial⟩ ?_
                    rw [nI_1]
                    exact ih (i + 1) _ (by omega) (by rw [hd]; simp only [m_svc, m_sw, if_neg h28, if_pos h45, if_neg h55, if_neg h65, if_neg h82, if_pos h92, if_pos h101, if_neg h135])
                · -- if_neg h101
                  refine j_iconst hc (v := 1) dX5_service_104 (by decide) ?_
                  refine j_goto hc 109 dX5_service_105 (by decide) ?_
                  refine j_istore hc dX5_service_109 rfl ?_
                  refine j_iload hc dX5_service_111 rfl ?_
                  refine j_if_eq hc 120 dX5_service_113 (by decide) (fun h113 => ?_) (fun h113 => by exact absurd (show ¬ (0 : Int32) = (0 : Int32) from h113) (by decide))
                  refine j_iload hc dX5_service_120 rfl ?_
                  refine j_if_eq hc 129 dX5_service_122 (by decide) (fun h122 => by exact absurd (show (1 : Int32) = (0 : Int32) from h122) (by decide)) (fun h122 => ?_)
                  refine j_iconst hc (v := 1) dX5_service_125 (by decide) ?_
                  refine j_goto hc 130 dX5_service_126 (by decide) ?_
                  refine j_istore hc dX5_service_130 rfl ?_
                  refine j_iload hc dX5_service_132 rfl ?_
                  refine j_iload_n hc dX5_service_134 rfl ?_
                  refine j_icmp_ge hc 143 dX5_service_135 (by decide) (fun h135 => ?_) (fun h135 => ?_)
                  · -- if_pos h135
                    refine j_iload_n hc dX5_service_143 rfl ?_
                    refine j_istore_n hc dX5_service_144 rfl ?_
                    refine j_inc hc dX5_service_145 rfl (z := 1) (by decide) rfl ?_
                    refine j_goto hc 23 dX5_service_148 (by decide) ?_
                    refine j_lv [(0, .ref (ad 15)), (1, .int x), (2, .int _), (3, .int (nI i + 1))] ⟨rfl, rfl, rfl, rfl, trivial⟩ ?_
                    rw [nI_1]
                    exact ih (i + 1) _ (by omega) (by rw [hd]; simp only [m_svc, m_sw, if_neg h28, if_pos h45, if_neg h55, if_neg h65, if_neg h82, if_pos h92, if_neg h101, if_pos h135])
                  · -- if_neg h135
                    refine j_iload hc dX5_service_138 rfl ?_
                    refine j_goto hc 144 dX5_service_140 (by decide) ?_
                    refine j_istore_n hc dX5_service_144 rfl ?_
                    refine j_inc hc dX5_service_145 rfl (z := 1) (by decide) rfl ?_
                    refine j_goto hc 23 dX5_service_148 (by decide) ?_
                    refine j_lv [(0, .ref (ad 15)), (1, .int x), (2, .int _), (3, .int (nI i + 1))] ⟨rfl, rfl, rfl, rfl, trivial⟩ ?_
                    rw [nI_1]
                    exact ih (i + 1) _ (by omega) (by rw [hd]; simp only [m_svc, m_sw, if_neg h28, if_pos h45, if_neg h55, if_neg h65, if_neg h82, if_pos h92, if_neg h101, if_neg h135])
          · -- if_pos h65
            refine j_iconst hc (v := 1) dX5_service_68 (by decide) ?_
            refine j_goto hc 73 dX5_service_69 (by decide) ?_
            refine j_istore hc dX5_service_73 rfl ?_
            refine j_aload_n hc dX5_service_75 rfl ?_
            refine gf_X5_32 hc dX5_service_76 ?_
            refine j_iload_n hc dX5_service_79 rfl ?_
            refine al_m12 hc hb dX5_service_80 ?_
            refine j_iconst hc (v := 2) dX5_service_81 (by decide) ?_
            refine j_icmp_eq hc 104 dX5_service_82 (by decide) (fun h82 => by exact absurd (h65.symm.trans h82) (by decide)) (fun h82 => ?_)
            refine j_aload_n hc dX5_service_85 rfl ?_
            refine gf_X5_32 hc dX5_service_86 ?_
            refine j_iload_n hc dX5_service_89 rfl ?_
            refine al_m12 hc hb dX5_service_90 ?_
            refine j_iconst hc (v := 4) dX5_service_91 (by decide) ?_
            refine j_icmp_ne hc 108 dX5_service_92 (by decide) (fun h92 => ?_) (fun h92 => ?_)
            · -- if_neg h92
              refine j_iconst hc (v := 0) dX5_service_108 (by decide) ?_
              refine j_istore hc dX5_service_109 rfl ?_
              refine j_iload hc dX5_service_111 rfl ?_
              refine j_if_eq hc 120 dX5_service_113 (by decide) (fun h113 => by exact absurd (show (1 : Int32) = (0 : Int32) from h113) (by decide)) (fun h113 => ?_)
              refine j_iconst hc (v := 0) dX5_service_116 (by decide) ?_
              refine j_goto hc 130 dX5_service_117 (by decide) ?_
              refine j_istore hc dX5_service_130 rfl ?_
              refine j_iload hc dX5_service_132 rfl ?_
              refine j_iload_n hc dX5_service_134 rfl ?_
              refine j_icmp_ge hc 143 dX5_service_135 (by decide) (fun h135 => ?_) (fun h135 => ?_)
              · -- if_pos h135
                refine j_iload_n hc dX5_service_143 rfl ?_
                refine j_istore_n hc dX5_service_144 rfl ?_
                refine j_inc hc dX5_service_145 rfl (z := 1) (by decide) rfl ?_
                refine j_goto hc 23 dX5_service_148 (by decide) ?_
                refine j_lv [(0, .ref (ad 15)), (1, .int x), (2, .int _), (3, .int (nI i + 1))] ⟨rfl, rfl, rfl, rfl, trivial⟩ ?_
                rw [nI_1]
                exact ih (i + 1) _ (by omega) (by rw [hd]; simp only [m_svc, m_sw, if_neg h28, if_pos h45, if_neg h55, if_pos h65, if_neg h82, if_neg h92, if_pos h135])
              · -- if_neg h135
                refine j_iload hc dX5_service_138 rfl ?_
                refine j_goto hc 144 dX5_service_140 (by decide) ?_
                refine j_istore_n hc dX5_service_144 rfl ?_
                refine j_inc hc dX5_service_145 rfl (z := 1) (by decide) rfl ?_
                refine j_goto hc 23 dX5_service_148 (by decide) ?_
                refine j_lv [(0, .ref (ad 15)), (1, .int x), (2, .int _), (3, .int (nI i + 1))] ⟨rfl, rfl, rfl, rfl, trivial⟩ ?_
                rw [nI_1]
                exact ih (i + 1) _ (by omega) (by rw [hd]; simp only [m_svc, m_sw, if_neg h28, if_pos h45, if_neg h55, if_pos h65, if_neg h82, if_neg h92, if_neg h135])
            · -- if_pos h92
              refine j_aload_n hc dX5_service_95 rfl ?_
              refine gf_X5_50 hc dX5_service_96 ?_
              refine j_iload_n hc dX5_service_99 rfl ?_
              refine al_m18 hc hb dX5_service_100 ?_
              refine j_if_eq hc 108 dX5_service_101 (by decide) (fun h101 => ?_) (fun h101 => ?_)
              · -- if_pos h101
                refine j_iconst hc (v := 0) dX5_service_108 (by decide) ?_
                refine j_istore hc dX5_service_109 rfl ?_
                refine j_iload hc dX5_service_111 rfl ?_
                refine j_if_eq hc 120 dX5_service_113 (by decide) (fun h113 => by exact absurd (show (1 : Int32) = (0 : Int32) from h113) (by decide)) (fun h113 => ?_)
                refine j_iconst hc (v := 0) dX5_service_116 (by decide) ?_
                refine j_goto hc 130 dX5_service_117 (by decide) ?_
                refine j_istore hc dX5_service_130 rfl ?_
                refine j_iload hc dX5_service_132 rfl ?_
                refine j_iload_n hc dX5_service_134 rfl ?_
                refine j_icmp_ge hc 143 dX5_service_135 (by decide) (fun h135 => ?_) (fun h135 => ?_)
                · -- if_pos h135
                  refine j_iload_n hc dX5_service_143 rfl ?_
                  refine j_istore_n hc dX5_service_144 rfl ?_
                  refine j_inc hc dX5_service_145 rfl (z := 1) (by decide) rfl ?_
                  refine j_goto hc 23 dX5_service_148 (by decide) ?_
                  refine j_lv [(0, .ref (ad 15)), (1, .int x), (2, .int _), (3, .int (nI i + 1))] ⟨rfl, rfl, rfl, rfl, trivial⟩ ?_
                  rw [nI_1]
                  exact ih (i + 1) _ (by omega) (by rw [hd]; simp only [m_svc, m_sw, if_neg h28, if_pos h45, if_neg h55, if_pos h65, if_neg h82, if_pos h92, if_pos h101, if_pos h135])
                · -- if_neg h135
                  refine j_iload hc dX5_service_138 rfl ?_
                  refine j_goto hc 144 dX5_service_140 (by decide) ?_
                  refine j_istore_n hc dX5_service_144 rfl ?_
                  refine j_inc hc dX5_service_145 rfl (z := 1) (by decide) rfl ?_
                  refine j_goto hc 23 dX5_service_148 (by decide) ?_
                  refine j_lv [(0, .ref (ad 15)), (1, .int x), (2, .int _), (3, .int (nI i + 1))] ⟨rfl, rfl, rfl, rfl, trivial⟩ ?_
                  rw [nI_1]
                  exact ih (i + 1) _ (by omega) (by rw [hd]; simp only [m_svc, m_sw, if_neg h28, if_pos h45, if_neg h55, if_pos h65, if_neg h82, if_pos h92, if_pos h101, if_neg h135])
              · -- if_neg h101
                refine j_iconst hc (v := 1) dX5_service_104 (by decide) ?_
                refine j_goto hc 109 dX5_service_105 (by decide) ?_
                refine j_istore hc dX5_service_109 rfl ?_
                refine j_iload hc dX5_service_111 rfl ?_
                refine j_if_eq hc 120 dX5_service_113 (by decide) (fun h113 => by exact absurd (show (1 : Int32) = (0 : Int32) from h113) (by decide)) (fun h113 => ?_)
                refine j_iconst hc (v := 0) dX5_service_116 (by decide) ?_
                refine j_goto hc 130 dX5_service_117 (by decide) ?_
                refine j_istore hc dX5_service_130 rfl ?_
                refine j_iload hc dX5_service_132 rfl ?_
                refine j_iload_n hc dX5_service_134 rfl ?_
                refine j_icmp_ge hc 143 dX5_service_135 (by decide) (fun h135 => ?_) (fun h135 => ?_)
                · -- if_pos h135
                  refine j_iload_n hc dX5_service_143 rfl ?_
                  refine j_istore_n hc dX5_service_144 rfl ?_
                  refine j_inc hc dX5_service_145 rfl (z := 1) (by decide) rfl ?_
                  refine j_goto hc 23 dX5_service_148 (by decide) ?_
                  refine j_lv [(0, .ref (ad 15)), (1, .int x), (2, .int _), (3, .int (nI i + 1))] ⟨rfl, rfl, rfl, rfl, trivial⟩ ?_
                  rw [nI_1]
                  exact ih (i + 1) _ (by omega) (by rw [hd]; simp only [m_svc, m_sw, if_neg h28, if_pos h45, if_neg h55, if_pos h65, if_neg h82, if_pos h92, if_neg h101, if_pos h135])
                · -- if_neg h135
                  refine j_iload hc dX5_service_138 rfl ?_
                  refine j_goto hc 144 dX5_service_140 (by decide) ?_
                  refine j_istore_n hc dX5_service_144 rfl ?_
                  refine j_inc hc dX5_service_145 rfl (z := 1) (by decide) rfl ?_
                  refine j_goto hc 23 dX5_service_148 (by decide) ?_
                  refine j_lv [(0, .ref (ad 15)), (1, .int x), (2, .int _), (3, .int (nI i + 1))] ⟨rfl, rfl, rfl, rfl, trivial⟩ ?_
                  rw [nI_1]
                  exact ih (i + 1) _ (by omega) (by rw [hd]; simp only [m_svc, m_sw, if_neg h28, if_pos h45, if_neg h55, if_pos h65, if_neg h82, if_pos h92, if_neg h101, if_neg h135])
  refine j_aload_n hc dX5_service_0 rfl ?_
  refine j_iload_n hc dX5_service_1 rfl ?_
  refine j_iconst hc (v := 0) dX5_service_2 (by decide) ?_
  refine j_bipush hc (v := 7) dX5_service_3 (by decide) ?_
  refine j_callS hc ho (c_X5_in hl) sc_X5_83 rfl ⟨rfl, rfl, by decide, by decide⟩ rfl (Nat.le_of_ble_eq_true rfl) ⟨by decide, by decide⟩ dX5_service_5 ⟨by decide, by decide⟩ (fun _ h => by cases h) (fun hr5 => ?_)
  refine j_if_eq hc 15 dX5_service_8 (by decide) (fun h8 => ?_) (fun h8 => ?_)
  · -- if_pos h8
    refine j_iconst hc (v := 1) dX5_service_15 (by decide) ?_
    refine pf_X5_70 hc dX5_service_16 ?_
    refine j_iconst hc (v := 2) dX5_service_19 (by decide) ?_
    refine j_istore_n hc dX5_service_20 rfl ?_
    refine j_iconst hc (v := 0) dX5_service_21 (by decide) ?_
    refine j_istore_n hc dX5_service_22 rfl ?_
    refine j_iload_n hc dX5_service_23 rfl ?_
    refine j_aload_n hc dX5_service_24 rfl ?_
    refine gf_X5_93 hc dX5_service_25 ?_
    refine j_icmp_ge hc 151 dX5_service_28 (by decide) (fun h28 => ?_) (fun h28 => ?_)
    · -- if_pos h28
      refine j_aload_n hc dX5_service_151 rfl ?_
      refine gf_X5_70 hc dX5_service_152 ?_
      refine j_if_ne hc 162 dX5_service_155 (by decide) (fun h155 => ?_) (fun h155 => by exact absurd (show (1 : Int32) = (0 : Int32) from h155) (by decide))
      refine j_iconst hc (v := 0) dX5_service_162 (by decide) ?_
      exact j_iret hc rfl (by decide) (by decide) (by simp only [m_service, if_pos h8] <;> rfl) dX5_service_163
    · -- if_neg h28
      refine j_aload_n hc dX5_service_31 rfl ?_
      refine gf_X5_70 hc dX5_service_32 ?_
      refine j_if_ne hc 151 dX5_service_35 (by decide) (fun h35 => ?_) (fun h35 => by exact absurd (show (1 : Int32) = (0 : Int32) from h35) (by decide))
      refine j_aload_n hc dX5_service_151 rfl ?_
      refine gf_X5_70 hc dX5_service_152 ?_
      refine j_if_ne hc 162 dX5_service_155 (by decide) (fun h155 => ?_) (fun h155 => by exact absurd (show (1 : Int32) = (0 : Int32) from h155) (by decide))
      refine j_iconst hc (v := 0) dX5_service_162 (by decide) ?_
      exact j_iret hc rfl (by decide) (by decide) (by simp only [m_service, if_pos h8] <;> rfl) dX5_service_163
  · -- if_neg h8
    refine j_iconst hc (v := 0) dX5_service_11 (by decide) ?_
    refine j_goto hc 16 dX5_service_12 (by decide) ?_
    refine pf_X5_70 hc dX5_service_16 ?_
    refine j_iconst hc (v := 2) dX5_service_19 (by decide) ?_
    refine j_istore_n hc dX5_service_20 rfl ?_
    refine j_iconst hc (v := 0) dX5_service_21 (by decide) ?_
    refine j_istore_n hc dX5_service_22 rfl ?_
    refine j_lv [(0, .ref (ad 15)), (1, .int x), (2, .int 2), (3, .int 0)] ⟨rfl, rfl, rfl, rfl, trivial⟩ ?_
    exact loop h8 nm 0 2 (by omega) rfl
set_option maxRecDepth 100000 in
set_option maxHeartbeats 4000000 in
theorem c_X5_billed {l : Launch} {D : va_G} {cs : Nat → ClassId} {sa : Nat → Nat} (hl : l.stackTraces = false)  {ad : Nat → Nat} {n : Nat} {E : ES} {S : MS} {o : Nat → Int64} {h nm : Nat} {Y T : Int} (H : MI h nm Y T S) : CM l D cs sa yX5_billed cX5_billed 3 (Option.some Jvm.ClassFile.FieldType.int) (RM 1 0 0) 0 0 [.ref (ad 15)] (WD ad cs n E S o) (none, some (.int (m_bl (mG S 25 0) nm 0 0)), WD ad cs n E (mG S 25 0) o) := by
  refine CM.of RX5 hl (by decide +kernel) rfl (Nat.le_of_ble_eq_true rfl) ?_
  intro p e s m args below meth c A hc ho hmn
  have hn30 := H.2.1.2
  have loop : ∀ (k i : Nat) (c0 : Int32), i + k = nm → m_bl (mG S 25 0) nm 0 0 = m_bl (mG S 25 0) k i c0 → J p l e (RM 1 0 0) s m args below meth c D A 3 0 0 (QE below args s D A 0 0 (WD ad cs n E S o) (none, some (.int (m_bl (mG S 25 0) nm 0 0)), WD ad cs n E (mG S 25 0) o)) (WD ad cs n E (mG S 25 0) o) 9 [(0, .ref (ad 15)), (1, .int c0), (2, .int (nI i))] [] := by
    intro k
    induction k with
    | zero =>
      intro i c0 hi hd
      refine j_iload_n hc dX5_billed_9 rfl ?_
      refine j_aload_n hc dX5_billed_10 rfl ?_
      refine gf_X5_93 hc dX5_billed_11 ?_
      refine j_icmp_ge hc 32 dX5_billed_14 (by decide) (fun h14 => ?_) (fun h14 => by exact absurd h14 (fun z => z (show S.1 8 ≤ nI i by rw [H.2.1.1]; exact nI_le (by omega) (by omega))))
      refine j_iload_n hc dX5_billed_32 rfl ?_
      exact j_iret hc rfl (by decide) (by decide) (by rw [hd]; rfl) dX5_billed_33
    | succ k ih =>
      intro i c0 hi hd
      have hb : vp_in (nI i) 30 := vp_in_nI (by omega) (by decide)
      refine j_iload_n hc dX5_billed_9 rfl ?_
      refine j_aload_n hc dX5_billed_10 rfl ?_
      refine gf_X5_93 hc dX5_billed_11 ?_
      refine j_icmp_ge hc 32 dX5_billed_14 (by decide) (fun h14 => by exact absurd (show S.1 8 ≤ nI i from h14) (by rw [H.2.1.1]; exact nI_ge (by omega) (by omega))) (fun h14 => ?_)
      refine j_iload_n hc dX5_billed_17 rfl ?_
      refine j_aload_n hc dX5_billed_18 rfl ?_
      refine gf_X5_26 hc dX5_billed_19 ?_
      refine j_iload_n hc dX5_billed_22 rfl ?_
      refine al_m10 hc hb dX5_billed_23 ?_
      refine j_iadd hc dX5_billed_24 ?_
      refine j_istore_n hc dX5_billed_25 rfl ?_
      refine j_inc hc dX5_billed_26 rfl (z := 1) (by decide) rfl ?_
      refine j_goto hc 9 dX5_billed_29 (by decide) ?_
      refine j_lv [(0, .ref (ad 15)), (1, .int _), (2, .int (nI i + 1))] ⟨rfl, rfl, rfl, trivial⟩ ?_
      rw [nI_1]
      exact ih (i + 1) _ (by omega) (by rw [hd]; rfl)
  refine j_aload_n hc dX5_billed_0 rfl ?_
  refine j_iconst hc (v := 0) dX5_billed_1 (by decide) ?_
  refine pf_X5_70 hc dX5_billed_2 ?_
  refine j_iconst hc (v := 0) dX5_billed_5 (by decide) ?_
  refine j_istore_n hc dX5_billed_6 rfl ?_
  refine j_iconst hc (v := 0) dX5_billed_7 (by decide) ?_
  refine j_istore_n hc dX5_billed_8 rfl ?_
  refine j_lv [(0, .ref (ad 15)), (1, .int 0), (2, .int 0)] ⟨rfl, rfl, rfl, trivial⟩ ?_
  exact loop nm 0 0 (by omega) rfl
set_option maxRecDepth 100000 in
set_option maxHeartbeats 4000000 in
theorem c_X5_leftIn {l : Launch} {D : va_G} {cs : Nat → ClassId} {sa : Nat → Nat} (hl : l.stackTraces = false)  {ad : Nat → Nat} {n : Nat} {E : ES} {S : MS} {o : Nat → Int64} {h nm : Nat} {Y T : Int} (H : MI h nm Y T S) {x y : Int32} : CM l D cs sa yX5_leftIn cX5_leftIn 5 (Option.some Jvm.ClassFile.FieldType.int) (RM 1 0 0) 0 0 [.ref (ad 15), .int x, .int y] (WD ad cs n E S o) (none, some (.int (m_leftIn nm S x y).1), WD ad cs n E (m_leftIn nm S x y).2 o) := by
  refine CM.of RX5 hl (by decide +kernel) rfl (Nat.le_of_ble_eq_true rfl) ?_
  intro p e s m args below meth c A hc ho hmn
  have hn30 := H.2.1.2
  have loop : ¬ m_in x 0 7 = 0 → ¬ m_in y 0 6 = 0 → ∀ (k i : Nat) (c0 : Int32), i + k = nm → m_lin (mG S 25 0) x y nm 0 0 = m_lin (mG S 25 0) x y k i c0 → J p l e (RM 1 0 0) s m args below meth c D A 5 0 0 (QE below args s D A 0 0 (WD ad cs n E S o) (none, some (.int (m_leftIn nm S x y).1), WD ad cs n E (m_leftIn nm S x y).2 o)) (WD ad cs n E (mG S 25 0) o) 38 [(0, .ref (ad 15)), (1, .int x), (2, .int y), (3, .int c0), (4, .int (nI i))] [] := by
    intro h8 h22 k
    induction k with
    | zero =>
      intro i c0 hi hd
      refine j_iload hc dX5_leftIn_38 rfl ?_
      refine j_aload_n hc dX5_leftIn_40 rfl ?_
      refine gf_X5_93 hc dX5_leftIn_41 ?_
      refine j_icmp_ge hc 96 dX5_leftIn_44 (by decide) (fun h44 => ?_) (fun h44 => by exact absurd h44 (fun z => z (show S.1 8 ≤ nI i by rw [H.2.1.1]; exact nI_le (by omega) (by omega))))
      refine j_iload_n hc dX5_leftIn_96 rfl ?_
      exact j_iret hc rfl (by decide) (by decide) (by rw [m_leftIn, if_neg h8, if_neg h22, hd]; rfl) dX5_leftIn_97
    | succ k ih =>
      intro i c0 hi hd
      have hb : vp_in (nI i) 30 := vp_in_nI (by omega) (by decide)
      refine j_iload hc dX5_leftIn_38 rfl ?_
      refine j_aload_n hc dX5_leftIn_40 rfl ?_
      refine gf_X5_93 hc dX5_leftIn_41 ?_
      refine j_icmp_ge hc 96 dX5_leftIn_44 (by decide) (fun h44 => by exact absurd (show S.1 8 ≤ nI i from h44) (by rw [H.2.1.1]; exact nI_ge (by omega) (by omega))) (fun h44 => ?_)
      refine j_aload_n hc dX5_leftIn_47 rfl ?_
      refine gf_X5_70 hc dX5_leftIn_48 ?_
      refine j_if_ne hc 96 dX5_leftIn_51 (by decide) (fun h51 => by exact absurd (show ¬ (0 : Int32) = (0 : Int32) from h51) (by decide)) (fun h51 => ?_)
      refine j_iload_n hc dX5_leftIn_54 rfl ?_
      refine j_aload_n hc dX5_leftIn_55 rfl ?_
      refine gf_X5_23 hc dX5_leftIn_56 ?_
      refine j_iload hc dX5_leftIn_59 rfl ?_
      refine al_m9 hc hb dX5_leftIn_61 ?_
      refine j_iload_n hc dX5_leftIn_62 rfl ?_
      refine j_icmp_ne hc 87 dX5_leftIn_63 (by decide) (fun h63 => ?_) (fun h63 => ?_)
      · -- if_neg h63
        refine j_iconst hc (v := 0) dX5_leftIn_87 (by decide) ?_
        refine j_iadd hc dX5_leftIn_88 ?_
        refine j_istore_n hc dX5_leftIn_89 rfl ?_
        refine j_inc hc dX5_leftIn_90 rfl (z := 1) (by decide) rfl ?_
        refine j_goto hc 38 dX5_leftIn_93 (by decide) ?_
        refine j_lv [(0, .ref (ad 15)), (1, .int x), (2, .int y), (3, .int _), (4, .int (nI i + 1))] ⟨rfl, rfl, rfl, rfl, rfl, trivial⟩ ?_
        rw [nI_1]
        exact ih (i + 1) _ (by omega) (by rw [hd]; simp only [m_lin, if_neg h44, if_neg h63])
      · -- if_pos h63
        refine j_aload_n hc dX5_leftIn_66 rfl ?_
        refine gf_X5_32 hc dX5_leftIn_67 ?_
        refine j_iload hc dX5_leftIn_70 rfl ?_
        refine al_m12 hc hb dX5_leftIn_72 ?_
        refine j_iload_n hc dX5_leftIn_73 rfl ?_
        refine j_icmp_ne hc 87 dX5_leftIn_74 (by decide) (fun h74 => ?_) (fun h74 => ?_)
        · -- if_neg h74
          refine j_iconst hc (v := 0) dX5_leftIn_87 (by decide) ?_
          refine j_iadd hc dX5_leftIn_88 ?_
          refine j_istore_n hc dX5_leftIn_89 rfl ?_
          refine j_inc hc dX5_leftIn_90 rfl (z := 1) (by decide) rfl ?_
          refine j_goto hc 38 dX5_leftIn_93 (by decide) ?_
          refine j_lv [(0, .ref (ad 15)), (1, .int x), (2, .int y), (3, .int _), (4, .int (nI i + 1))] ⟨rfl, rfl, rfl, rfl, rfl, trivial⟩ ?_
          rw [nI_1]
          exact ih (i + 1) _ (by omega) (by rw [hd]; simp only [m_lin, if_neg h44, if_pos h63, if_neg h74])
        · -- if_pos h74
          refine j_aload_n hc dX5_leftIn_77 rfl ?_
          refine gf_X5_29 hc dX5_leftIn_78 ?_
          refine j_iload hc dX5_leftIn_81 rfl ?_
          refine al_m11 hc hb dX5_leftIn_83 ?_
          refine j_goto hc 88 dX5_leftIn_84 (by decide) ?_
          refine j_iadd hc dX5_leftIn_88 ?_
          refine j_istore_n hc dX5_leftIn_89 rfl ?_
          refine j_inc hc dX5_leftIn_90 rfl (z := 1) (by decide) rfl ?_
          refine j_goto hc 38 dX5_leftIn_93 (by decide) ?_
          refine j_lv [(0, .ref (ad 15)), (1, .int x), (2, .int y), (3, .int _), (4, .int (nI i + 1))] ⟨rfl, rfl, rfl, rfl, rfl, trivial⟩ ?_
          rw [nI_1]
          exact ih (i + 1) _ (by omega) (by rw [hd]; simp only [m_lin, if_neg h44, if_pos h63, if_pos h74])
  refine j_aload_n hc dX5_leftIn_0 rfl ?_
  refine j_iload_n hc dX5_leftIn_1 rfl ?_
  refine j_iconst hc (v := 0) dX5_leftIn_2 (by decide) ?_
  refine j_bipush hc (v := 7) dX5_leftIn_3 (by decide) ?_
  refine j_callS hc ho (c_X5_in hl) sc_X5_83 rfl ⟨rfl, rfl, by decide, by decide⟩ rfl (Nat.le_of_ble_eq_true rfl) ⟨by decide, by decide⟩ dX5_leftIn_5 ⟨by decide, by decide⟩ (fun _ h => by cases h) (fun hr5 => ?_)
  refine j_if_ne hc 15 dX5_leftIn_8 (by decide) (fun h8 => ?_) (fun h8 => ?_)
  · -- if_neg h8
    refine j_iload_n hc dX5_leftIn_15 rfl ?_
    refine j_iconst hc (v := 0) dX5_leftIn_16 (by decide) ?_
    refine j_bipush hc (v := 6) dX5_leftIn_17 (by decide) ?_
    refine j_callS hc ho (c_X5_in hl) sc_X5_83 rfl ⟨rfl, rfl, by decide, by decide⟩ rfl (Nat.le_of_ble_eq_true rfl) ⟨by decide, by decide⟩ dX5_leftIn_19 ⟨by decide, by decide⟩ (fun _ h => by cases h) (fun hr19 => ?_)
    refine j_if_ne hc 29 dX5_leftIn_22 (by decide) (fun h22 => ?_) (fun h22 => ?_)
    · -- if_neg h22
      refine j_iconst hc (v := 0) dX5_leftIn_29 (by decide) ?_
      refine pf_X5_70 hc dX5_leftIn_30 ?_
      refine j_iconst hc (v := 0) dX5_leftIn_33 (by decide) ?_
      refine j_istore_n hc dX5_leftIn_34 rfl ?_
      refine j_iconst hc (v := 0) dX5_leftIn_35 (by decide) ?_
      refine j_istore hc dX5_leftIn_36 rfl ?_
      refine j_lv [(0, .ref (ad 15)), (1, .int x), (2, .int y), (3, .int 0), (4, .int 0)] ⟨rfl, rfl, rfl, rfl, rfl, trivial⟩ ?_
      exact loop h8 h22 nm 0 0 (by omega) rfl
    · -- if_pos h22
      refine j_iconst hc (v := 2) dX5_leftIn_25 (by decide) ?_
      refine j_goto hc 30 dX5_leftIn_26 (by decide) ?_
      refine pf_X5_70 hc dX5_leftIn_30 ?_
      refine j_iconst hc (v := 0) dX5_leftIn_33 (by decide) ?_
      refine j_istore_n hc dX5_leftIn_34 rfl ?_
      refine j_iconst hc (v := 0) dX5_leftIn_35 (by decide) ?_
      refine j_istore hc dX5_leftIn_36 rfl ?_
      refine j_iload hc dX5_leftIn_38 rfl ?_
      refine j_aload_n hc dX5_leftIn_40 rfl ?_
      refine gf_X5_93 hc dX5_leftIn_41 ?_
      refine j_icmp_ge hc 96 dX5_leftIn_44 (by decide) (fun h44 => ?_) (fun h44 => ?_)
      · -- if_pos h44
        refine j_iload_n hc dX5_leftIn_96 rfl ?_
        exact j_iret hc rfl (by decide) (by decide) (by simp only [m_leftIn, if_neg h8, if_pos h22] <;> rfl) dX5_leftIn_97
      · -- if_neg h44
        refine j_aload_n hc dX5_leftIn_47 rfl ?_
        refine gf_X5_70 hc dX5_leftIn_48 ?_
        refine j_if_ne hc 96 dX5_leftIn_51 (by decide) (fun h51 => ?_) (fun h51 => by exact absurd (show (2 : Int32) = (0 : Int32) from h51) (by decide))
        refine j_iload_n hc dX5_leftIn_96 rfl ?_
        exact j_iret hc rfl (by decide) (by decide) (by simp only [m_leftIn, if_neg h8, if_pos h22] <;> rfl) dX5_leftIn_97
  · -- if_pos h8
    refine j_iconst hc (v := 1) dX5_leftIn_11 (by decide) ?_
    refine j_goto hc 30 dX5_leftIn_12 (by decide) ?_
    refine pf_X5_70 hc dX5_leftIn_30 ?_
    refine j_iconst hc (v := 0) dX5_leftIn_33 (by decide) ?_
    refine j_istore_n hc dX5_leftIn_34 rfl ?_
    refine j_iconst hc (v := 0) dX5_leftIn_35 (by decide) ?_
    refine j_istore hc dX5_leftIn_36 rfl ?_
    refine j_iload hc dX5_leftIn_38 rfl ?_
    refine j_aload_n hc dX5_leftIn_40 rfl ?_
    refine gf_X5_93 hc dX5_leftIn_41 ?_
    refine j_icmp_ge hc 96 dX5_leftIn_44 (by decide) (fun h44 => ?_) (fun h44 => ?_)
    · -- if_pos h44
      refine j_iload_n hc dX5_leftIn_96 rfl ?_
      exact j_iret hc rfl (by decide) (by decide) (by simp only [m_leftIn, if_pos h8] <;> rfl) dX5_leftIn_97
    · -- if_neg h44
      refine j_aload_n hc dX5_leftIn_47 rfl ?_
      refine gf_X5_70 hc dX5_leftIn_48 ?_
      refine j_if_ne hc 96 dX5_leftIn_51 (by decide) (fun h51 => ?_) (fun h51 => by exact absurd (show (1 : Int32) = (0 : Int32) from h51) (by decide))
      refine j_iload_n hc dX5_leftIn_96 rfl ?_
      exact j_iret hc rfl (by decide) (by decide) (by simp only [m_leftIn, if_pos h8] <;> rfl) dX5_leftIn_97
set_option maxRecDepth 100000 in
set_option maxHeartbeats 4000000 in
theorem c_X5_stateAt {l : Launch} {D : va_G} {cs : Nat → ClassId} {sa : Nat → Nat} (hl : l.stackTraces = false)  {ad : Nat → Nat} {n : Nat} {E : ES} {S : MS} {o : Nat → Int64} {p0 d : Int32} : CM l D cs sa yX5_stateAt cX5_stateAt 5 (Option.some Jvm.ClassFile.FieldType.int) (RM 2 0 0) 0 0 [.ref (ad 15), .int p0, .int d] (WD ad cs n E S o) (none, some (.int (m_stateAt S p0 d).1), WD ad cs n E (m_stateAt S p0 d).2 o) := by
  refine CM.of RX5 hl (by decide +kernel) rfl (Nat.le_of_ble_eq_true rfl) ?_
  intro p e s m args below meth c A hc ho hmn
  have loop : ¬ (m_isBill S p0).1 = 0 → ¬ m_in d 0 ((m_isBill S p0).2.1 0) = 0 → ∀ (k i : Nat), i + k = 400 → m_lso (mG (m_isBill S p0).2 25 0) p0 d 400 0 = m_lso (mG (m_isBill S p0).2 25 0) p0 d k i → J p l e (RM 2 0 0) s m args below meth c D A 5 0 0 (QE below args s D A 0 0 (WD ad cs n E S o) (none, some (.int (m_stateAt S p0 d).1), WD ad cs n E (m_stateAt S p0 d).2 o)) (WD ad cs n E (mG (m_isBill S p0).2 25 0) o) 33 [(0, .ref (ad 15)), (1, .int p0), (2, .int d), (3, .int (nI i))] [] := by
    intro h5 h20
    have hre : m_stateAt S p0 d = (m_lso (mG (m_isBill S p0).2 25 0) p0 d 400 0, (mG (m_isBill S p0).2 25 0)) := by simp only [m_stateAt, if_neg h5, if_neg h20]
    intro k
    induction k with
    | zero =>
      intro i hi hd
      refine j_iload_n hc dX5_stateAt_33 rfl ?_
      refine j_sipush hc (v := 400) dX5_stateAt_34 (by decide) ?_
      refine j_icmp_ge hc 109 dX5_stateAt_37 (by decide) (fun h37 => ?_) (fun h37 => by exact absurd h37 (fun z => z (nI_le (a := 400) (by omega) (by omega))))
      refine j_aload_n hc dX5_stateAt_109 rfl ?_
      refine gf_X5_70 hc dX5_stateAt_110 ?_
      refine j_if_ne hc 120 dX5_stateAt_113 (by decide) (fun h113 => by exact absurd (show ¬ (0 : Int32) = (0 : Int32) from h113) (by decide)) (fun h113 => ?_)
      refine j_iconst hc (v := -1) dX5_stateAt_116 (by decide) ?_
      refine j_goto hc 121 dX5_stateAt_117 (by decide) ?_
      exact j_iret hc rfl (by decide) (by decide) (by rw [hre, hd]; rfl) dX5_stateAt_121
    | succ k ih =>
      intro i hi hd
      have hti := nI_ti (t := i) (by omega)
      refine j_iload_n hc dX5_stateAt_33 rfl ?_
      refine j_sipush hc (v := 400) dX5_stateAt_34 (by decide) ?_
      refine j_icmp_ge hc 109 dX5_stateAt_37 (by decide) (fun h37 => by exact absurd h37 (nI_ge (b := 400) (by omega) (by omega))) (fun h37 => ?_)
      refine j_iload_n hc dX5_stateAt_40 rfl ?_
      refine j_aload_n hc dX5_stateAt_41 rfl ?_
      refine gf_X5_90 hc dX5_stateAt_42 ?_
      refine j_icmp_ge hc 109 dX5_stateAt_45 (by decide) (fun h45 => ?_) (fun h45 => ?_)
      · -- if_pos h45
        refine j_aload_n hc dX5_stateAt_109 rfl ?_
        refine gf_X5_70 hc dX5_stateAt_110 ?_
        refine j_if_ne hc 120 dX5_stateAt_113 (by decide) (fun h113 => by exact absurd (show ¬ (0 : Int32) = (0 : Int32) from h113) (by decide)) (fun h113 => ?_)
        refine j_iconst hc (v := -1) dX5_stateAt_116 (by decide) ?_
        refine j_goto hc 121 dX5_stateAt_117 (by decide) ?_
        exact j_iret hc rfl (by decide) (by decide) (by rw [hre, hd]; simp only [m_lso, if_neg h37, if_pos h45] <;> rfl) dX5_stateAt_121
      · -- if_neg h45
        refine j_aload_n hc dX5_stateAt_48 rfl ?_
        refine gf_X5_70 hc dX5_stateAt_49 ?_
        refine j_if_ne hc 109 dX5_stateAt_52 (by decide) (fun h52 => by exact absurd (show ¬ (0 : Int32) = (0 : Int32) from h52) (by decide)) (fun h52 => ?_)
        refine j_aload_n hc dX5_stateAt_55 rfl ?_
        refine gf_X5_56 hc dX5_stateAt_56 ?_
        refine j_aload_n hc dX5_stateAt_59 rfl ?_
        refine gf_X5_90 hc dX5_stateAt_60 ?_
        refine j_iconst hc (v := 1) dX5_stateAt_63 (by decide) ?_
        refine j_isub hc dX5_stateAt_64 ?_
        refine j_iload_n hc dX5_stateAt_65 rfl ?_
        refine j_isub hc dX5_stateAt_66 ?_
        refine j_sipush hc (v := 400) dX5_stateAt_67 (by decide) ?_
        refine j_irem hc dX5_stateAt_70 (by decide) ?_
        refine al_m23 hc (tl_in (by omega) h45) dX5_stateAt_71 ?_
        refine j_istore hc dX5_stateAt_72 rfl ?_
        refine j_iload hc dX5_stateAt_74 rfl ?_
        refine j_sipush hc (v := 1000) dX5_stateAt_76 (by decide) ?_
        refine j_idiv hc dX5_stateAt_79 (by decide) ?_
        refine j_iload_n hc dX5_stateAt_80 rfl ?_
        refine j_icmp_gt hc 103 dX5_stateAt_81 (by decide) (fun h81 => ?_) (fun h81 => ?_)
        · -- if_pos h81
          refine j_inc hc dX5_stateAt_103 rfl (z := 1) (by decide) rfl ?_
          refine j_goto hc 33 dX5_stateAt_106 (by decide) ?_
          refine j_lv [(0, .ref (ad 15)), (1, .int p0), (2, .int d), (3, .int (nI i + 1))] ⟨rfl, rfl, rfl, rfl, trivial⟩ ?_
          rw [nI_1]
          exact ih (i + 1) (by omega) (by rw [hd]; simp only [m_lso, if_neg h37, if_neg h45, if_pos (show d < m_tld (mG (m_isBill S p0).2 25 0) (nI i) / 1000 from h81)])
        · -- if_neg h81
          refine j_iload hc dX5_stateAt_84 rfl ?_
          refine j_sipush hc (v := 1000) dX5_stateAt_86 (by decide) ?_
          refine j_irem hc dX5_stateAt_89 (by decide) ?_
          refine j_bipush hc (v := 10) dX5_stateAt_90 (by decide) ?_
          refine j_idiv hc dX5_stateAt_92 (by decide) ?_
          refine j_iload_n hc dX5_stateAt_93 rfl ?_
          refine j_icmp_ne hc 103 dX5_stateAt_94 (by decide) (fun h94 => ?_) (fun h94 => ?_)
          · -- if_neg h94
            refine j_inc hc dX5_stateAt_103 rfl (z := 1) (by decide) rfl ?_
            refine j_goto hc 33 dX5_stateAt_106 (by decide) ?_
            refine j_lv [(0, .ref (ad 15)), (1, .int p0), (2, .int d), (3, .int (nI i + 1))] ⟨rfl, rfl, rfl, rfl, trivial⟩ ?_
            rw [nI_1]
            exact ih (i + 1) (by omega) (by rw [hd]; simp only [m_lso, if_neg h37, if_neg h45, if_neg (show ¬ d < m_tld (mG (m_isBill S p0).2 25 0) (nI i) / 1000 from h81), if_neg (show ¬ (m_tld (mG (m_isBill S p0).2 25 0) (nI i) - m_tld (mG (m_isBill S p0).2 25 0) (nI i) / 1000 * 1000) / 10 = p0 from h94)])
          · -- if_pos h94
            refine j_iload hc dX5_stateAt_97 rfl ?_
            refine j_bipush hc (v := 10) dX5_stateAt_99 (by decide) ?_
            refine j_irem hc dX5_stateAt_101 (by decide) ?_
            exact j_iret hc rfl (by decide) (by decide) (by rw [hre, hd]; simp only [m_lso, if_neg h37, if_neg h45, if_neg (show ¬ d < m_tld (mG (m_isBill S p0).2 25 0) (nI i) / 1000 from h81), if_pos (show (m_tld (mG (m_isBill S p0).2 25 0) (nI i) - m_tld (mG (m_isBill S p0).2 25 0) (nI i) / 1000 * 1000) / 10 = p0 from h94)] <;> rfl) dX5_stateAt_102
  refine j_aload_n hc dX5_stateAt_0 rfl ?_
  refine j_iload_n hc dX5_stateAt_1 rfl ?_
  refine j_callV hc ho (c_X5_isBill hl) vc_X5_107 rfl ⟨rfl, rfl, by decide, by decide⟩ 15 rfl rfl rfl (Nat.le_of_ble_eq_true rfl) ⟨by decide, by decide⟩ dX5_stateAt_2 ⟨by decide, by decide⟩ (fun _ h => by cases h) (fun hr2 => ?_)
  refine j_if_ne hc 10 dX5_stateAt_5 (by decide) (fun h5 => ?_) (fun h5 => ?_)
  · -- if_neg h5
    refine j_aload_n hc dX5_stateAt_10 rfl ?_
    refine j_iload_n hc dX5_stateAt_11 rfl ?_
    refine j_iconst hc (v := 0) dX5_stateAt_12 (by decide) ?_
    refine j_aload_n hc dX5_stateAt_13 rfl ?_
    refine gf_X5_87 hc dX5_stateAt_14 ?_
    refine j_callS hc ho (c_X5_in hl) sc_X5_83 rfl ⟨rfl, rfl, by decide, by decide⟩ rfl (Nat.le_of_ble_eq_true rfl) ⟨by decide, by decide⟩ dX5_stateAt_17 ⟨by decide, by decide⟩ (fun _ h => by cases h) (fun hr17 => ?_)
    refine j_if_eq hc 27 dX5_stateAt_20 (by decide) (fun h20 => ?_) (fun h20 => ?_)
    · -- if_pos h20
      refine j_iconst hc (v := 2) dX5_stateAt_27 (by decide) ?_
      refine pf_X5_70 hc dX5_stateAt_28 ?_
      refine j_iconst hc (v := 0) dX5_stateAt_31 (by decide) ?_
      refine j_istore_n hc dX5_stateAt_32 rfl ?_
      refine j_iload_n hc dX5_stateAt_33 rfl ?_
      refine j_sipush hc (v := 400) dX5_stateAt_34 (by decide) ?_
      refine j_icmp_ge hc 109 dX5_stateAt_37 (by decide) (fun h37 => by exact absurd (show (400 : Int32) ≤ (0 : Int32) from h37) (by decide)) (fun h37 => ?_)
      refine j_iload_n hc dX5_stateAt_40 rfl ?_
      refine j_aload_n hc dX5_stateAt_41 rfl ?_
      refine gf_X5_90 hc dX5_stateAt_42 ?_
      refine j_icmp_ge hc 109 dX5_stateAt_45 (by decide) (fun h45 => ?_) (fun h45 => ?_)
      · -- if_pos h45
        refine j_aload_n hc dX5_stateAt_109 rfl ?_
        refine gf_X5_70 hc dX5_stateAt_110 ?_
        refine j_if_ne hc 120 dX5_stateAt_113 (by decide) (fun h113 => ?_) (fun h113 => by exact absurd (show (2 : Int32) = (0 : Int32) from h113) (by decide))
        refine j_iconst hc (v := 0) dX5_stateAt_120 (by decide) ?_
        exact j_iret hc rfl (by decide) (by decide) (by simp only [m_stateAt, if_neg h5, if_pos h20] <;> rfl) dX5_stateAt_121
      · -- if_neg h45
        refine j_aload_n hc dX5_stateAt_48 rfl ?_
        refine gf_X5_70 hc dX5_stateAt_49 ?_
        refine j_if_ne hc 109 dX5_stateAt_52 (by decide) (fun h52 => ?_) (fun h52 => by exact absurd (show (2 : Int32) = (0 : Int32) from h52) (by decide))
        refine j_aload_n hc dX5_stateAt_109 rfl ?_
        refine gf_X5_70 hc dX5_stateAt_110 ?_
        refine j_if_ne hc 120 dX5_stateAt_113 (by decide) (fun h113 => ?_) (fun h113 => by exact absurd (show (2 : Int32) = (0 : Int32) from h113) (by decide))
        refine j_iconst hc (v := 0) dX5_stateAt_120 (by decide) ?_
        exact j_iret hc rfl (by decide) (by decide) (by simp only [m_stateAt, if_neg h5, if_pos h20] <;> rfl) dX5_stateAt_121
    · -- if_neg h20
      refine j_iconst hc (v := 0) dX5_stateAt_23 (by decide) ?_
      refine j_goto hc 28 dX5_stateAt_24 (by decide) ?_
      refine pf_X5_70 hc dX5_stateAt_28 ?_
      refine j_iconst hc (v := 0) dX5_stateAt_31 (by decide) ?_
      refine j_istore_n hc dX5_stateAt_32 rfl ?_
      refine j_lv [(0, .ref (ad 15)), (1, .int p0), (2, .int d), (3, .int 0)] ⟨rfl, rfl, rfl, rfl, trivial⟩ ?_
      exact loop h5 h20 400 0 (by omega) rfl
  · -- if_pos h5
    refine j_iconst hc (v := 0) dX5_stateAt_8 (by decide) ?_
    exact j_iret hc rfl (by decide) (by decide) (by simp only [m_stateAt, if_pos h5] <;> rfl) dX5_stateAt_9
