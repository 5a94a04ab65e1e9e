set_option maxRecDepth 100000 in
set_option maxHeartbeats 4000000 in
theorem c_L_charges {l : Launch} {D : va_G} {cs : Nat → ClassId} {sa : Nat → Nat} (hl : l.stackTraces = false)  {ad : Nat → Nat} {n : Nat} {E : ES} {S : MS} {o : Nat → Int64} {h x : Nat} (hx : x < 2 ^ 31) (hw : S 1 63 = nI h) (hh : h ≤ 60) : CM l D cs sa yL_charges cL_charges 5 (Option.some Jvm.ClassFile.FieldType.boolean) (RM 0 0 0) 0 0 [.ref (ad 15), .ref (ad 16), .int (nI x)] (WD ad cs n E S o) (none, some (.int (m_chg (S 0 1) (S 1) h x)), WD ad cs n E S o) := by
  refine CM.of RL hl (by decide +kernel) rfl (Nat.le_of_ble_eq_true rfl) ?_
  intro p e s m args below meth c A hc ho hmn
  have loop : ∀ (k i : Nat) (c0 : Int32), i + k = h → (m_chg (S 0 1) (S 1) h x) = m_wl (S 1) (nI x) k i c0 → J p l e (RM 0 0 0) s m args below meth c D A 5 0 0 (QE below args s D A 0 0 (WD ad cs n E S o) (none, some (.int (m_chg (S 0 1) (S 1) h x)), WD ad cs n E S o)) (WD ad cs n E S o) 23 [(0, .ref (ad 15)), (1, .ref (ad 16)), (2, .int (nI x)), (3, .int c0), (4, .int (nI i))] [] := by
    intro k
    induction k with
    | zero =>
      intro i c0 hi hd
      refine j_iload hc dL_charges_23 rfl ?_
      refine j_aload_n hc dL_charges_25 rfl ?_
      refine j_bipush hc (v := nI 63) dL_charges_26 (by decide) ?_
      refine xl_1 hc (i := 63) (by omega) (v := (nI h)) (hw) dL_charges_28 ?_
      refine j_icmp_ge hc 56 dL_charges_29 (by decide) (fun h29 => ?_) (fun h29 => by exact absurd (nI_le (by omega) (by omega)) h29)
      refine j_iload_n hc dL_charges_56 rfl ?_
      exact j_zret hc rfl (nar_01 (show c0 = 0 ∨ c0 = 1 from by have t9 := chgm_01 (S 0 1) (S 1) h x; rw [hd] at t9; exact t9)) (by decide) (by decide) (by rw [hd]; rfl) dL_charges_57
    | succ k ih =>
      intro i c0 hi hd
      refine j_iload hc dL_charges_23 rfl ?_
      refine j_aload_n hc dL_charges_25 rfl ?_
      refine j_bipush hc (v := nI 63) dL_charges_26 (by decide) ?_
      refine xl_1 hc (i := 63) (by omega) (v := (nI h)) (hw) dL_charges_28 ?_
      refine j_icmp_ge hc 56 dL_charges_29 (by decide) (fun h29 => by exact absurd h29 (nI_ge (by omega) (by omega))) (fun h29 => ?_)
      refine j_iload_n hc dL_charges_32 rfl ?_
      refine j_if_eq hc 48 dL_charges_33 (by decide) (fun h33 => ?_) (fun h33 => ?_)
      · -- taken
        refine j_iconst hc (v := nI 0) dL_charges_48 (by decide) ?_
        refine j_istore_n hc dL_charges_49 rfl ?_
        refine j_incE hc dL_charges_50 rfl (v := nI (i + 1)) (nI_1 _) rfl ?_
        refine j_goto hc 23 dL_charges_53 (by decide) ?_
        refine j_lv [(0, .ref (ad 15)), (1, .ref (ad 16)), (2, .int (nI x)), (3, .int (nI 0)), (4, .int (nI (i + 1)))] ⟨rfl, rfl, rfl, rfl, rfl, trivial⟩ ?_
        exact ih (i + 1) _ (by omega) (by rw [hd]; simp only [m_wl, if_neg h29, if_pos h33] <;> rfl)
      · -- not taken
        refine j_aload_n hc dL_charges_36 rfl ?_
        refine j_iload hc dL_charges_37 rfl ?_
        refine xl_1 hc (i := i) (by omega) (v := (S 1 i)) (rfl) dL_charges_39 ?_
        refine j_iload_n hc dL_charges_40 rfl ?_
        refine j_icmp_eq hc 48 dL_charges_41 (by decide) (fun h41 => ?_) (fun h41 => ?_)
        · -- taken
          refine j_iconst hc (v := nI 0) dL_charges_48 (by decide) ?_
          refine j_istore_n hc dL_charges_49 rfl ?_
          refine j_incE hc dL_charges_50 rfl (v := nI (i + 1)) (nI_1 _) rfl ?_
          refine j_goto hc 23 dL_charges_53 (by decide) ?_
          refine j_lv [(0, .ref (ad 15)), (1, .ref (ad 16)), (2, .int (nI x)), (3, .int (nI 0)), (4, .int (nI (i + 1)))] ⟨rfl, rfl, rfl, rfl, rfl, trivial⟩ ?_
          exact ih (i + 1) _ (by omega) (by rw [hd]; simp only [m_wl, if_neg h29, if_neg h33, if_pos h41] <;> rfl)
        · -- not taken
          refine j_iconst hc (v := nI 1) dL_charges_44 (by decide) ?_
          refine j_goto hc 49 dL_charges_45 (by decide) ?_
          refine j_istore_n hc dL_charges_49 rfl ?_
          refine j_incE hc dL_charges_50 rfl (v := nI (i + 1)) (nI_1 _) rfl ?_
          refine j_goto hc 23 dL_charges_53 (by decide) ?_
          refine j_lv [(0, .ref (ad 15)), (1, .ref (ad 16)), (2, .int (nI x)), (3, .int (nI 1)), (4, .int (nI (i + 1)))] ⟨rfl, rfl, rfl, rfl, rfl, trivial⟩ ?_
          exact ih (i + 1) _ (by omega) (by rw [hd]; simp only [m_wl, if_neg h29, if_neg h33, if_neg h41] <;> rfl)
  refine j_aload_n hc dL_charges_0 rfl ?_
  refine j_iconst hc (v := nI 1) dL_charges_1 (by decide) ?_
  refine xl_0 hc (i := 1) (by omega) (v := (S 0 1)) (rfl) dL_charges_2 ?_
  refine j_iload_n hc dL_charges_3 rfl ?_
  refine j_bipush hc (v := nI 7) dL_charges_4 (by decide) ?_
  refine j_iremE hc (by decide) (z := nI (x % 7)) (pk_rem (by omega) (by omega) (by omega)) dL_charges_6 ?_
  refine j_ishr hc dL_charges_7 ?_
  refine j_iconst hc (v := nI 1) dL_charges_8 (by decide) ?_
  refine j_iand hc dL_charges_9 ?_
  refine j_iconst hc (v := nI 1) dL_charges_10 (by decide) ?_
  refine j_icmp_ne hc 18 dL_charges_11 (by decide) (fun h11 => ?_) (fun h11 => ?_)
  · -- taken
    refine j_iconst hc (v := nI 0) dL_charges_18 (by decide) ?_
    refine j_istore_n hc dL_charges_19 rfl ?_
    refine j_iconst hc (v := nI 0) dL_charges_20 (by decide) ?_
    refine j_istore hc dL_charges_21 rfl ?_
    refine j_lv [(0, .ref (ad 15)), (1, .ref (ad 16)), (2, .int (nI x)), (3, .int (nI 0)), (4, .int (nI 0))] ⟨rfl, rfl, rfl, rfl, rfl, trivial⟩ ?_
    exact loop h 0 _ (by omega) (by simp only [m_chg, if_neg h11] <;> rfl)
  · -- not taken
    refine j_iconst hc (v := nI 1) dL_charges_14 (by decide) ?_
    refine j_goto hc 19 dL_charges_15 (by decide) ?_
    refine j_istore_n hc dL_charges_19 rfl ?_
    refine j_iconst hc (v := nI 0) dL_charges_20 (by decide) ?_
    refine j_istore hc dL_charges_21 rfl ?_
    refine j_lv [(0, .ref (ad 15)), (1, .ref (ad 16)), (2, .int (nI x)), (3, .int (nI 1)), (4, .int (nI 0))] ⟨rfl, rfl, rfl, rfl, rfl, trivial⟩ ?_
    exact loop h 0 _ (by omega) (by simp only [m_chg, if_pos h11] <;> rfl)
set_option maxRecDepth 100000 in
set_option maxHeartbeats 4000000 in
theorem c_L_from {l : Launch} {D : va_G} {cs : Nat → ClassId} {sa : Nat → Nat} (hl : l.stackTraces = false)  {ad : Nat → Nat} {n : Nat} {E : ES} {S : MS} {o : Nat → Int64} {h x : Nat} (hx : x + 1000 < 2 ^ 31) (hw : S 1 63 = nI h) (hh : h ≤ 60) (hT : ¬ m_chg (S 0 1) (S 1) h (m_cf (S 0 1) (S 1) h 1000 x) = 0) : CM l D cs sa yL_from cL_from 4 (Option.some Jvm.ClassFile.FieldType.int) (RM 1 0 0) 0 0 [.ref (ad 15), .ref (ad 16), .int (nI x)] (WD ad cs n E S o) (none, some (.int (nI (m_cf (S 0 1) (S 1) h 1000 x))), WD ad cs n E S o) := by
  refine CM.of RL hl (by decide +kernel) rfl (Nat.le_of_ble_eq_true rfl) ?_
  intro p e s m args below meth c A hc ho hmn
  have loop : ∀ (k y : Nat), y + k = x + 1000 → (m_cf (S 0 1) (S 1) h 1000 x) = m_cf (S 0 1) (S 1) h k y → J p l e (RM 1 0 0) s m args below meth c D A 4 0 0 (QE below args s D A 0 0 (WD ad cs n E S o) (none, some (.int (nI (m_cf (S 0 1) (S 1) h 1000 x))), WD ad cs n E S o)) (WD ad cs n E S o) 2 [(0, .ref (ad 15)), (1, .ref (ad 16)), (3, .int (nI y))] [] := by
    intro k
    induction k with
    | zero =>
      intro y hy hd
      have hz : ¬ m_chg (S 0 1) (S 1) h y = 0 := by
        have := hT
        rw [hd] at this
        exact this
      refine j_aload_n hc dL_from_2 rfl ?_
      refine j_aload_n hc dL_from_3 rfl ?_
      refine j_iload_n hc dL_from_4 rfl ?_
      refine j_callS' hc (c_L_charges hl (x := y) (by omega) hw hh) sc_L_7 rfl ⟨rfl, rfl, by decide, by decide⟩ rfl (Nat.le_of_ble_eq_true rfl) ⟨by decide, by decide⟩ dL_from_5 (fun _ h9 => by cases h9) (fun _ => ?_)
      refine j_if_ne hc 17 dL_from_8 (by decide) (fun h8 => ?_) (fun h8 => by exact absurd h8 hz)
      refine j_iload_n hc dL_from_17 rfl ?_
      exact j_iret hc rfl (by decide) (by decide) (by rw [hd]; rfl) dL_from_18
    | succ k ih =>
      intro y hy hd
      refine j_aload_n hc dL_from_2 rfl ?_
      refine j_aload_n hc dL_from_3 rfl ?_
      refine j_iload_n hc dL_from_4 rfl ?_
      refine j_callS' hc (c_L_charges hl (x := y) (by omega) hw hh) sc_L_7 rfl ⟨rfl, rfl, by decide, by decide⟩ rfl (Nat.le_of_ble_eq_true rfl) ⟨by decide, by decide⟩ dL_from_5 (fun _ h9 => by cases h9) (fun _ => ?_)
      refine j_if_ne hc 17 dL_from_8 (by decide) (fun h8 => ?_) (fun h8 => ?_)
      · -- taken
        refine j_iload_n hc dL_from_17 rfl ?_
        exact j_iret hc rfl (by decide) (by decide) (by rw [hd]; simp only [m_cf, if_neg h8]) dL_from_18
      · -- not taken
        refine j_incE hc dL_from_11 rfl (v := nI (y + 1)) (nI_1 _) rfl ?_
        refine j_goto hc 2 dL_from_14 (by decide) ?_
        refine j_lv [(0, .ref (ad 15)), (1, .ref (ad 16)), (3, .int (nI (y + 1)))] ⟨rfl, rfl, rfl, trivial⟩ ?_
        exact ih (y + 1) (by omega) (by rw [hd]; simp only [m_cf, if_pos h8])
  refine j_iload_n hc dL_from_0 rfl ?_
  refine j_istore_n hc dL_from_1 rfl ?_
  refine j_lv [(0, .ref (ad 15)), (1, .ref (ad 16)), (3, .int (nI x))] ⟨rfl, rfl, rfl, trivial⟩ ?_
  exact loop 1000 x rfl rfl
set_option maxRecDepth 100000 in
set_option maxHeartbeats 4000000 in
theorem c_L_enters {l : Launch} {D : va_G} {cs : Nat → ClassId} {sa : Nat → Nat} (hl : l.stackTraces = false)  {ad : Nat → Nat} {n : Nat} {E : ES} {S : MS} {o : Nat → Int64} {Y N b σ : Nat} (hb : b < 12) (h0 : S 0 0 = nI Y) (h8 : S 0 8 = nI N) (hN : N < 1000000000) : CM l D cs sa yL_enters cL_enters 5 (Option.none : Option Jvm.ClassFile.FieldType) (RM 0 0 0) 0 0 [.ref (ad 15), .ref (ad 20), .ref (ad 23), .int (nI b), .int (nI σ)] (WD ad cs n E S o) (none, none, WD ad cs n E (m_ent S Y N b σ) o) := by
  refine CM.of RL hl (by decide +kernel) rfl (Nat.le_of_ble_eq_true rfl) ?_
  intro p e s m args below meth c A hc ho hmn
  refine j_aload_n hc dL_enters_0 rfl ?_
  refine j_iload_n hc dL_enters_1 rfl ?_
  refine j_iload hc dL_enters_2 rfl ?_
  refine xs_5 hc (i := b) (by omega) dL_enters_4 ?_
  refine j_aload_n hc dL_enters_5 rfl ?_
  refine j_aload_n hc dL_enters_6 rfl ?_
  refine j_bipush hc (v := nI 8) dL_enters_7 (by decide) ?_
  refine xl_0 hc (i := 8) (by omega) (v := (nI N)) (Eq.trans (mA_ro (by decide)) (h8)) dL_enters_9 ?_
  refine j_bipush hc (v := nI 60) dL_enters_10 (by decide) ?_
  refine j_iremE hc (by decide) (z := nI (N % 60)) (pk_rem (by omega) (by omega) (by omega)) dL_enters_12 ?_
  refine j_aload_n hc dL_enters_13 rfl ?_
  refine j_iconst hc (v := nI 0) dL_enters_14 (by decide) ?_
  refine xl_0 hc (i := 0) (by omega) (v := (nI Y)) (Eq.trans (mA_ro (by decide)) (h0)) dL_enters_15 ?_
  refine j_bipush hc (v := nI 100) dL_enters_16 (by decide) ?_
  refine j_imulE hc (z := nI (Y * 100)) (pk_mul _ _) dL_enters_18 ?_
  refine j_iload_n hc dL_enters_19 rfl ?_
  refine j_iaddE hc (z := nI ((Y * 100) + b)) (nI_add _ _) dL_enters_20 ?_
  refine j_bipush hc (v := nI 10) dL_enters_21 (by decide) ?_
  refine j_imulE hc (z := nI (((Y * 100) + b) * 10)) (pk_mul _ _) dL_enters_23 ?_
  refine j_iload hc dL_enters_24 rfl ?_
  refine j_iaddE hc (z := nI ((((Y * 100) + b) * 10) + σ)) (nI_add _ _) dL_enters_26 ?_
  refine xs_8 hc (i := (N % 60)) (by omega) dL_enters_27 ?_
  refine j_aload_n hc dL_enters_28 rfl ?_
  refine j_bipush hc (v := nI 8) dL_enters_29 (by decide) ?_
  refine j_dup2 hc dL_enters_31 rfl rfl ?_
  refine xl_0 hc (i := 8) (by omega) (v := (nI N)) (Eq.trans (mA_ro (by decide)) (Eq.trans (mA_ro (by decide)) (h8))) dL_enters_32 ?_
  refine j_iconst hc (v := nI 1) dL_enters_33 (by decide) ?_
  refine j_iaddE hc (z := nI (N + 1)) (nI_add _ _) dL_enters_34 ?_
  refine xs_0 hc (i := 8) (by omega) dL_enters_35 ?_
  exact j_vret hc rfl (by decide) (by decide) rfl dL_enters_36
set_option maxRecDepth 100000 in
set_option maxHeartbeats 4000000 in
theorem c_L_fails {l : Launch} {D : va_G} {cs : Nat → ClassId} {sa : Nat → Nat} (hl : l.stackTraces = false)  {ad : Nat → Nat} {n : Nat} {E : ES} {S : MS} {o : Nat → Int64} {h N Y b i : Nat} {E0 : ES} (H : Rel h n N Y E0 S) (hb : b < n) (hY : Y ≤ 8000) (hN : N ≤ 200000) (hi : i < 4) : EX l D cs sa yL_fails cL_fails 11 (Option.none : Option Jvm.ClassFile.FieldType) (RM 2 0 0) 0 0 [.ref (ad 15), .ref (ad 16), .ref (ad 17), .ref (ad 18), .ref (ad 20), .ref (ad 21), .ref (ad 23), .int (nI b), .int (nI (i + 1))] (WD ad cs n E S o) (X := {S' : MS // Rel h n (N + 1) Y (e_fail E0 b (nI (i + 1))) S'}) none (fun x => (none, WD ad cs n E x.1 o)) := by
  refine EX.of RL hl (by decide +kernel) rfl (Nat.le_of_ble_eq_true rfl) ?_
  intro p e s m args below meth c A hc ho
  have G := H.1
  have n12 := G.n12
  have h60 := G.h60
  obtain ⟨⟨-, -, -, -, -, -, -, -, qf, -, -⟩, -⟩ := H.2.1 b hb
  obtain ⟨-, κ, hκ, eκ⟩ := qf i hi
  rw [bv_f S b i hi] at eκ
  obtain ⟨q, hq, -, eq, gp3⟩ := G.gp i hi
  refine j_aload hc dL_fails_0 rfl ?_
  refine j_iconst hc (v := nI 5) dL_fails_2 (by decide) ?_
  refine j_iload hc dL_fails_3 rfl ?_
  refine j_imulE hc (z := nI (5 * b)) (pk_mul _ _) dL_fails_5 ?_
  refine j_iload hc dL_fails_6 rfl ?_
  refine j_iaddE hc (z := nI ((5 * b) + (i + 1))) (nI_add _ _) dL_fails_8 ?_
  refine xl_6 hc (i := ((5 * b) + (i + 1))) (by omega) (v := (nI κ)) (eκ) dL_fails_9 ?_
  refine j_istore hc dL_fails_10 rfl ?_
  refine j_aload hc dL_fails_12 rfl ?_
  refine j_iconst hc (v := nI 5) dL_fails_14 (by decide) ?_
  refine j_iload hc dL_fails_15 rfl ?_
  refine j_imulE hc (z := nI (5 * b)) (pk_mul _ _) dL_fails_17 ?_
  refine j_iload hc dL_fails_18 rfl ?_
  refine j_iaddE hc (z := nI ((5 * b) + (i + 1))) (nI_add _ _) dL_fails_20 ?_
  refine j_dup2 hc dL_fails_21 rfl rfl ?_
  refine xl_6 hc (i := ((5 * b) + (i + 1))) (by omega) (v := (nI κ)) (eκ) dL_fails_22 ?_
  refine j_iconst hc (v := nI 1) dL_fails_23 (by decide) ?_
  refine j_iaddE hc (z := nI (κ + 1)) (nI_add _ _) dL_fails_24 ?_
  refine xs_6 hc (i := ((5 * b) + (i + 1))) (by omega) dL_fails_25 ?_
  refine j_iload hc dL_fails_26 rfl ?_
  refine j_aload_n hc dL_fails_28 rfl ?_
  refine j_iload hc dL_fails_29 rfl ?_
  refine xl_3 hc (i := (i + 1)) (by omega) (v := (nI q)) (Eq.trans (mA_ro (by decide)) (eq)) dL_fails_31 ?_
  refine j_icmp_ge hc 39 dL_fails_32 (by decide) (fun h32 => ?_) (fun h32 => ?_)
  · -- taken
    have hge : ¬ κ < q := fun z => absurd h32 (nI_ge (by omega) (by omega))
    refine j_iconst hc (v := nI 0) dL_fails_39 (by decide) ?_
    refine j_istore hc dL_fails_40 rfl ?_
    refine j_aload hc dL_fails_42 rfl ?_
    refine j_bipush hc (v := nI 12) dL_fails_44 (by decide) ?_
    refine j_iload hc dL_fails_46 rfl ?_
    refine j_iaddE hc (z := nI (12 + b)) (nI_add _ _) dL_fails_48 ?_
    refine j_iload hc dL_fails_49 rfl ?_
    refine j_if_eq hc 76 dL_fails_51 (by decide) (fun h51 => ?_) (fun h51 => by exact absurd (show ¬ (nI 0) = (0 : Int32) from h51) (by decide))
    refine j_aload_n hc dL_fails_76 rfl ?_
    refine j_iconst hc (v := nI 0) dL_fails_77 (by decide) ?_
    refine xl_0 hc (i := 0) (by omega) (v := (nI Y)) (Eq.trans (mA_ro (by decide)) (G.d0)) dL_fails_78 ?_
    refine j_aload_n hc dL_fails_79 rfl ?_
    refine j_iconst hc (v := nI 3) dL_fails_80 (by decide) ?_
    refine xl_0 hc (i := 3) (by omega) (v := (S 0 3)) (rfl) dL_fails_81 ?_
    refine j_iadd hc dL_fails_82 ?_
    refine xs_5 hc (i := (12 + b)) (by omega) dL_fails_83 ?_
    refine j_aload_n hc dL_fails_84 rfl ?_
    refine j_aload hc dL_fails_85 rfl ?_
    refine j_aload hc dL_fails_87 rfl ?_
    refine j_iload hc dL_fails_89 rfl ?_
    refine j_iload hc dL_fails_91 rfl ?_
    refine j_if_eq hc 100 dL_fails_93 (by decide) (fun h93 => ?_) (fun h93 => by exact absurd (show ¬ (nI 0) = (0 : Int32) from h93) (by decide))
    refine j_iconst hc (v := nI 2) dL_fails_100 (by decide) ?_
    refine j_callS' hc (c_L_enters hl (S := (mA (mA S 6 ((5 * b) + (i + 1)) (nI (κ + 1))) 5 (12 + b) ((nI Y) + (S 0 3)))) (Y := Y) (N := N) (b := b) (σ := 2) (by omega) G.d0 G.t8 (by omega)) sc_L_17 rfl ⟨rfl, rfl, by decide, by decide⟩ rfl (Nat.le_of_ble_eq_true rfl) ⟨by decide, by decide⟩ dL_fails_101 (fun _ h9 => by cases h9) (fun _ => ?_)
    exact j_xvret hc ⟨_, (sim_fail H hb hY hN hi eκ hκ eq hq).2 hge⟩ rfl (by decide) (by decide) rfl rfl dL_fails_104
  · -- not taken
    have hlt : κ < q := by
      by_cases z : κ < q
      · exact z
      · exact absurd (nI_le (by omega) (by omega)) h32
    obtain ⟨g, g1, g30, -, gS⟩ := gp3 κ hlt
    refine j_iconst hc (v := nI 1) dL_fails_35 (by decide) ?_
    refine j_goto hc 40 dL_fails_36 (by decide) ?_
    refine j_istore hc dL_fails_40 rfl ?_
    refine j_aload hc dL_fails_42 rfl ?_
    refine j_bipush hc (v := nI 12) dL_fails_44 (by decide) ?_
    refine j_iload hc dL_fails_46 rfl ?_
    refine j_iaddE hc (z := nI (12 + b)) (nI_add _ _) dL_fails_48 ?_
    refine j_iload hc dL_fails_49 rfl ?_
    refine j_if_eq hc 76 dL_fails_51 (by decide) (fun h51 => by exact absurd (show (nI 1) = (0 : Int32) from h51) (by decide)) (fun h51 => ?_)
    refine j_aload_n hc dL_fails_54 rfl ?_
    refine j_aload_n hc dL_fails_55 rfl ?_
    refine j_aload_n hc dL_fails_56 rfl ?_
    refine j_iconst hc (v := nI 0) dL_fails_57 (by decide) ?_
    refine xl_0 hc (i := 0) (by omega) (v := (nI Y)) (Eq.trans (mA_ro (by decide)) (G.d0)) dL_fails_58 ?_
    refine j_aload_n hc dL_fails_59 rfl ?_
    refine j_bipush hc (v := nI 6) dL_fails_60 (by decide) ?_
    refine j_iload hc dL_fails_62 rfl ?_
    refine j_imulE hc (z := nI (6 * (i + 1))) (pk_mul _ _) dL_fails_64 ?_
    refine j_iload hc dL_fails_65 rfl ?_
    refine j_iaddE hc (z := nI ((6 * (i + 1)) + κ)) (nI_add _ _) dL_fails_67 ?_
    refine xl_2 hc (i := ((6 * (i + 1)) + κ)) (by omega) (v := (nI g)) (Eq.trans (mA_ro (by decide)) (gS)) dL_fails_68 ?_
    refine j_iaddE hc (z := nI (Y + g)) (nI_add _ _) dL_fails_69 ?_
    refine j_callS' hc (c_L_from hl (S := (mA S 6 ((5 * b) + (i + 1)) (nI (κ + 1)))) (x := Y + g) (by omega) G.w63 G.h60 (from_ok G (by omega) (by omega))) sc_L_13 rfl ⟨rfl, rfl, by decide, by decide⟩ rfl (Nat.le_of_ble_eq_true rfl) ⟨by decide, by decide⟩ dL_fails_70 (fun _ h9 => by cases h9) (fun _ => ?_)
    refine j_goto hc 83 dL_fails_73 (by decide) ?_
    refine xs_5 hc (i := (12 + b)) (by omega) dL_fails_83 ?_
    refine j_aload_n hc dL_fails_84 rfl ?_
    refine j_aload hc dL_fails_85 rfl ?_
    refine j_aload hc dL_fails_87 rfl ?_
    refine j_iload hc dL_fails_89 rfl ?_
    refine j_iload hc dL_fails_91 rfl ?_
    refine j_if_eq hc 100 dL_fails_93 (by decide) (fun h93 => by exact absurd (show (nI 1) = (0 : Int32) from h93) (by decide)) (fun h93 => ?_)
    refine j_iconst hc (v := nI 0) dL_fails_96 (by decide) ?_
    refine j_goto hc 101 dL_fails_97 (by decide) ?_
    refine j_callS' hc (c_L_enters hl (S := (mA (mA S 6 ((5 * b) + (i + 1)) (nI (κ + 1))) 5 (12 + b) (nI (m_cf (S 0 1) (S 1) h 1000 (Y + g))))) (Y := Y) (N := N) (b := b) (σ := 0) (by omega) G.d0 G.t8 (by omega)) sc_L_17 rfl ⟨rfl, rfl, by decide, by decide⟩ rfl (Nat.le_of_ble_eq_true rfl) ⟨by decide, by decide⟩ dL_fails_101 (fun _ h9 => by cases h9) (fun _ => ?_)
    exact j_xvret hc ⟨_, (sim_fail H hb hY hN hi eκ hκ eq hq).1 g hlt gS g30⟩ rfl (by decide) (by decide) rfl rfl dL_fails_104
theorem lab_0 {n K i : Nat} {c : Int32} {E : ES} (hi : i < n) (L : (e_look E i).1 = 0) : e_lab n (K + 1) i c E = e_lab n K (i + 1) c (e_look E i).2 := by
  show (if i < n then e_lab n K (i + 1) (if (e_look E i).1 = 0 then c else c + 1) (e_look E i).2 else e_lab n K (i + 1) c E) = _
  rw [if_pos hi, if_pos L]
theorem lab_1 {n K i : Nat} {c : Int32} {E : ES} (hi : i < n) (L : (e_look E i).1 = 1) : e_lab n (K + 1) i c E = e_lab n K (i + 1) (c + 1) (e_look E i).2 := by
  show (if i < n then e_lab n K (i + 1) (if (e_look E i).1 = 0 then c else c + 1) (e_look E i).2 else e_lab n K (i + 1) c E) = _
  rw [if_pos hi, if_neg (by rw [L]; decide)]
theorem fut_0 {n K i : Nat} {E : ES} (hi : i < n) (z : ¬ E.2.1 4 i = 1) : e_fut n (K + 1) i E = e_fut n K (i + 1) E := by
  show e_fut n K (i + 1) (if i < n then (if E.2.1 4 i = 1 then e_fail E i 4 else E) else E) = _
  rw [if_pos hi, if_neg z]
theorem fut_1 {n K i : Nat} {E : ES} (hi : i < n) (z : E.2.1 4 i = 1) : e_fut n (K + 1) i E = e_fut n K (i + 1) (e_fail E i (nI (3 + 1))) := by
  show e_fut n K (i + 1) (if i < n then (if E.2.1 4 i = 1 then e_fail E i 4 else E) else E) = _
  rw [if_pos hi, if_pos z]
  rfl
theorem sim_now {h n N Y : Nat} {E : ES} {S : MS} (H : Rel h n N Y E S) : Rel h n N (Y + 1) (eG E 5 (nI (Y + 1))) (mA S 0 0 (nI (Y + 1))) := by
  have G := H.1
  refine ⟨⟨G.n4, G.n2, rfl, rfl, G.g6, G.g7, G.g8, G.g9, G.g10, G.g11, G.t13, G.t8, G.ring, G.cod, (all4 (G.gp 0 (by decide)) (G.gp 1 (by decide)) (G.gp 2 (by decide)) (G.gp 3 (by decide))), G.rk, G.w63, G.hd, fun j hj => (G.hl j hj).elim fun x w => ⟨x, by omega, w.2⟩, G.h60, G.n12⟩, fun c hc => ?_, fun c h1 h2 => ?_⟩
  · rw [bv_n (by omega)]; exact H.2.1 c hc
  · rw [bv_n (by omega)]; exact H.2.2 c h1 h2
set_option maxRecDepth 100000 in
set_option maxHeartbeats 4000000 in
theorem c_L_passes {l : Launch} {D : va_G} {cs : Nat → ClassId} {sa : Nat → Nat} (hl : l.stackTraces = false)  {ad : Nat → Nat} {n : Nat} {E : ES} {S : MS} {o : Nat → Int64} {h N Y : Nat} {E0 : ES} (H : Rel h n N Y E0 S) (hY : Y + 1 ≤ 8000) (hN : N + 24 ≤ 200000) : EX l D cs sa yL_passes cL_passes 12 (Option.some Jvm.ClassFile.FieldType.int) (RM 3 0 0) 0 0 [.ref (ad 15), .ref (ad 16), .ref (ad 17), .ref (ad 18), .ref (ad 19), .ref (ad 20), .ref (ad 21), .ref (ad 22), .ref (ad 23)] (WD ad cs n E S o) (X := {x : MS × Nat // x.2 ≤ N + 24 ∧ Rel h n x.2 (Y + 1) (e_day n E0).2 x.1}) none (fun x : {x : MS × Nat // x.2 ≤ N + 24 ∧ Rel h n x.2 (Y + 1) (e_day n E0).2 x.1} => (some (.int (e_day n E0).1), WD ad cs n E x.1.1 o)) := by
  refine EX.of RL hl (by decide +kernel) rfl (Nat.le_of_ble_eq_true rfl) ?_
  intro p e s m args below meth c A hc ho
  have n12 := H.1.n12
  have h60 := H.1.h60
  have loop2 : ∀ (k K i : Nat) (c0 : Int32) (N1 : Nat) (S1 : MS) (E1 : ES), i + k = n → i + K = 30 → N1 ≤ N + n + i → Rel h n N1 (Y + 1) E1 S1 → e_day n E0 = e_lab n K i c0 E1 → J p l e (RM 3 0 0) s m args below meth c D A 12 0 0 (QY below args s D A 0 0 (WD ad cs n E S o) none (fun x : {x : MS × Nat // x.2 ≤ N + 24 ∧ Rel h n x.2 (Y + 1) (e_day n E0).2 x.1} => (some (.int (e_day n E0).1), WD ad cs n E x.1.1 o))) (WD ad cs n E S1 o) 55 [(0, .ref (ad 15)), (1, .ref (ad 16)), (2, .ref (ad 17)), (3, .ref (ad 18)), (4, .ref (ad 19)), (5, .ref (ad 20)), (6, .ref (ad 21)), (7, .ref (ad 22)), (8, .ref (ad 23)), (9, .int c0), (10, .int (nI i))] [] := by
    intro k
    induction k with
    | zero =>
      intro K i c0 N1 S1 E1 hi hK hN1 H1 hd
      have G := H1.1
      have ed : e_day n E0 = (c0, E1) := by rw [hd]; exact lab_hi K i c0 E1 (by omega)
      refine j_iload hc dL_passes_55 rfl ?_
      refine j_aload_n hc dL_passes_57 rfl ?_
      refine j_iconst hc (v := nI 2) dL_passes_58 (by decide) ?_
      refine xl_0 hc (i := 2) (by omega) (v := (nI n)) (G.n2) dL_passes_59 ?_
      refine j_icmp_ge hc 340 dL_passes_60 (by decide) (fun h60 => ?_) (fun h60 => by exact absurd (nI_le (by omega) (by omega)) h60)
      refine j_iload hc dL_passes_340 rfl ?_
      exact j_xiret hc (⟨(S1, N1), by omega, by rw [ed]; exact H1⟩ : {x : MS × Nat // x.2 ≤ N + 24 ∧ Rel h n x.2 (Y + 1) (e_day n E0).2 x.1}) rfl (by decide) (by decide) rfl (by show (some (Value.int (e_day n E0).1), WD ad cs n E S1 o) = (some (Value.int c0), WD ad cs n E S1 o); rw [ed]) dL_passes_342
    | succ k ih =>
      intro K i c0 N1 S1 E1 hi hK hN1 H1 hd
      have G := H1.1
      obtain ⟨K, rfl⟩ : ∃ u, K = u + 1 := ⟨K - 1, by omega⟩
      have hin : i < n := by omega
      obtain ⟨⟨-, -, -, -, -, -, -, -, -, -, qj⟩, σ, w1, w2, w3, -⟩ := H1.2.1 i hin
      have w2 : S1 5 i = nI σ := w2
      have qj : S1 7 i = nI 0 ∨ S1 7 i = nI 2 ∨ S1 7 i = nI 3 := qj
      match σ, w1 with
      | 0, _ =>
        refine j_iload hc dL_passes_55 rfl ?_
        refine j_aload_n hc dL_passes_57 rfl ?_
        refine j_iconst hc (v := nI 2) dL_passes_58 (by decide) ?_
        refine xl_0 hc (i := 2) (by omega) (v := (nI n)) (G.n2) dL_passes_59 ?_
        refine j_icmp_ge hc 340 dL_passes_60 (by decide) (fun h60 => by exact absurd h60 (nI_ge (by omega) (by omega))) (fun h60 => ?_)
        refine j_aload hc dL_passes_63 rfl ?_
        refine j_bipush hc (v := nI 12) dL_passes_65 (by decide) ?_
        refine j_iload hc dL_passes_67 rfl ?_
        refine j_iaddE hc (z := nI (12 + i)) (nI_add _ _) dL_passes_69 ?_
        refine xl_5 hc (i := (12 + i)) (by omega) (v := (S1 5 (12 + i))) (rfl) dL_passes_70 ?_
        refine j_aload_n hc dL_passes_71 rfl ?_
        refine j_iconst hc (v := nI 0) dL_passes_72 (by decide) ?_
        refine xl_0 hc (i := 0) (by omega) (v := (nI (Y + 1))) (G.d0) dL_passes_73 ?_
        refine j_icmp_ne hc 81 dL_passes_74 (by decide) (fun h74 => ?_) (fun h74 => ?_)
        · -- taken
          refine j_iconst hc (v := nI 0) dL_passes_81 (by decide) ?_
          refine j_istore hc dL_passes_82 rfl ?_
          refine j_aload hc dL_passes_84 rfl ?_
          refine j_iload hc dL_passes_86 rfl ?_
          refine xl_5 hc (i := i) (by omega) (v := (nI 0)) (w2) dL_passes_88 ?_
          refine j_if_ne hc 167 dL_passes_89 (by decide) (fun h89 => by exact absurd (show ¬ (nI 0) = (0 : Int32) from h89) (by decide)) (fun h89 => ?_)
          refine j_aload hc dL_passes_92 rfl ?_
          refine j_bipush hc (v := nI 12) dL_passes_94 (by decide) ?_
          refine j_iload hc dL_passes_96 rfl ?_
          refine j_iaddE hc (z := nI (12 + i)) (nI_add _ _) dL_passes_98 ?_
          refine xl_5 hc (i := (12 + i)) (by omega) (v := (S1 5 (12 + i))) (rfl) dL_passes_99 ?_
          refine j_aload_n hc dL_passes_100 rfl ?_
          refine j_iconst hc (v := nI 0) dL_passes_101 (by decide) ?_
          refine xl_0 hc (i := 0) (by omega) (v := (nI (Y + 1))) (G.d0) dL_passes_102 ?_
          refine j_icmp_gt hc 167 dL_passes_103 (by decide) (fun h103 => ?_) (fun h103 => ?_)
          · -- taken
            refine j_aload hc dL_passes_167 rfl ?_
            refine j_iload hc dL_passes_169 rfl ?_
            refine xl_5 hc (i := i) (by omega) (v := (nI 0)) (w2) dL_passes_171 ?_
            refine j_iconst hc (v := nI 2) dL_passes_172 (by decide) ?_
            refine j_icmp_ne hc 209 dL_passes_173 (by decide) (fun h173 => ?_) (fun h173 => by exact absurd (show (nI 0) = (nI 2) from h173) (by decide))
            refine j_aload hc dL_passes_209 rfl ?_
            refine j_iload hc dL_passes_211 rfl ?_
            refine xl_5 hc (i := i) (by omega) (v := (nI 0)) (w2) dL_passes_213 ?_
            refine j_iconst hc (v := nI 3) dL_passes_214 (by decide) ?_
            refine j_icmp_ne hc 252 dL_passes_215 (by decide) (fun h215 => ?_) (fun h215 => by exact absurd (show (nI 0) = (nI 3) from h215) (by decide))
            refine j_aload hc dL_passes_252 rfl ?_
            refine j_iload hc dL_passes_254 rfl ?_
            refine xl_5 hc (i := i) (by omega) (v := (nI 0)) (w2) dL_passes_256 ?_
            refine j_iconst hc (v := nI 4) dL_passes_257 (by decide) ?_
            refine j_icmp_ne hc 334 dL_passes_258 (by decide) (fun h258 => ?_) (fun h258 => by exact absurd (show (nI 0) = (nI 4) from h258) (by decide))
            refine j_incE hc dL_passes_334 rfl (v := nI (i + 1)) (nI_1 _) rfl ?_
            refine j_goto hc 55 dL_passes_337 (by decide) ?_
            have L := lk_0w H1 hin (by omega) (by omega) w2 h103
            refine j_lv [(0, .ref (ad 15)), (1, .ref (ad 16)), (2, .ref (ad 17)), (3, .ref (ad 18)), (4, .ref (ad 19)), (5, .ref (ad 20)), (6, .ref (ad 21)), (7, .ref (ad 22)), (8, .ref (ad 23)), (9, .int c0), (10, .int (nI (i + 1)))] ⟨rfl, rfl, rfl, rfl, rfl, rfl, rfl, rfl, rfl, rfl, rfl, trivial⟩ ?_
            exact ih K (i + 1) _ N1 _ _ (by omega) (by omega) (by omega) L.2 (by rw [hd]; exact lab_0 hin L.1)
          · -- not taken
            refine j_aload_n hc dL_passes_106 rfl ?_
            refine j_aload_n hc dL_passes_107 rfl ?_
            refine j_aload_n hc dL_passes_108 rfl ?_
            refine j_iconst hc (v := nI 0) dL_passes_109 (by decide) ?_
            refine xl_0 hc (i := 0) (by omega) (v := (nI (Y + 1))) (G.d0) dL_passes_110 ?_
            refine j_callS' hc (c_L_charges hl (S := S1) (x := Y + 1) (by omega) G.w63 G.h60) sc_L_7 rfl ⟨rfl, rfl, by decide, by decide⟩ rfl (Nat.le_of_ble_eq_true rfl) ⟨by decide, by decide⟩ dL_passes_111 (fun _ h9 => by cases h9) (fun _ => ?_)
            refine j_if_eq hc 146 dL_passes_114 (by decide) (fun h114 => ?_) (fun h114 => ?_)
            · -- taken
              refine j_aload hc dL_passes_146 rfl ?_
              refine j_bipush hc (v := nI 12) dL_passes_148 (by decide) ?_
              refine j_iload hc dL_passes_150 rfl ?_
              refine j_iaddE hc (z := nI (12 + i)) (nI_add _ _) dL_passes_152 ?_
              refine j_aload_n hc dL_passes_153 rfl ?_
              refine j_aload_n hc dL_passes_154 rfl ?_
              refine j_aload_n hc dL_passes_155 rfl ?_
              refine j_iconst hc (v := nI 0) dL_passes_156 (by decide) ?_
              refine xl_0 hc (i := 0) (by omega) (v := (nI (Y + 1))) (G.d0) dL_passes_157 ?_
              refine j_iconst hc (v := nI 1) dL_passes_158 (by decide) ?_
              refine j_iaddE hc (z := nI ((Y + 1) + 1)) (nI_add _ _) dL_passes_159 ?_
              refine j_callS' hc (c_L_from hl (S := S1) (x := Y + 1 + 1) (by omega) G.w63 G.h60 (from_ok G (by omega) (by omega))) sc_L_13 rfl ⟨rfl, rfl, by decide, by decide⟩ rfl (Nat.le_of_ble_eq_true rfl) ⟨by decide, by decide⟩ dL_passes_160 (fun _ h9 => by cases h9) (fun _ => ?_)
              refine xs_5 hc (i := (12 + i)) (by omega) dL_passes_163 ?_
              refine j_goto hc 334 dL_passes_164 (by decide) ?_
              refine j_incE hc dL_passes_334 rfl (v := nI (i + 1)) (nI_1 _) rfl ?_
              refine j_goto hc 55 dL_passes_337 (by decide) ?_
              have L := lk_0f H1 hin (by omega) (by omega) w2 h103 h114
              refine j_lv [(0, .ref (ad 15)), (1, .ref (ad 16)), (2, .ref (ad 17)), (3, .ref (ad 18)), (4, .ref (ad 19)), (5, .ref (ad 20)), (6, .ref (ad 21)), (7, .ref (ad 22)), (8, .ref (ad 23)), (9, .int c0), (10, .int (nI (i + 1)))] ⟨rfl, rfl, rfl, rfl, rfl, rfl, rfl, rfl, rfl, rfl, rfl, trivial⟩ ?_
              exact ih K (i + 1) _ N1 _ _ (by omega) (by omega) (by omega) L.2 (by rw [hd]; exact lab_0 hin L.1)
            · -- not taken
              refine j_aload hc dL_passes_117 rfl ?_
              refine j_bipush hc (v := nI 24) dL_passes_119 (by decide) ?_
              refine j_iload hc dL_passes_121 rfl ?_
              refine j_iaddE hc (z := nI (24 + i)) (nI_add _ _) dL_passes_123 ?_
              refine j_dup2 hc dL_passes_124 rfl rfl ?_
              refine xl_5 hc (i := (24 + i)) (by omega) (v := (S1 5 (24 + i))) (rfl) dL_passes_125 ?_
              refine j_iconst hc (v := nI 1) dL_passes_126 (by decide) ?_
              refine j_iadd hc dL_passes_127 ?_
              refine xs_5 hc (i := (24 + i)) (by omega) dL_passes_128 ?_
              refine j_inc hc dL_passes_129 rfl (z := 1) (by decide) rfl ?_
              refine j_aload_n hc dL_passes_132 rfl ?_
              refine j_aload hc dL_passes_133 rfl ?_
              refine j_aload hc dL_passes_135 rfl ?_
              refine j_iload hc dL_passes_137 rfl ?_
              refine j_iconst hc (v := nI 1) dL_passes_139 (by decide) ?_
              refine j_callS' hc (c_L_enters hl (S := (mA S1 5 (24 + i) ((S1 5 (24 + i)) + (nI 1)))) (Y := (Y + 1)) (N := N1) (b := i) (σ := 1) (by omega) G.d0 G.t8 (by omega)) sc_L_17 rfl ⟨rfl, rfl, by decide, by decide⟩ rfl (Nat.le_of_ble_eq_true rfl) ⟨by decide, by decide⟩ dL_passes_140 (fun _ h9 => by cases h9) (fun _ => ?_)
              refine j_goto hc 334 dL_passes_143 (by decide) ?_
              refine j_incE hc dL_passes_334 rfl (v := nI (i + 1)) (nI_1 _) rfl ?_
              refine j_goto hc 55 dL_passes_337 (by decide) ?_
              have L := lk_0t H1 hin (by omega) (by omega) w2 h103 h114
              refine j_lv [(0, .ref (ad 15)), (1, .ref (ad 16)), (2, .ref (ad 17)), (3, .ref (ad 18)), (4, .ref (ad 19)), (5, .ref (ad 20)), (6, .ref (ad 21)), (7, .ref (ad 22)), (8, .ref (ad 23)), (9, .int (c0 + 1)), (10, .int (nI (i + 1)))] ⟨rfl, rfl, rfl, rfl, rfl, rfl, rfl, rfl, rfl, rfl, rfl, trivial⟩ ?_
              exact ih K (i + 1) _ (N1 + 1) _ _ (by omega) (by omega) (by omega) L.2 (by rw [hd]; exact lab_1 hin L.1)
        · -- not taken
          refine j_iconst hc (v := nI 1) dL_passes_77 (by decide) ?_
          refine j_goto hc 82 dL_passes_78 (by decide) ?_
          refine j_istore hc dL_passes_82 rfl ?_
          refine j_aload hc dL_passes_84 rfl ?_
          refine j_iload hc dL_passes_86 rfl ?_
          refine xl_5 hc (i := i) (by omega) (v := (nI 0)) (w2) dL_passes_88 ?_
          refine j_if_ne hc 167 dL_passes_89 (by decide) (fun h89 => by exact absurd (show ¬ (nI 0) = (0 : Int32) from h89) (by decide)) (fun h89 => ?_)
          refine j_aload hc dL_passes_92 rfl ?_
          refine j_bipush hc (v := nI 12) dL_passes_94 (by decide) ?_
          refine j_iload hc dL_passes_96 rfl ?_
          refine j_iaddE hc (z := nI (12 + i)) (nI_add _ _) dL_passes_98 ?_
          refine xl_5 hc (i := (12 + i)) (by omega) (v := (S1 5 (12 + i))) (rfl) dL_passes_99 ?_
          refine j_aload_n hc dL_passes_100 rfl ?_
          refine j_iconst hc (v := nI 0) dL_passes_101 (by decide) ?_
          refine xl_0 hc (i := 0) (by omega) (v := (nI (Y + 1))) (G.d0) dL_passes_102 ?_
          refine j_icmp_gt hc 167 dL_passes_103 (by decide) (fun h103 => ?_) (fun h103 => ?_)
          · -- taken
            refine j_aload hc dL_passes_167 rfl ?_
            refine j_iload hc dL_passes_169 rfl ?_
            refine xl_5 hc (i := i) (by omega) (v := (nI 0)) (w2) dL_passes_171 ?_
            refine j_iconst hc (v := nI 2) dL_passes_172 (by decide) ?_
            refine j_icmp_ne hc 209 dL_passes_173 (by decide) (fun h173 => ?_) (fun h173 => by exact absurd (show (nI 0) = (nI 2) from h173) (by decide))
            refine j_aload hc dL_passes_209 rfl ?_
            refine j_iload hc dL_passes_211 rfl ?_
            refine xl_5 hc (i := i) (by omega) (v := (nI 0)) (w2) dL_passes_213 ?_
            refine j_iconst hc (v := nI 3) dL_passes_214 (by decide) ?_
            refine j_icmp_ne hc 252 dL_passes_215 (by decide) (fun h215 => ?_) (fun h215 => by exact absurd (show (nI 0) = (nI 3) from h215) (by decide))
            refine j_aload hc dL_passes_252 rfl ?_
            refine j_iload hc dL_passes_254 rfl ?_
            refine xl_5 hc (i := i) (by omega) (v := (nI 0)) (w2) dL_passes_256 ?_
            refine j_iconst hc (v := nI 4) dL_passes_257 (by decide) ?_
            refine j_icmp_ne hc 334 dL_passes_258 (by decide) (fun h258 => ?_) (fun h258 => by exact absurd (show (nI 0) = (nI 4) from h258) (by decide))
            refine j_incE hc dL_passes_334 rfl (v := nI (i + 1)) (nI_1 _) rfl ?_
            refine j_goto hc 55 dL_passes_337 (by decide) ?_
            have L := lk_0w H1 hin (by omega) (by omega) w2 h103
            refine j_lv [(0, .ref (ad 15)), (1, .ref (ad 16)), (2, .ref (ad 17)), (3, .ref (ad 18)), (4, .ref (ad 19)), (5, .ref (ad 20)), (6, .ref (ad 21)), (7, .ref (ad 22)), (8, .ref (ad 23)), (9, .int c0), (10, .int (nI (i + 1)))] ⟨rfl, rfl, rfl, rfl, rfl, rfl, rfl, rfl, rfl, rfl, rfl, trivial⟩ ?_
            exact ih K (i + 1) _ N1 _ _ (by omega) (by omega) (by omega) L.2 (by rw [hd]; exact lab_0 hin L.1)
          · -- not taken
            refine j_aload_n hc dL_passes_106 rfl ?_
            refine j_aload_n hc dL_passes_107 rfl ?_
            refine j_aload_n hc dL_passes_108 rfl ?_
            refine j_iconst hc (v := nI 0) dL_passes_109 (by decide) ?_
            refine xl_0 hc (i := 0) (by omega) (v := (nI (Y + 1))) (G.d0) dL_passes_110 ?_
            refine j_callS' hc (c_L_charges hl (S := S1) (x := Y + 1) (by omega) G.w63 G.h60) sc_L_7 rfl ⟨rfl, rfl, by decide, by decide⟩ rfl (Nat.le_of_ble_eq_true rfl) ⟨by decide, by decide⟩ dL_passes_111 (fun _ h9 => by cases h9) (fun _ => ?_)
            refine j_if_eq hc 146 dL_passes_114 (by decide) (fun h114 => ?_) (fun h114 => ?_)
            · -- taken
              refine j_aload hc dL_passes_146 rfl ?_
              refine j_bipush hc (v := nI 12) dL_passes_148 (by decide) ?_
              refine j_iload hc dL_passes_150 rfl ?_
              refine j_iaddE hc (z := nI (12 + i)) (nI_add _ _) dL_passes_152 ?_
              refine j_aload_n hc dL_passes_153 rfl ?_
              refine j_aload_n hc dL_passes_154 rfl ?_
              refine j_aload_n hc dL_passes_155 rfl ?_
              refine j_iconst hc (v := nI 0) dL_passes_156 (by decide) ?_
              refine xl_0 hc (i := 0) (by omega) (v := (nI (Y + 1))) (G.d0) dL_passes_157 ?_
              refine j_iconst hc (v := nI 1) dL_passes_158 (by decide) ?_
              refine j_iaddE hc (z := nI ((Y + 1) + 1)) (nI_add _ _) dL_passes_159 ?_
              refine j_callS' hc (c_L_from hl (S := S1) (x := Y + 1 + 1) (by omega) G.w63 G.h60 (from_ok G (by omega) (by omega))) sc_L_13 rfl ⟨rfl, rfl, by decide, by decide⟩ rfl (Nat.le_of_ble_eq_true rfl) ⟨by decide, by decide⟩ dL_passes_160 (fun _ h9 => by cases h9) (fun _ => ?_)
              refine xs_5 hc (i := (12 + i)) (by omega) dL_passes_163 ?_
              refine j_goto hc 334 dL_passes_164 (by decide) ?_
              refine j_incE hc dL_passes_334 rfl (v := nI (i + 1)) (nI_1 _) rfl ?_
              refine j_goto hc 55 dL_passes_337 (by decide) ?_
              have L := lk_0f H1 hin (by omega) (by omega) w2 h103 h114
              refine j_lv [(0, .ref (ad 15)), (1, .ref (ad 16)), (2, .ref (ad 17)), (3, .ref (ad 18)), (4, .ref (ad 19)), (5, .ref (ad 20)), (6, .ref (ad 21)), (7, .ref (ad 22)), (8, .ref (ad 23)), (9, .int c0), (10, .int (nI (i + 1)))] ⟨rfl, rfl, rfl, rfl, rfl, rfl, rfl, rfl, rfl, rfl, rfl, trivial⟩ ?_
              exact ih K (i + 1) _ N1 _ _ (by omega) (by omega) (by omega) L.2 (by rw [hd]; exact lab_0 hin L.1)
            · -- not taken
              refine j_aload hc dL_passes_117 rfl ?_
              refine j_bipush hc (v := nI 24) dL_passes_119 (by decide) ?_
              refine j_iload hc dL_passes_121 rfl ?_
              refine j_iaddE hc (z := nI (24 + i)) (nI_add _ _) dL_passes_123 ?_
              refine j_dup2 hc dL_passes_124 rfl rfl ?_
              refine xl_5 hc (i := (24 + i)) (by omega) (v := (S1 5 (24 + i))) (rfl) dL_passes_125 ?_
              refine j_iconst hc (v := nI 1) dL_passes_126 (by decide) ?_
              refine j_iadd hc dL_passes_127 ?_
              refine xs_5 hc (i := (24 + i)) (by omega) dL_passes_128 ?_
              refine j_inc hc dL_passes_129 rfl (z := 1) (by decide) rfl ?_
              refine j_aload_n hc dL_passes_132 rfl ?_
              refine j_aload hc dL_passes_133 rfl ?_
              refine j_aload hc dL_passes_135 rfl ?_
              refine j_iload hc dL_passes_137 rfl ?_
              refine j_iconst hc (v := nI 1) dL_passes_139 (by decide) ?_
              refine j_callS' hc (c_L_enters hl (S := (mA S1 5 (24 + i) ((S1 5 (24 + i)) + (nI 1)))) (Y := (Y + 1)) (N := N1) (b := i) (σ := 1) (by omega) G.d0 G.t8 (by omega)) sc_L_17 rfl ⟨rfl, rfl, by decide, by decide⟩ rfl (Nat.le_of_ble_eq_true rfl) ⟨by decide, by decide⟩ dL_passes_140 (fun _ h9 => by cases h9) (fun _ => ?_)
              refine j_goto hc 334 dL_passes_143 (by decide) ?_
              refine j_incE hc dL_passes_334 rfl (v := nI (i + 1)) (nI_1 _) rfl ?_
              refine j_goto hc 55 dL_passes_337 (by decide) ?_
              have L := lk_0t H1 hin (by omega) (by omega) w2 h103 h114
              refine j_lv [(0, .ref (ad 15)), (1, .ref (ad 16)), (2, .ref (ad 17)), (3, .ref (ad 18)), (4, .ref (ad 19)), (5, .ref (ad 20)), (6, .ref (ad 21)), (7, .ref (ad 22)), (8, .ref (ad 23)), (9, .int (c0 + 1)), (10, .int (nI (i + 1)))] ⟨rfl, rfl, rfl, rfl, rfl, rfl, rfl, rfl, rfl, rfl, rfl, trivial⟩ ?_
              exact ih K (i + 1) _ (N1 + 1) _ _ (by omega) (by omega) (by omega) L.2 (by rw [hd]; exact lab_1 hin L.1)
      | 1, _ =>
        refine j_iload hc dL_passes_55 rfl ?_
        refine j_aload_n hc dL_passes_57 rfl ?_
        refine j_iconst hc (v := nI 2) dL_passes_58 (by decide) ?_
        refine xl_0 hc (i := 2) (by omega) (v := (nI n)) (G.n2) dL_passes_59 ?_
        refine j_icmp_ge hc 340 dL_passes_60 (by decide) (fun h60 => by exact absurd h60 (nI_ge (by omega) (by omega))) (fun h60 => ?_)
        refine j_aload hc dL_passes_63 rfl ?_
        refine j_bipush hc (v := nI 12) dL_passes_65 (by decide) ?_
        refine j_iload hc dL_passes_67 rfl ?_
        refine j_iaddE hc (z := nI (12 + i)) (nI_add _ _) dL_passes_69 ?_
        refine xl_5 hc (i := (12 + i)) (by omega) (v := (S1 5 (12 + i))) (rfl) dL_passes_70 ?_
        refine j_aload_n hc dL_passes_71 rfl ?_
        refine j_iconst hc (v := nI 0) dL_passes_72 (by decide) ?_
        refine xl_0 hc (i := 0) (by omega) (v := (nI (Y + 1))) (G.d0) dL_passes_73 ?_
        refine j_icmp_ne hc 81 dL_passes_74 (by decide) (fun h74 => ?_) (fun h74 => ?_)
        · -- taken
          refine j_iconst hc (v := nI 0) dL_passes_81 (by decide) ?_
          refine j_istore hc dL_passes_82 rfl ?_
          refine j_aload hc dL_passes_84 rfl ?_
          refine j_iload hc dL_passes_86 rfl ?_
          refine xl_5 hc (i := i) (by omega) (v := (nI 1)) (w2) dL_passes_88 ?_
          refine j_if_ne hc 167 dL_passes_89 (by decide) (fun h89 => ?_) (fun h89 => by exact absurd (show (nI 1) = (0 : Int32) from h89) (by decide))
          refine j_aload hc dL_passes_167 rfl ?_
          refine j_iload hc dL_passes_169 rfl ?_
          refine xl_5 hc (i := i) (by omega) (v := (nI 1)) (w2) dL_passes_171 ?_
          refine j_iconst hc (v := nI 2) dL_passes_172 (by decide) ?_
          refine j_icmp_ne hc 209 dL_passes_173 (by decide) (fun h173 => ?_) (fun h173 => by exact absurd (show (nI 1) = (nI 2) from h173) (by decide))
          refine j_aload hc dL_passes_209 rfl ?_
          refine j_iload hc dL_passes_211 rfl ?_
          refine xl_5 hc (i := i) (by omega) (v := (nI 1)) (w2) dL_passes_213 ?_
          refine j_iconst hc (v := nI 3) dL_passes_214 (by decide) ?_
          refine j_icmp_ne hc 252 dL_passes_215 (by decide) (fun h215 => ?_) (fun h215 => by exact absurd (show (nI 1) = (nI 3) from h215) (by decide))
          refine j_aload hc dL_passes_252 rfl ?_
          refine j_iload hc dL_passes_254 rfl ?_
          refine xl_5 hc (i := i) (by omega) (v := (nI 1)) (w2) dL_passes_256 ?_
          refine j_iconst hc (v := nI 4) dL_passes_257 (by decide) ?_
          refine j_icmp_ne hc 334 dL_passes_258 (by decide) (fun h258 => ?_) (fun h258 => by exact absurd (show (nI 1) = (nI 4) from h258) (by decide))
          refine j_incE hc dL_passes_334 rfl (v := nI (i + 1)) (nI_1 _) rfl ?_
          refine j_goto hc 55 dL_passes_337 (by decide) ?_
          have L := lk_n H1 hin (Or.inr ⟨1, by decide, w2⟩)
          refine j_lv [(0, .ref (ad 15)), (1, .ref (ad 16)), (2, .ref (ad 17)), (3, .ref (ad 18)), (4, .ref (ad 19)), (5, .ref (ad 20)), (6, .ref (ad 21)), (7, .ref (ad 22)), (8, .ref (ad 23)), (9, .int c0), (10, .int (nI (i + 1)))] ⟨rfl, rfl, rfl, rfl, rfl, rfl, rfl, rfl, rfl, rfl, rfl, trivial⟩ ?_
          exact ih K (i + 1) _ N1 _ _ (by omega) (by omega) (by omega) L.2 (by rw [hd]; exact lab_0 hin L.1)
        · -- not taken
          refine j_iconst hc (v := nI 1) dL_passes_77 (by decide) ?_
          refine j_goto hc 82 dL_passes_78 (by decide) ?_
          refine j_istore hc dL_passes_82 rfl ?_
          refine j_aload hc dL_passes_84 rfl ?_
          refine j_iload hc dL_passes_86 rfl ?_
          refine xl_5 hc (i := i) (by omega) (v := (nI 1)) (w2) dL_passes_88 ?_
          refine j_if_ne hc 167 dL_passes_89 (by decide) (fun h89 => ?_) (fun h89 => by exact absurd (show (nI 1) = (0 : Int32) from h89) (by decide))
          refine j_aload hc dL_passes_167 rfl ?_
          refine j_iload hc dL_passes_169 rfl ?_
          refine xl_5 hc (i := i) (by omega) (v := (nI 1)) (w2) dL_passes_171 ?_
          refine j_iconst hc (v := nI 2) dL_passes_172 (by decide) ?_
          refine j_icmp_ne hc 209 dL_passes_173 (by decide) (fun h173 => ?_) (fun h173 => by exact absurd (show (nI 1) = (nI 2) from h173) (by decide))
          refine j_aload hc dL_passes_209 rfl ?_
          refine j_iload hc dL_passes_211 rfl ?_
          refine xl_5 hc (i := i) (by omega) (v := (nI 1)) (w2) dL_passes_213 ?_
          refine j_iconst hc (v := nI 3) dL_passes_214 (by decide) ?_
          refine j_icmp_ne hc 252 dL_passes_215 (by decide) (fun h215 => ?_) (fun h215 => by exact absurd (show (nI 1) = (nI 3) from h215) (by decide))
          refine j_aload hc dL_passes_252 rfl ?_
          refine j_iload hc dL_passes_254 rfl ?_
          refine xl_5 hc (i := i) (by omega) (v := (nI 1)) (w2) dL_passes_256 ?_
          refine j_iconst hc (v := nI 4) dL_passes_257 (by decide) ?_
          refine j_icmp_ne hc 334 dL_passes_258 (by decide) (fun h258 => ?_) (fun h258 => by exact absurd (show (nI 1) = (nI 4) from h258) (by decide))
          refine j_incE hc dL_passes_334 rfl (v := nI (i + 1)) (nI_1 _) rfl ?_
          refine j_goto hc 55 dL_passes_337 (by decide) ?_
          have L := lk_n H1 hin (Or.inr ⟨1, by decide, w2⟩)
          refine j_lv [(0, .ref (ad 15)), (1, .ref (ad 16)), (2, .ref (ad 17)), (3, .ref (ad 18)), (4, .ref (ad 19)), (5, .ref (ad 20)), (6, .ref (ad 21)), (7, .ref (ad 22)), (8, .ref (ad 23)), (9, .int c0), (10, .int (nI (i + 1)))] ⟨rfl, rfl, rfl, rfl, rfl, rfl, rfl, rfl, rfl, rfl, rfl, trivial⟩ ?_
          exact ih K (i + 1) _ N1 _ _ (by omega) (by omega) (by omega) L.2 (by rw [hd]; exact lab_0 hin L.1)
      | 2, _ =>
        refine j_iload hc dL_passes_55 rfl ?_
        refine j_aload_n hc dL_passes_57 rfl ?_
        refine j_iconst hc (v := nI 2) dL_passes_58 (by decide) ?_
        refine xl_0 hc (i := 2) (by omega) (v := (nI n)) (G.n2) dL_passes_59 ?_
        refine j_icmp_ge hc 340 dL_passes_60 (by decide) (fun h60 => by exact absurd h60 (nI_ge (by omega) (by omega))) (fun h60 => ?_)
        refine j_aload hc dL_passes_63 rfl ?_
        refine j_bipush hc (v := nI 12) dL_passes_65 (by decide) ?_
        refine j_iload hc dL_passes_67 rfl ?_
        refine j_iaddE hc (z := nI (12 + i)) (nI_add _ _) dL_passes_69 ?_
        refine xl_5 hc (i := (12 + i)) (by omega) (v := (S1 5 (12 + i))) (rfl) dL_passes_70 ?_
        refine j_aload_n hc dL_passes_71 rfl ?_
        refine j_iconst hc (v := nI 0) dL_passes_72 (by decide) ?_
        refine xl_0 hc (i := 0) (by omega) (v := (nI (Y + 1))) (G.d0) dL_passes_73 ?_
        refine j_icmp_ne hc 81 dL_passes_74 (by decide) (fun h74 => ?_) (fun h74 => ?_)
        · -- taken
          refine j_iconst hc (v := nI 0) dL_passes_81 (by decide) ?_
          refine j_istore hc dL_passes_82 rfl ?_
          refine j_aload hc dL_passes_84 rfl ?_
          refine j_iload hc dL_passes_86 rfl ?_
          refine xl_5 hc (i := i) (by omega) (v := (nI 2)) (w2) dL_passes_88 ?_
          refine j_if_ne hc 167 dL_passes_89 (by decide) (fun h89 => ?_) (fun h89 => by exact absurd (show (nI 2) = (0 : Int32) from h89) (by decide))
          refine j_aload hc dL_passes_167 rfl ?_
          refine j_iload hc dL_passes_169 rfl ?_
          refine xl_5 hc (i := i) (by omega) (v := (nI 2)) (w2) dL_passes_171 ?_
          refine j_iconst hc (v := nI 2) dL_passes_172 (by decide) ?_
          refine j_icmp_ne hc 209 dL_passes_173 (by decide) (fun h173 => by exact absurd (show ¬ (nI 2) = (nI 2) from h173) (by decide)) (fun h173 => ?_)
          refine j_iload hc dL_passes_176 rfl ?_
          refine j_if_eq hc 209 dL_passes_178 (by decide) (fun h178 => ?_) (fun h178 => by exact absurd (show ¬ (nI 0) = (0 : Int32) from h178) (by decide))
          refine j_aload hc dL_passes_209 rfl ?_
          refine j_iload hc dL_passes_211 rfl ?_
          refine xl_5 hc (i := i) (by omega) (v := (nI 2)) (w2) dL_passes_213 ?_
          refine j_iconst hc (v := nI 3) dL_passes_214 (by decide) ?_
          refine j_icmp_ne hc 252 dL_passes_215 (by decide) (fun h215 => ?_) (fun h215 => by exact absurd (show (nI 2) = (nI 3) from h215) (by decide))
          refine j_aload hc dL_passes_252 rfl ?_
          refine j_iload hc dL_passes_254 rfl ?_
          refine xl_5 hc (i := i) (by omega) (v := (nI 2)) (w2) dL_passes_256 ?_
          refine j_iconst hc (v := nI 4) dL_passes_257 (by decide) ?_
          refine j_icmp_ne hc 334 dL_passes_258 (by decide) (fun h258 => ?_) (fun h258 => by exact absurd (show (nI 2) = (nI 4) from h258) (by decide))
          refine j_incE hc dL_passes_334 rfl (v := nI (i + 1)) (nI_1 _) rfl ?_
          refine j_goto hc 55 dL_passes_337 (by decide) ?_
          have L := lk_n H1 hin (Or.inl ⟨2, by decide, w2, h74⟩)
          refine j_lv [(0, .ref (ad 15)), (1, .ref (ad 16)), (2, .ref (ad 17)), (3, .ref (ad 18)), (4, .ref (ad 19)), (5, .ref (ad 20)), (6, .ref (ad 21)), (7, .ref (ad 22)), (8, .ref (ad 23)), (9, .int c0), (10, .int (nI (i + 1)))] ⟨rfl, rfl, rfl, rfl, rfl, rfl, rfl, rfl, rfl, rfl, rfl, trivial⟩ ?_
          exact ih K (i + 1) _ N1 _ _ (by omega) (by omega) (by omega) L.2 (by rw [hd]; exact lab_0 hin L.1)
        · -- not taken
          refine j_iconst hc (v := nI 1) dL_passes_77 (by decide) ?_
          refine j_goto hc 82 dL_passes_78 (by decide) ?_
          refine j_istore hc dL_passes_82 rfl ?_
          refine j_aload hc dL_passes_84 rfl ?_
          refine j_iload hc dL_passes_86 rfl ?_
          refine xl_5 hc (i := i) (by omega) (v := (nI 2)) (w2) dL_passes_88 ?_
          refine j_if_ne hc 167 dL_passes_89 (by decide) (fun h89 => ?_) (fun h89 => by exact absurd (show (nI 2) = (0 : Int32) from h89) (by decide))
          refine j_aload hc dL_passes_167 rfl ?_
          refine j_iload hc dL_passes_169 rfl ?_
          refine xl_5 hc (i := i) (by omega) (v := (nI 2)) (w2) dL_passes_171 ?_
          refine j_iconst hc (v := nI 2) dL_passes_172 (by decide) ?_
          refine j_icmp_ne hc 209 dL_passes_173 (by decide) (fun h173 => by exact absurd (show ¬ (nI 2) = (nI 2) from h173) (by decide)) (fun h173 => ?_)
          refine j_iload hc dL_passes_176 rfl ?_
          refine j_if_eq hc 209 dL_passes_178 (by decide) (fun h178 => by exact absurd (show (nI 1) = (0 : Int32) from h178) (by decide)) (fun h178 => ?_)
          refine j_aload hc dL_passes_181 rfl ?_
          refine j_bipush hc (v := nI 12) dL_passes_183 (by decide) ?_
          refine j_iload hc dL_passes_185 rfl ?_
          refine j_iaddE hc (z := nI (12 + i)) (nI_add _ _) dL_passes_187 ?_
          refine j_dup2 hc dL_passes_188 rfl rfl ?_
          refine xl_5 hc (i := (12 + i)) (by omega) (v := (S1 5 (12 + i))) (rfl) dL_passes_189 ?_
          refine j_aload_n hc dL_passes_190 rfl ?_
          refine j_iconst hc (v := nI 4) dL_passes_191 (by decide) ?_
          refine xl_0 hc (i := 4) (by omega) (v := (S1 0 4)) (rfl) dL_passes_192 ?_
          refine j_iadd hc dL_passes_193 ?_
          refine xs_5 hc (i := (12 + i)) (by omega) dL_passes_194 ?_
          refine j_aload_n hc dL_passes_195 rfl ?_
          refine j_aload hc dL_passes_196 rfl ?_
          refine j_aload hc dL_passes_198 rfl ?_
          refine j_iload hc dL_passes_200 rfl ?_
          refine j_iconst hc (v := nI 3) dL_passes_202 (by decide) ?_
          refine j_callS' hc (c_L_enters hl (S := (mA S1 5 (12 + i) ((S1 5 (12 + i)) + (S1 0 4)))) (Y := (Y + 1)) (N := N1) (b := i) (σ := 3) (by omega) G.d0 G.t8 (by omega)) sc_L_17 rfl ⟨rfl, rfl, by decide, by decide⟩ rfl (Nat.le_of_ble_eq_true rfl) ⟨by decide, by decide⟩ dL_passes_203 (fun _ h9 => by cases h9) (fun _ => ?_)
          refine j_goto hc 334 dL_passes_206 (by decide) ?_
          refine j_incE hc dL_passes_334 rfl (v := nI (i + 1)) (nI_1 _) rfl ?_
          refine j_goto hc 55 dL_passes_337 (by decide) ?_
          have L := lk_2 H1 hin (by omega) (by omega) w2 h74
          refine j_lv [(0, .ref (ad 15)), (1, .ref (ad 16)), (2, .ref (ad 17)), (3, .ref (ad 18)), (4, .ref (ad 19)), (5, .ref (ad 20)), (6, .ref (ad 21)), (7, .ref (ad 22)), (8, .ref (ad 23)), (9, .int c0), (10, .int (nI (i + 1)))] ⟨rfl, rfl, rfl, rfl, rfl, rfl, rfl, rfl, rfl, rfl, rfl, trivial⟩ ?_
          exact ih K (i + 1) _ (N1 + 1) _ _ (by omega) (by omega) (by omega) L.2 (by rw [hd]; exact lab_0 hin L.1)
      | 3, _ =>
        refine j_iload hc dL_passes_55 rfl ?_
        refine j_aload_n hc dL_passes_57 rfl ?_
        refine j_iconst hc (v := nI 2) dL_passes_58 (by decide) ?_
        refine xl_0 hc (i := 2) (by omega) (v := (nI n)) (G.n2) dL_passes_59 ?_
        refine j_icmp_ge hc 340 dL_passes_60 (by decide) (fun h60 => by exact absurd h60 (nI_ge (by omega) (by omega))) (fun h60 => ?_)
        refine j_aload hc dL_passes_63 rfl ?_
        refine j_bipush hc (v := nI 12) dL_passes_65 (by decide) ?_
        refine j_iload hc dL_passes_67 rfl ?_
        refine j_iaddE hc (z := nI (12 + i)) (nI_add _ _) dL_passes_69 ?_
        refine xl_5 hc (i := (12 + i)) (by omega) (v := (S1 5 (12 + i))) (rfl) dL_passes_70 ?_
        refine j_aload_n hc dL_passes_71 rfl ?_
        refine j_iconst hc (v := nI 0) dL_passes_72 (by decide) ?_
        refine xl_0 hc (i := 0) (by omega) (v := (nI (Y + 1))) (G.d0) dL_passes_73 ?_
        refine j_icmp_ne hc 81 dL_passes_74 (by decide) (fun h74 => ?_) (fun h74 => ?_)
        · -- taken
          refine j_iconst hc (v := nI 0) dL_passes_81 (by decide) ?_
          refine j_istore hc dL_passes_82 rfl ?_
          refine j_aload hc dL_passes_84 rfl ?_
          refine j_iload hc dL_passes_86 rfl ?_
          refine xl_5 hc (i := i) (by omega) (v := (nI 3)) (w2) dL_passes_88 ?_
          refine j_if_ne hc 167 dL_passes_89 (by decide) (fun h89 => ?_) (fun h89 => by exact absurd (show (nI 3) = (0 : Int32) from h89) (by decide))
          refine j_aload hc dL_passes_167 rfl ?_
          refine j_iload hc dL_passes_169 rfl ?_
          refine xl_5 hc (i := i) (by omega) (v := (nI 3)) (w2) dL_passes_171 ?_
          refine j_iconst hc (v := nI 2) dL_passes_172 (by decide) ?_
          refine j_icmp_ne hc 209 dL_passes_173 (by decide) (fun h173 => ?_) (fun h173 => by exact absurd (show (nI 3) = (nI 2) from h173) (by decide))
          refine j_aload hc dL_passes_209 rfl ?_
          refine j_iload hc dL_passes_211 rfl ?_
          refine xl_5 hc (i := i) (by omega) (v := (nI 3)) (w2) dL_passes_213 ?_
          refine j_iconst hc (v := nI 3) dL_passes_214 (by decide) ?_
          refine j_icmp_ne hc 252 dL_passes_215 (by decide) (fun h215 => by exact absurd (show ¬ (nI 3) = (nI 3) from h215) (by decide)) (fun h215 => ?_)
          refine j_iload hc dL_passes_218 rfl ?_
          refine j_if_eq hc 252 dL_passes_220 (by decide) (fun h220 => ?_) (fun h220 => by exact absurd (show ¬ (nI 0) = (0 : Int32) from h220) (by decide))
          refine j_aload hc dL_passes_252 rfl ?_
          refine j_iload hc dL_passes_254 rfl ?_
          refine xl_5 hc (i := i) (by omega) (v := (nI 3)) (w2) dL_passes_256 ?_
          refine j_iconst hc (v := nI 4) dL_passes_257 (by decide) ?_
          refine j_icmp_ne hc 334 dL_passes_258 (by decide) (fun h258 => ?_) (fun h258 => by exact absurd (show (nI 3) = (nI 4) from h258) (by decide))
          refine j_incE hc dL_passes_334 rfl (v := nI (i + 1)) (nI_1 _) rfl ?_
          refine j_goto hc 55 dL_passes_337 (by decide) ?_
          have L := lk_n H1 hin (Or.inl ⟨3, by decide, w2, h74⟩)
          refine j_lv [(0, .ref (ad 15)), (1, .ref (ad 16)), (2, .ref (ad 17)), (3, .ref (ad 18)), (4, .ref (ad 19)), (5, .ref (ad 20)), (6, .ref (ad 21)), (7, .ref (ad 22)), (8, .ref (ad 23)), (9, .int c0), (10, .int (nI (i + 1)))] ⟨rfl, rfl, rfl, rfl, rfl, rfl, rfl, rfl, rfl, rfl, rfl, trivial⟩ ?_
          exact ih K (i + 1) _ N1 _ _ (by omega) (by omega) (by omega) L.2 (by rw [hd]; exact lab_0 hin L.1)
        · -- not taken
          refine j_iconst hc (v := nI 1) dL_passes_77 (by decide) ?_
          refine j_goto hc 82 dL_passes_78 (by decide) ?_
          refine j_istore hc dL_passes_82 rfl ?_
          refine j_aload hc dL_passes_84 rfl ?_
          refine j_iload hc dL_passes_86 rfl ?_
          refine xl_5 hc (i := i) (by omega) (v := (nI 3)) (w2) dL_passes_88 ?_
          refine j_if_ne hc 167 dL_passes_89 (by decide) (fun h89 => ?_) (fun h89 => by exact absurd (show (nI 3) = (0 : Int32) from h89) (by decide))
          refine j_aload hc dL_passes_167 rfl ?_
          refine j_iload hc dL_passes_169 rfl ?_
          refine xl_5 hc (i := i) (by omega) (v := (nI 3)) (w2) dL_passes_171 ?_
          refine j_iconst hc (v := nI 2) dL_passes_172 (by decide) ?_
          refine j_icmp_ne hc 209 dL_passes_173 (by decide) (fun h173 => ?_) (fun h173 => by exact absurd (show (nI 3) = (nI 2) from h173) (by decide))
          refine j_aload hc dL_passes_209 rfl ?_
          refine j_iload hc dL_passes_211 rfl ?_
          refine xl_5 hc (i := i) (by omega) (v := (nI 3)) (w2) dL_passes_213 ?_
          refine j_iconst hc (v := nI 3) dL_passes_214 (by decide) ?_
          refine j_icmp_ne hc 252 dL_passes_215 (by decide) (fun h215 => by exact absurd (show ¬ (nI 3) = (nI 3) from h215) (by decide)) (fun h215 => ?_)
          refine j_iload hc dL_passes_218 rfl ?_
          refine j_if_eq hc 252 dL_passes_220 (by decide) (fun h220 => by exact absurd (show (nI 1) = (0 : Int32) from h220) (by decide)) (fun h220 => ?_)
          refine j_aload_n hc dL_passes_223 rfl ?_
          refine j_bipush hc (v := nI 6) dL_passes_224 (by decide) ?_
          refine j_dup2 hc dL_passes_226 rfl rfl ?_
          refine xl_0 hc (i := 6) (by omega) (v := (S1 0 6)) (rfl) dL_passes_227 ?_
          refine j_aload hc dL_passes_228 rfl ?_
          refine j_bipush hc (v := nI 24) dL_passes_230 (by decide) ?_
          refine j_iload hc dL_passes_232 rfl ?_
          refine j_iaddE hc (z := nI (24 + i)) (nI_add _ _) dL_passes_234 ?_
          refine xl_4 hc (i := (24 + i)) (by omega) (v := (S1 4 (24 + i))) (rfl) dL_passes_235 ?_
          refine j_iadd hc dL_passes_236 ?_
          refine xs_0 hc (i := 6) (by omega) dL_passes_237 ?_
          refine j_aload_n hc dL_passes_238 rfl ?_
          refine j_aload hc dL_passes_239 rfl ?_
          refine j_aload hc dL_passes_241 rfl ?_
          refine j_iload hc dL_passes_243 rfl ?_
          refine j_iconst hc (v := nI 5) dL_passes_245 (by decide) ?_
          refine j_callS' hc (c_L_enters hl (S := (mA S1 0 6 ((S1 0 6) + (S1 4 (24 + i))))) (Y := (Y + 1)) (N := N1) (b := i) (σ := 5) (by omega) G.d0 G.t8 (by omega)) sc_L_17 rfl ⟨rfl, rfl, by decide, by decide⟩ rfl (Nat.le_of_ble_eq_true rfl) ⟨by decide, by decide⟩ dL_passes_246 (fun _ h9 => by cases h9) (fun _ => ?_)
          refine j_goto hc 334 dL_passes_249 (by decide) ?_
          refine j_incE hc dL_passes_334 rfl (v := nI (i + 1)) (nI_1 _) rfl ?_
          refine j_goto hc 55 dL_passes_337 (by decide) ?_
          have L := lk_3 H1 hin (by omega) (by omega) w2 h74
          refine j_lv [(0, .ref (ad 15)), (1, .ref (ad 16)), (2, .ref (ad 17)), (3, .ref (ad 18)), (4, .ref (ad 19)), (5, .ref (ad 20)), (6, .ref (ad 21)), (7, .ref (ad 22)), (8, .ref (ad 23)), (9, .int c0), (10, .int (nI (i + 1)))] ⟨rfl, rfl, rfl, rfl, rfl, rfl, rfl, rfl, rfl, rfl, rfl, trivial⟩ ?_
          exact ih K (i + 1) _ (N1 + 1) _ _ (by omega) (by omega) (by omega) L.2 (by rw [hd]; exact lab_0 hin L.1)
      | 4, _ =>
        refine j_iload hc dL_passes_55 rfl ?_
        refine j_aload_n hc dL_passes_57 rfl ?_
        refine j_iconst hc (v := nI 2) dL_passes_58 (by decide) ?_
        refine xl_0 hc (i := 2) (by omega) (v := (nI n)) (G.n2) dL_passes_59 ?_
        refine j_icmp_ge hc 340 dL_passes_60 (by decide) (fun h60 => by exact absurd h60 (nI_ge (by omega) (by omega))) (fun h60 => ?_)
        refine j_aload hc dL_passes_63 rfl ?_
        refine j_bipush hc (v := nI 12) dL_passes_65 (by decide) ?_
        refine j_iload hc dL_passes_67 rfl ?_
        refine j_iaddE hc (z := nI (12 + i)) (nI_add _ _) dL_passes_69 ?_
        refine xl_5 hc (i := (12 + i)) (by omega) (v := (S1 5 (12 + i))) (rfl) dL_passes_70 ?_
        refine j_aload_n hc dL_passes_71 rfl ?_
        refine j_iconst hc (v := nI 0) dL_passes_72 (by decide) ?_
        refine xl_0 hc (i := 0) (by omega) (v := (nI (Y + 1))) (G.d0) dL_passes_73 ?_
        refine j_icmp_ne hc 81 dL_passes_74 (by decide) (fun h74 => ?_) (fun h74 => ?_)
        · -- taken
          refine j_iconst hc (v := nI 0) dL_passes_81 (by decide) ?_
          refine j_istore hc dL_passes_82 rfl ?_
          refine j_aload hc dL_passes_84 rfl ?_
          refine j_iload hc dL_passes_86 rfl ?_
          refine xl_5 hc (i := i) (by omega) (v := (nI 4)) (w2) dL_passes_88 ?_
          refine j_if_ne hc 167 dL_passes_89 (by decide) (fun h89 => ?_) (fun h89 => by exact absurd (show (nI 4) = (0 : Int32) from h89) (by decide))
          refine j_aload hc dL_passes_167 rfl ?_
          refine j_iload hc dL_passes_169 rfl ?_
          refine xl_5 hc (i := i) (by omega) (v := (nI 4)) (w2) dL_passes_171 ?_
          refine j_iconst hc (v := nI 2) dL_passes_172 (by decide) ?_
          refine j_icmp_ne hc 209 dL_passes_173 (by decide) (fun h173 => ?_) (fun h173 => by exact absurd (show (nI 4) = (nI 2) from h173) (by decide))
          refine j_aload hc dL_passes_209 rfl ?_
          refine j_iload hc dL_passes_211 rfl ?_
          refine xl_5 hc (i := i) (by omega) (v := (nI 4)) (w2) dL_passes_213 ?_
          refine j_iconst hc (v := nI 3) dL_passes_214 (by decide) ?_
          refine j_icmp_ne hc 252 dL_passes_215 (by decide) (fun h215 => ?_) (fun h215 => by exact absurd (show (nI 4) = (nI 3) from h215) (by decide))
          refine j_aload hc dL_passes_252 rfl ?_
          refine j_iload hc dL_passes_254 rfl ?_
          refine xl_5 hc (i := i) (by omega) (v := (nI 4)) (w2) dL_passes_256 ?_
          refine j_iconst hc (v := nI 4) dL_passes_257 (by decide) ?_
          refine j_icmp_ne hc 334 dL_passes_258 (by decide) (fun h258 => by exact absurd (show ¬ (nI 4) = (nI 4) from h258) (by decide)) (fun h258 => ?_)
          refine j_iload hc dL_passes_261 rfl ?_
          refine j_if_eq hc 334 dL_passes_263 (by decide) (fun h263 => ?_) (fun h263 => by exact absurd (show ¬ (nI 0) = (0 : Int32) from h263) (by decide))
          refine j_incE hc dL_passes_334 rfl (v := nI (i + 1)) (nI_1 _) rfl ?_
          refine j_goto hc 55 dL_passes_337 (by decide) ?_
          have L := lk_n H1 hin (Or.inl ⟨4, by decide, w2, h74⟩)
          refine j_lv [(0, .ref (ad 15)), (1, .ref (ad 16)), (2, .ref (ad 17)), (3, .ref (ad 18)), (4, .ref (ad 19)), (5, .ref (ad 20)), (6, .ref (ad 21)), (7, .ref (ad 22)), (8, .ref (ad 23)), (9, .int c0), (10, .int (nI (i + 1)))] ⟨rfl, rfl, rfl, rfl, rfl, rfl, rfl, rfl, rfl, rfl, rfl, trivial⟩ ?_
          exact ih K (i + 1) _ N1 _ _ (by omega) (by omega) (by omega) L.2 (by rw [hd]; exact lab_0 hin L.1)
        · -- not taken
          refine j_iconst hc (v := nI 1) dL_passes_77 (by decide) ?_
          refine j_goto hc 82 dL_passes_78 (by decide) ?_
          refine j_istore hc dL_passes_82 rfl ?_
          refine j_aload hc dL_passes_84 rfl ?_
          refine j_iload hc dL_passes_86 rfl ?_
          refine xl_5 hc (i := i) (by omega) (v := (nI 4)) (w2) dL_passes_88 ?_
          refine j_if_ne hc 167 dL_passes_89 (by decide) (fun h89 => ?_) (fun h89 => by exact absurd (show (nI 4) = (0 : Int32) from h89) (by decide))
          refine j_aload hc dL_passes_167 rfl ?_
          refine j_iload hc dL_passes_169 rfl ?_
          refine xl_5 hc (i := i) (by omega) (v := (nI 4)) (w2) dL_passes_171 ?_
          refine j_iconst hc (v := nI 2) dL_passes_172 (by decide) ?_
          refine j_icmp_ne hc 209 dL_passes_173 (by decide) (fun h173 => ?_) (fun h173 => by exact absurd (show (nI 4) = (nI 2) from h173) (by decide))
          refine j_aload hc dL_passes_209 rfl ?_
          refine j_iload hc dL_passes_211 rfl ?_
          refine xl_5 hc (i := i) (by omega) (v := (nI 4)) (w2) dL_passes_213 ?_
          refine j_iconst hc (v := nI 3) dL_passes_214 (by decide) ?_
          refine j_icmp_ne hc 252 dL_passes_215 (by decide) (fun h215 => ?_) (fun h215 => by exact absurd (show (nI 4) = (nI 3) from h215) (by decide))
          refine j_aload hc dL_passes_252 rfl ?_
          refine j_iload hc dL_passes_254 rfl ?_
          refine xl_5 hc (i := i) (by omega) (v := (nI 4)) (w2) dL_passes_256 ?_
          refine j_iconst hc (v := nI 4) dL_passes_257 (by decide) ?_
          refine j_icmp_ne hc 334 dL_passes_258 (by decide) (fun h258 => by exact absurd (show ¬ (nI 4) = (nI 4) from h258) (by decide)) (fun h258 => ?_)
          refine j_iload hc dL_passes_261 rfl ?_
          refine j_if_eq hc 334 dL_passes_263 (by decide) (fun h263 => by exact absurd (show (nI 1) = (0 : Int32) from h263) (by decide)) (fun h263 => ?_)
          refine j_aload hc dL_passes_266 rfl ?_
          refine j_bipush hc (v := nI 24) dL_passes_268 (by decide) ?_
          refine j_iload hc dL_passes_270 rfl ?_
          refine j_iaddE hc (z := nI (24 + i)) (nI_add _ _) dL_passes_272 ?_
          refine j_dup2 hc dL_passes_273 rfl rfl ?_
          refine xl_7 hc (i := (24 + i)) (by omega) (v := (S1 7 (24 + i))) (rfl) dL_passes_274 ?_
          refine j_iconst hc (v := nI 1) dL_passes_275 (by decide) ?_
          refine j_iadd hc dL_passes_276 ?_
          refine xs_7 hc (i := (24 + i)) (by omega) dL_passes_277 ?_
          refine j_aload hc dL_passes_278 rfl ?_
          refine j_bipush hc (v := nI 12) dL_passes_280 (by decide) ?_
          refine j_iload hc dL_passes_282 rfl ?_
          refine j_iaddE hc (z := nI (12 + i)) (nI_add _ _) dL_passes_284 ?_
          refine j_aload hc dL_passes_285 rfl ?_
          refine j_iload hc dL_passes_287 rfl ?_
          refine xl_7 hc (i := i) (by omega) (v := (S1 7 i)) (Eq.trans (mA_c (by omega)) (rfl)) dL_passes_289 ?_
          refine j_if_ne hc 306 dL_passes_290 (by decide) (fun h290 => ?_) (fun h290 => ?_)
          · -- taken
            obtain ⟨τ, hτ, hτ2⟩ : ∃ τ, S1 7 i = nI τ ∧ (τ = 0 ∨ τ = 2 ∨ τ = 3) := by
              rcases qj with z | z | z
              · exact ⟨0, z, Or.inl rfl⟩
              · exact ⟨2, z, Or.inr (Or.inl rfl)⟩
              · exact ⟨3, z, Or.inr (Or.inr rfl)⟩
            refine j_aload_n hc dL_passes_306 rfl ?_
            refine j_iconst hc (v := nI 0) dL_passes_307 (by decide) ?_
            refine xl_0 hc (i := 0) (by omega) (v := (nI (Y + 1))) (Eq.trans (mA_ro (by decide)) (G.d0)) dL_passes_308 ?_
            refine j_aload hc dL_passes_309 rfl ?_
            refine j_bipush hc (v := nI 12) dL_passes_311 (by decide) ?_
            refine j_iload hc dL_passes_313 rfl ?_
            refine j_iaddE hc (z := nI (12 + i)) (nI_add _ _) dL_passes_315 ?_
            refine xl_7 hc (i := (12 + i)) (by omega) (v := (S1 7 (12 + i))) (Eq.trans (mA_c (by omega)) (rfl)) dL_passes_316 ?_
            refine j_iadd hc dL_passes_317 ?_
            refine xs_5 hc (i := (12 + i)) (by omega) dL_passes_318 ?_
            refine j_aload_n hc dL_passes_319 rfl ?_
            refine j_aload hc dL_passes_320 rfl ?_
            refine j_aload hc dL_passes_322 rfl ?_
            refine j_iload hc dL_passes_324 rfl ?_
            refine j_aload hc dL_passes_326 rfl ?_
            refine j_iload hc dL_passes_328 rfl ?_
            refine xl_7 hc (i := i) (by omega) (v := (nI τ)) (Eq.trans (mA_ro (by decide)) (Eq.trans (mA_c (by omega)) (hτ))) dL_passes_330 ?_
            refine j_callS' hc (c_L_enters hl (S := (mA (mA S1 7 (24 + i) ((S1 7 (24 + i)) + (nI 1))) 5 (12 + i) ((nI (Y + 1)) + (S1 7 (12 + i))))) (Y := (Y + 1)) (N := N1) (b := i) (σ := τ) (by omega) G.d0 G.t8 (by omega)) sc_L_17 rfl ⟨rfl, rfl, by decide, by decide⟩ rfl (Nat.le_of_ble_eq_true rfl) ⟨by decide, by decide⟩ dL_passes_331 (fun _ h9 => by cases h9) (fun _ => ?_)
            refine j_incE hc dL_passes_334 rfl (v := nI (i + 1)) (nI_1 _) rfl ?_
            refine j_goto hc 55 dL_passes_337 (by decide) ?_
            have L := lk_4b H1 hin (by omega) (by omega) w2 h74 h290 hτ hτ2
            refine j_lv [(0, .ref (ad 15)), (1, .ref (ad 16)), (2, .ref (ad 17)), (3, .ref (ad 18)), (4, .ref (ad 19)), (5, .ref (ad 20)), (6, .ref (ad 21)), (7, .ref (ad 22)), (8, .ref (ad 23)), (9, .int c0), (10, .int (nI (i + 1)))] ⟨rfl, rfl, rfl, rfl, rfl, rfl, rfl, rfl, rfl, rfl, rfl, trivial⟩ ?_
            exact ih K (i + 1) _ (N1 + 1) _ _ (by omega) (by omega) (by omega) L.2 (by rw [hd]; exact lab_0 hin L.1)
          · -- not taken
            refine j_aload_n hc dL_passes_293 rfl ?_
            refine j_aload_n hc dL_passes_294 rfl ?_
            refine j_aload_n hc dL_passes_295 rfl ?_
            refine j_iconst hc (v := nI 0) dL_passes_296 (by decide) ?_
            refine xl_0 hc (i := 0) (by omega) (v := (nI (Y + 1))) (Eq.trans (mA_ro (by decide)) (G.d0)) dL_passes_297 ?_
            refine j_iconst hc (v := nI 1) dL_passes_298 (by decide) ?_
            refine j_iaddE hc (z := nI ((Y + 1) + 1)) (nI_add _ _) dL_passes_299 ?_
            refine j_callS' hc (c_L_from hl (S := (mA S1 7 (24 + i) ((S1 7 (24 + i)) + (nI 1)))) (x := Y + 1 + 1) (by omega) G.w63 G.h60 (from_ok G (by omega) (by omega))) sc_L_13 rfl ⟨rfl, rfl, by decide, by decide⟩ rfl (Nat.le_of_ble_eq_true rfl) ⟨by decide, by decide⟩ dL_passes_300 (fun _ h9 => by cases h9) (fun _ => ?_)
            refine j_goto hc 318 dL_passes_303 (by decide) ?_
            refine xs_5 hc (i := (12 + i)) (by omega) dL_passes_318 ?_
            refine j_aload_n hc dL_passes_319 rfl ?_
            refine j_aload hc dL_passes_320 rfl ?_
            refine j_aload hc dL_passes_322 rfl ?_
            refine j_iload hc dL_passes_324 rfl ?_
            refine j_aload hc dL_passes_326 rfl ?_
            refine j_iload hc dL_passes_328 rfl ?_
            refine xl_7 hc (i := i) (by omega) (v := (nI 0)) (Eq.trans (mA_ro (by decide)) (Eq.trans (mA_c (by omega)) (h290))) dL_passes_330 ?_
            refine j_callS' hc (c_L_enters hl (S := (mA (mA S1 7 (24 + i) ((S1 7 (24 + i)) + (nI 1))) 5 (12 + i) (nI (m_cf (S1 0 1) (S1 1) h 1000 (Y + 1 + 1))))) (Y := (Y + 1)) (N := N1) (b := i) (σ := 0) (by omega) G.d0 G.t8 (by omega)) sc_L_17 rfl ⟨rfl, rfl, by decide, by decide⟩ rfl (Nat.le_of_ble_eq_true rfl) ⟨by decide, by decide⟩ dL_passes_331 (fun _ h9 => by cases h9) (fun _ => ?_)
            refine j_incE hc dL_passes_334 rfl (v := nI (i + 1)) (nI_1 _) rfl ?_
            refine j_goto hc 55 dL_passes_337 (by decide) ?_
            have L := lk_4a H1 hin (by omega) (by omega) w2 h74 h290
            refine j_lv [(0, .ref (ad 15)), (1, .ref (ad 16)), (2, .ref (ad 17)), (3, .ref (ad 18)), (4, .ref (ad 19)), (5, .ref (ad 20)), (6, .ref (ad 21)), (7, .ref (ad 22)), (8, .ref (ad 23)), (9, .int c0), (10, .int (nI (i + 1)))] ⟨rfl, rfl, rfl, rfl, rfl, rfl, rfl, rfl, rfl, rfl, rfl, trivial⟩ ?_
            exact ih K (i + 1) _ (N1 + 1) _ _ (by omega) (by omega) (by omega) L.2 (by rw [hd]; exact lab_0 hin L.1)
      | 5, _ =>
        refine j_iload hc dL_passes_55 rfl ?_
        refine j_aload_n hc dL_passes_57 rfl ?_
        refine j_iconst hc (v := nI 2) dL_passes_58 (by decide) ?_
        refine xl_0 hc (i := 2) (by omega) (v := (nI n)) (G.n2) dL_passes_59 ?_
        refine j_icmp_ge hc 340 dL_passes_60 (by decide) (fun h60 => by exact absurd h60 (nI_ge (by omega) (by omega))) (fun h60 => ?_)
        refine j_aload hc dL_passes_63 rfl ?_
        refine j_bipush hc (v := nI 12) dL_passes_65 (by decide) ?_
        refine j_iload hc dL_passes_67 rfl ?_
        refine j_iaddE hc (z := nI (12 + i)) (nI_add _ _) dL_passes_69 ?_
        refine xl_5 hc (i := (12 + i)) (by omega) (v := (S1 5 (12 + i))) (rfl) dL_passes_70 ?_
        refine j_aload_n hc dL_passes_71 rfl ?_
        refine j_iconst hc (v := nI 0) dL_passes_72 (by decide) ?_
        refine xl_0 hc (i := 0) (by omega) (v := (nI (Y + 1))) (G.d0) dL_passes_73 ?_
        refine j_icmp_ne hc 81 dL_passes_74 (by decide) (fun h74 => ?_) (fun h74 => ?_)
        · -- taken
          refine j_iconst hc (v := nI 0) dL_passes_81 (by decide) ?_
          refine j_istore hc dL_passes_82 rfl ?_
          refine j_aload hc dL_passes_84 rfl ?_
          refine j_iload hc dL_passes_86 rfl ?_
          refine xl_5 hc (i := i) (by omega) (v := (nI 5)) (w2) dL_passes_88 ?_
          refine j_if_ne hc 167 dL_passes_89 (by decide) (fun h89 => ?_) (fun h89 => by exact absurd (show (nI 5) = (0 : Int32) from h89) (by decide))
          refine j_aload hc dL_passes_167 rfl ?_
          refine j_iload hc dL_passes_169 rfl ?_
          refine xl_5 hc (i := i) (by omega) (v := (nI 5)) (w2) dL_passes_171 ?_
          refine j_iconst hc (v := nI 2) dL_passes_172 (by decide) ?_
          refine j_icmp_ne hc 209 dL_passes_173 (by decide) (fun h173 => ?_) (fun h173 => by exact absurd (show (nI 5) = (nI 2) from h173) (by decide))
          refine j_aload hc dL_passes_209 rfl ?_
          refine j_iload hc dL_passes_211 rfl ?_
          refine xl_5 hc (i := i) (by omega) (v := (nI 5)) (w2) dL_passes_213 ?_
          refine j_iconst hc (v := nI 3) dL_passes_214 (by decide) ?_
          refine j_icmp_ne hc 252 dL_passes_215 (by decide) (fun h215 => ?_) (fun h215 => by exact absurd (show (nI 5) = (nI 3) from h215) (by decide))
          refine j_aload hc dL_passes_252 rfl ?_
          refine j_iload hc dL_passes_254 rfl ?_
          refine xl_5 hc (i := i) (by omega) (v := (nI 5)) (w2) dL_passes_256 ?_
          refine j_iconst hc (v := nI 4) dL_passes_257 (by decide) ?_
          refine j_icmp_ne hc 334 dL_passes_258 (by decide) (fun h258 => ?_) (fun h258 => by exact absurd (show (nI 5) = (nI 4) from h258) (by decide))
          refine j_incE hc dL_passes_334 rfl (v := nI (i + 1)) (nI_1 _) rfl ?_
          refine j_goto hc 55 dL_passes_337 (by decide) ?_
          have L := lk_n H1 hin (Or.inr ⟨5, by decide, w2⟩)
          refine j_lv [(0, .ref (ad 15)), (1, .ref (ad 16)), (2, .ref (ad 17)), (3, .ref (ad 18)), (4, .ref (ad 19)), (5, .ref (ad 20)), (6, .ref (ad 21)), (7, .ref (ad 22)), (8, .ref (ad 23)), (9, .int c0), (10, .int (nI (i + 1)))] ⟨rfl, rfl, rfl, rfl, rfl, rfl, rfl, rfl, rfl, rfl, rfl, trivial⟩ ?_
          exact ih K (i + 1) _ N1 _ _ (by omega) (by omega) (by omega) L.2 (by rw [hd]; exact lab_0 hin L.1)
        · -- not taken
          refine j_iconst hc (v := nI 1) dL_passes_77 (by decide) ?_
          refine j_goto hc 82 dL_passes_78 (by decide) ?_
          refine j_istore hc dL_passes_82 rfl ?_
          refine j_aload hc dL_passes_84 rfl ?_
          refine j_iload hc dL_passes_86 rfl ?_
          refine xl_5 hc (i := i) (by omega) (v := (nI 5)) (w2) dL_passes_88 ?_
          refine j_if_ne hc 167 dL_passes_89 (by decide) (fun h89 => ?_) (fun h89 => by exact absurd (show (nI 5) = (0 : Int32) from h89) (by decide))
          refine j_aload hc dL_passes_167 rfl ?_
          refine j_iload hc dL_passes_169 rfl ?_
          refine xl_5 hc (i := i) (by omega) (v := (nI 5)) (w2) dL_passes_171 ?_
          refine j_iconst hc (v := nI 2) dL_passes_172 (by decide) ?_
          refine j_icmp_ne hc 209 dL_passes_173 (by decide) (fun h173 => ?_) (fun h173 => by exact absurd (show (nI 5) = (nI 2) from h173) (by decide))
          refine j_aload hc dL_passes_209 rfl ?_
          refine j_iload hc dL_passes_211 rfl ?_
          refine xl_5 hc (i := i) (by omega) (v := (nI 5)) (w2) dL_passes_213 ?_
          refine j_iconst hc (v := nI 3) dL_passes_214 (by decide) ?_
          refine j_icmp_ne hc 252 dL_passes_215 (by decide) (fun h215 => ?_) (fun h215 => by exact absurd (show (nI 5) = (nI 3) from h215) (by decide))
          refine j_aload hc dL_passes_252 rfl ?_
          refine j_iload hc dL_passes_254 rfl ?_
          refine xl_5 hc (i := i) (by omega) (v := (nI 5)) (w2) dL_passes_256 ?_
          refine j_iconst hc (v := nI 4) dL_passes_257 (by decide) ?_
          refine j_icmp_ne hc 334 dL_passes_258 (by decide) (fun h258 => ?_) (fun h258 => by exact absurd (show (nI 5) = (nI 4) from h258) (by decide))
          refine j_incE hc dL_passes_334 rfl (v := nI (i + 1)) (nI_1 _) rfl ?_
          refine j_goto hc 55 dL_passes_337 (by decide) ?_
          have L := lk_n H1 hin (Or.inr ⟨5, by decide, w2⟩)
          refine j_lv [(0, .ref (ad 15)), (1, .ref (ad 16)), (2, .ref (ad 17)), (3, .ref (ad 18)), (4, .ref (ad 19)), (5, .ref (ad 20)), (6, .ref (ad 21)), (7, .ref (ad 22)), (8, .ref (ad 23)), (9, .int c0), (10, .int (nI (i + 1)))] ⟨rfl, rfl, rfl, rfl, rfl, rfl, rfl, rfl, rfl, rfl, rfl, trivial⟩ ?_
          exact ih K (i + 1) _ N1 _ _ (by omega) (by omega) (by omega) L.2 (by rw [hd]; exact lab_0 hin L.1)
      | 6, _ =>
        refine j_iload hc dL_passes_55 rfl ?_
        refine j_aload_n hc dL_passes_57 rfl ?_
        refine j_iconst hc (v := nI 2) dL_passes_58 (by decide) ?_
        refine xl_0 hc (i := 2) (by omega) (v := (nI n)) (G.n2) dL_passes_59 ?_
        refine j_icmp_ge hc 340 dL_passes_60 (by decide) (fun h60 => by exact absurd h60 (nI_ge (by omega) (by omega))) (fun h60 => ?_)
        refine j_aload hc dL_passes_63 rfl ?_
        refine j_bipush hc (v := nI 12) dL_passes_65 (by decide) ?_
        refine j_iload hc dL_passes_67 rfl ?_
        refine j_iaddE hc (z := nI (12 + i)) (nI_add _ _) dL_passes_69 ?_
        refine xl_5 hc (i := (12 + i)) (by omega) (v := (S1 5 (12 + i))) (rfl) dL_passes_70 ?_
        refine j_aload_n hc dL_passes_71 rfl ?_
        refine j_iconst hc (v := nI 0) dL_passes_72 (by decide) ?_
        refine xl_0 hc (i := 0) (by omega) (v := (nI (Y + 1))) (G.d0) dL_passes_73 ?_
        refine j_icmp_ne hc 81 dL_passes_74 (by decide) (fun h74 => ?_) (fun h74 => ?_)
        · -- taken
          refine j_iconst hc (v := nI 0) dL_passes_81 (by decide) ?_
          refine j_istore hc dL_passes_82 rfl ?_
          refine j_aload hc dL_passes_84 rfl ?_
          refine j_iload hc dL_passes_86 rfl ?_
          refine xl_5 hc (i := i) (by omega) (v := (nI 6)) (w2) dL_passes_88 ?_
          refine j_if_ne hc 167 dL_passes_89 (by decide) (fun h89 => ?_) (fun h89 => by exact absurd (show (nI 6) = (0 : Int32) from h89) (by decide))
          refine j_aload hc dL_passes_167 rfl ?_
          refine j_iload hc dL_passes_169 rfl ?_
          refine xl_5 hc (i := i) (by omega) (v := (nI 6)) (w2) dL_passes_171 ?_
          refine j_iconst hc (v := nI 2) dL_passes_172 (by decide) ?_
          refine j_icmp_ne hc 209 dL_passes_173 (by decide) (fun h173 => ?_) (fun h173 => by exact absurd (show (nI 6) = (nI 2) from h173) (by decide))
          refine j_aload hc dL_passes_209 rfl ?_
          refine j_iload hc dL_passes_211 rfl ?_
          refine xl_5 hc (i := i) (by omega) (v := (nI 6)) (w2) dL_passes_213 ?_
          refine j_iconst hc (v := nI 3) dL_passes_214 (by decide) ?_
          refine j_icmp_ne hc 252 dL_passes_215 (by decide) (fun h215 => ?_) (fun h215 => by exact absurd (show (nI 6) = (nI 3) from h215) (by decide))
          refine j_aload hc dL_passes_252 rfl ?_
          refine j_iload hc dL_passes_254 rfl ?_
          refine xl_5 hc (i := i) (by omega) (v := (nI 6)) (w2) dL_passes_256 ?_
          refine j_iconst hc (v := nI 4) dL_passes_257 (by decide) ?_
          refine j_icmp_ne hc 334 dL_passes_258 (by decide) (fun h258 => ?_) (fun h258 => by exact absurd (show (nI 6) = (nI 4) from h258) (by decide))
          refine j_incE hc dL_passes_334 rfl (v := nI (i + 1)) (nI_1 _) rfl ?_
          refine j_goto hc 55 dL_passes_337 (by decide) ?_
          have L := lk_n H1 hin (Or.inr ⟨6, by decide, w2⟩)
          refine j_lv [(0, .ref (ad 15)), (1, .ref (ad 16)), (2, .ref (ad 17)), (3, .ref (ad 18)), (4, .ref (ad 19)), (5, .ref (ad 20)), (6, .ref (ad 21)), (7, .ref (ad 22)), (8, .ref (ad 23)), (9, .int c0), (10, .int (nI (i + 1)))] ⟨rfl, rfl, rfl, rfl, rfl, rfl, rfl, rfl, rfl, rfl, rfl, trivial⟩ ?_
          exact ih K (i + 1) _ N1 _ _ (by omega) (by omega) (by omega) L.2 (by rw [hd]; exact lab_0 hin L.1)
        · -- not taken
          refine j_iconst hc (v := nI 1) dL_passes_77 (by decide) ?_
          refine j_goto hc 82 dL_passes_78 (by decide) ?_
          refine j_istore hc dL_passes_82 rfl ?_
          refine j_aload hc dL_passes_84 rfl ?_
          refine j_iload hc dL_passes_86 rfl ?_
          refine xl_5 hc (i := i) (by omega) (v := (nI 6)) (w2) dL_passes_88 ?_
          refine j_if_ne hc 167 dL_passes_89 (by decide) (fun h89 => ?_) (fun h89 => by exact absurd (show (nI 6) = (0 : Int32) from h89) (by decide))
          refine j_aload hc dL_passes_167 rfl ?_
          refine j_iload hc dL_passes_169 rfl ?_
          refine xl_5 hc (i := i) (by omega) (v := (nI 6)) (w2) dL_passes_171 ?_
          refine j_iconst hc (v := nI 2) dL_passes_172 (by decide) ?_
          refine j_icmp_ne hc 209 dL_passes_173 (by decide) (fun h173 => ?_) (fun h173 => by exact absurd (show (nI 6) = (nI 2) from h173) (by decide))
          refine j_aload hc dL_passes_209 rfl ?_
          refine j_iload hc dL_passes_211 rfl ?_
          refine xl_5 hc (i := i) (by omega) (v := (nI 6)) (w2) dL_passes_213 ?_
          refine j_iconst hc (v := nI 3) dL_passes_214 (by decide) ?_
          refine j_icmp_ne hc 252 dL_passes_215 (by decide) (fun h215 => ?_) (fun h215 => by exact absurd (show (nI 6) = (nI 3) from h215) (by decide))
          refine j_aload hc dL_passes_252 rfl ?_
          refine j_iload hc dL_passes_254 rfl ?_
          refine xl_5 hc (i := i) (by omega) (v := (nI 6)) (w2) dL_passes_256 ?_
          refine j_iconst hc (v := nI 4) dL_passes_257 (by decide) ?_
          refine j_icmp_ne hc 334 dL_passes_258 (by decide) (fun h258 => ?_) (fun h258 => by exact absurd (show (nI 6) = (nI 4) from h258) (by decide))
          refine j_incE hc dL_passes_334 rfl (v := nI (i + 1)) (nI_1 _) rfl ?_
          refine j_goto hc 55 dL_passes_337 (by decide) ?_
          have L := lk_n H1 hin (Or.inr ⟨6, by decide, w2⟩)
          refine j_lv [(0, .ref (ad 15)), (1, .ref (ad 16)), (2, .ref (ad 17)), (3, .ref (ad 18)), (4, .ref (ad 19)), (5, .ref (ad 20)), (6, .ref (ad 21)), (7, .ref (ad 22)), (8, .ref (ad 23)), (9, .int c0), (10, .int (nI (i + 1)))] ⟨rfl, rfl, rfl, rfl, rfl, rfl, rfl, rfl, rfl, rfl, rfl, trivial⟩ ?_
          exact ih K (i + 1) _ N1 _ _ (by omega) (by omega) (by omega) L.2 (by rw [hd]; exact lab_0 hin L.1)
  have loop1 : ∀ (k K i N1 : Nat) (S1 : MS) (E1 : ES), i + k = n → i + K = 30 → N1 ≤ N + i → Rel h n N1 Y E1 S1 → e_fut n 30 0 E0 = e_fut n K i E1 → J p l e (RM 3 0 0) s m args below meth c D A 12 0 0 (QY below args s D A 0 0 (WD ad cs n E S o) none (fun x : {x : MS × Nat // x.2 ≤ N + 24 ∧ Rel h n x.2 (Y + 1) (e_day n E0).2 x.1} => (some (.int (e_day n E0).1), WD ad cs n E x.1.1 o))) (WD ad cs n E S1 o) 6 [(0, .ref (ad 15)), (1, .ref (ad 16)), (2, .ref (ad 17)), (3, .ref (ad 18)), (4, .ref (ad 19)), (5, .ref (ad 20)), (6, .ref (ad 21)), (7, .ref (ad 22)), (8, .ref (ad 23)), (9, .int (nI 0)), (10, .int (nI i))] [] := by
    intro k
    induction k with
    | zero =>
      intro K i N1 S1 E1 hi hK hN1 H1 hd
      have G := H1.1
      have ed : e_fut n 30 0 E0 = E1 := by rw [hd]; exact fut_hi K i E1 (by omega)
      have ed2 : e_day n E0 = e_lab n 30 0 (nI 0) (eG E1 5 (nI (Y + 1))) := by
        unfold e_day
        rw [ed, G.d5, nI_1]
        rfl
      refine j_iload hc dL_passes_6 rfl ?_
      refine j_aload_n hc dL_passes_8 rfl ?_
      refine j_iconst hc (v := nI 2) dL_passes_9 (by decide) ?_
      refine xl_0 hc (i := 2) (by omega) (v := (nI n)) (G.n2) dL_passes_10 ?_
      refine j_icmp_ge hc 45 dL_passes_11 (by decide) (fun h11 => ?_) (fun h11 => by exact absurd (nI_le (by omega) (by omega)) h11)
      refine j_aload_n hc dL_passes_45 rfl ?_
      refine j_iconst hc (v := nI 0) dL_passes_46 (by decide) ?_
      refine j_dup2 hc dL_passes_47 rfl rfl ?_
      refine xl_0 hc (i := 0) (by omega) (v := (nI Y)) (G.d0) dL_passes_48 ?_
      refine j_iconst hc (v := nI 1) dL_passes_49 (by decide) ?_
      refine j_iaddE hc (z := nI (Y + 1)) (nI_add _ _) dL_passes_50 ?_
      refine xs_0 hc (i := 0) (by omega) dL_passes_51 ?_
      refine j_iconst hc (v := nI 0) dL_passes_52 (by decide) ?_
      refine j_istore hc dL_passes_53 rfl ?_
      refine j_lv [(0, .ref (ad 15)), (1, .ref (ad 16)), (2, .ref (ad 17)), (3, .ref (ad 18)), (4, .ref (ad 19)), (5, .ref (ad 20)), (6, .ref (ad 21)), (7, .ref (ad 22)), (8, .ref (ad 23)), (9, .int (nI 0)), (10, .int (nI 0))] ⟨rfl, rfl, rfl, rfl, rfl, rfl, rfl, rfl, rfl, rfl, rfl, trivial⟩ ?_
      exact loop2 n 30 0 _ N1 _ _ (by omega) rfl (by omega) (sim_now H1) ed2
    | succ k ih =>
      intro K i N1 S1 E1 hi hK hN1 H1 hd
      have G := H1.1
      obtain ⟨K, rfl⟩ : ∃ u, K = u + 1 := ⟨K - 1, by omega⟩
      have hin : i < n := by omega
      obtain ⟨-, σ, w1, w2, w3, -⟩ := H1.2.1 i hin
      have w2 : S1 5 i = nI σ := w2
      refine j_iload hc dL_passes_6 rfl ?_
      refine j_aload_n hc dL_passes_8 rfl ?_
      refine j_iconst hc (v := nI 2) dL_passes_9 (by decide) ?_
      refine xl_0 hc (i := 2) (by omega) (v := (nI n)) (G.n2) dL_passes_10 ?_
      refine j_icmp_ge hc 45 dL_passes_11 (by decide) (fun h11 => by exact absurd h11 (nI_ge (by omega) (by omega))) (fun h11 => ?_)
      refine j_aload hc dL_passes_14 rfl ?_
      refine j_iload hc dL_passes_16 rfl ?_
      refine xl_5 hc (i := i) (by omega) (v := (nI σ)) (w2) dL_passes_18 ?_
      refine j_iconst hc (v := nI 1) dL_passes_19 (by decide) ?_
      refine j_icmp_ne hc 39 dL_passes_20 (by decide) (fun h20 => ?_) (fun h20 => ?_)
      · -- taken
        refine j_incE hc dL_passes_39 rfl (v := nI (i + 1)) (nI_1 _) rfl ?_
        refine j_goto hc 6 dL_passes_42 (by decide) ?_
        refine j_lv [(0, .ref (ad 15)), (1, .ref (ad 16)), (2, .ref (ad 17)), (3, .ref (ad 18)), (4, .ref (ad 19)), (5, .ref (ad 20)), (6, .ref (ad 21)), (7, .ref (ad 22)), (8, .ref (ad 23)), (9, .int (nI 0)), (10, .int (nI (i + 1)))] ⟨rfl, rfl, rfl, rfl, rfl, rfl, rfl, rfl, rfl, rfl, rfl, trivial⟩ ?_
        exact ih K (i + 1) N1 S1 E1 (by omega) (by omega) (by omega) H1 (by rw [hd]; exact fut_0 hin (fun z => h20 (w3.symm.trans z)))
      · -- not taken
        refine j_aload_n hc dL_passes_23 rfl ?_
        refine j_aload_n hc dL_passes_24 rfl ?_
        refine j_aload_n hc dL_passes_25 rfl ?_
        refine j_aload_n hc dL_passes_26 rfl ?_
        refine j_aload hc dL_passes_27 rfl ?_
        refine j_aload hc dL_passes_29 rfl ?_
        refine j_aload hc dL_passes_31 rfl ?_
        refine j_iload hc dL_passes_33 rfl ?_
        refine j_iconst hc (v := nI 4) dL_passes_35 (by decide) ?_
        refine j_callXS hc (c_L_fails hl H1 hin (by omega) (by omega) (i := 3) (by decide)) sc_L_21 rfl ⟨rfl, rfl, by decide, by decide⟩ rfl (Nat.le_of_ble_eq_true rfl) ⟨by decide, by decide⟩ dL_passes_36 (fun x => ?_)
        obtain ⟨S2, H2⟩ := x
        refine j_w (w' := WD ad cs n E S2 o) rfl ?_
        refine j_incE hc dL_passes_39 rfl (v := nI (i + 1)) (nI_1 _) rfl ?_
        refine j_goto hc 6 dL_passes_42 (by decide) ?_
        refine j_lv [(0, .ref (ad 15)), (1, .ref (ad 16)), (2, .ref (ad 17)), (3, .ref (ad 18)), (4, .ref (ad 19)), (5, .ref (ad 20)), (6, .ref (ad 21)), (7, .ref (ad 22)), (8, .ref (ad 23)), (9, .int (nI 0)), (10, .int (nI (i + 1)))] ⟨rfl, rfl, rfl, rfl, rfl, rfl, rfl, rfl, rfl, rfl, rfl, trivial⟩ ?_
        exact ih K (i + 1) (N1 + 1) S2 _ (by omega) (by omega) (by omega) H2 (by rw [hd]; exact fut_1 hin (w3.trans h20))
  refine j_iconst hc (v := nI 0) dL_passes_0 (by decide) ?_
  refine j_istore hc dL_passes_1 rfl ?_
  refine j_iconst hc (v := nI 0) dL_passes_3 (by decide) ?_
  refine j_istore hc dL_passes_4 rfl ?_
  refine j_lv [(0, .ref (ad 15)), (1, .ref (ad 16)), (2, .ref (ad 17)), (3, .ref (ad 18)), (4, .ref (ad 19)), (5, .ref (ad 20)), (6, .ref (ad 21)), (7, .ref (ad 22)), (8, .ref (ad 23)), (9, .int (nI 0)), (10, .int (nI 0))] ⟨rfl, rfl, rfl, rfl, rfl, rfl, rfl, rfl, rfl, rfl, rfl, trivial⟩ ?_
  exact loop1 n 30 0 N S E0 (by omega) rfl (by omega) H rfl
