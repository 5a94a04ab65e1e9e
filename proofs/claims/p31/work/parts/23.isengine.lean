theorem ge_neg {z : Int32} (h : z < 0) : ¬ 0 ≤ z := by
  have e0 : (0 : Int32).toInt = 0 := by decide
  rw [i32_lt] at h
  rw [i32_le]
  omega
set_option maxRecDepth 100000 in
set_option maxHeartbeats 4000000 in
theorem c_L_isEngine {l : Launch} {D : va_G} {cs : Nat → ClassId} {sa : Nat → Nat} (hl : l.stackTraces = false)  {ad : Nat → Nat} {n : Nat} {E : ES} {S : MS} {o : Nat → Int64} {h N Y X : Nat} (H : Rel h n N Y E S) (hY : Y ≤ 8000) (hN : N ≤ 200000) (hX : X < 2 ^ 31) : CM l D cs sa yL_isEngine cL_isEngine 16 (Option.some Jvm.ClassFile.FieldType.boolean) (RM 8 1664 13312) 1664 13312 [.ref (ad 0), .ref (ad 15), .ref (ad 16), .ref (ad 19), .ref (ad 20), .ref (ad 21), .ref (ad 22), .ref (ad 23), .int (nI X)] (WD ad cs n E S o) (none, some (.int 1), WD ad cs n E S o) := by
  refine CM.of RL hl (by decide +kernel) rfl (Nat.le_of_ble_eq_true rfl) ?_
  intro p e s m args below meth c A hc ho hmn
  have G := H.1
  have n12 := G.n12
  have hn30 : n ≤ 30 := by omega
  have k768 : J p l e (RM 8 1664 13312) s m args below meth c D A 16 (1664) (8 * (1664)) (QE below args s D A 1664 13312 (WD ad cs n E S o) (none, some (.int 1), WD ad cs n E S o)) (WD ad cs n E S o) 768 [(0, .ref (ad 0)), (9, .int (bs (S 4) n)), (10, .int (nI 1))] [] := by
    refine j_iload hc dL_isEngine_768 rfl ?_
    refine j_if_eq hc 786 dL_isEngine_770 (by decide) (fun h770 => by exact absurd (show (nI 1) = (0 : Int32) from h770) (by decide)) (fun h770 => ?_)
    refine j_aload_n hc dL_isEngine_773 rfl ?_
    refine j_callV' hc (c_X4_billed hl) vc_L_100 rfl ⟨rfl, rfl, by decide, by decide⟩ 0 rfl rfl rfl (Nat.le_of_ble_eq_true rfl) ⟨by show _ ≤ 1664; omega, by show _ ≤ 13312; omega⟩ dL_isEngine_774 (fun _ h9 => by cases h9) (fun _ => ?_)
    refine j_iload hc dL_isEngine_777 rfl ?_
    refine j_icmp_ne hc 786 dL_isEngine_779 (by decide) (fun h779 => by exact absurd G.g8 h779) (fun h779 => ?_)
    refine j_iconst hc (v := nI 1) dL_isEngine_782 (by decide) ?_
    refine j_goto hc 787 dL_isEngine_783 (by decide) ?_
    exact j_zret hc rfl (nar_01 (Or.inr rfl)) (by omega) (by omega) rfl dL_isEngine_787
  have loopS : ∀ (k i D9 : Nat), i + k = n → D9 ≤ Y → J p l e (RM 8 1664 13312) s m args below meth c D A 16 (1568 + 8 * i) (8 * (1568 + 8 * i)) (QE below args s D A 1664 13312 (WD ad cs n E S o) (none, some (.int 1), WD ad cs n E S o)) (WD ad cs n E S o) 608 [(0, .ref (ad 0)), (1, .ref (ad 15)), (7, .ref (ad 23)), (9, .int (bs (S 4) n)), (10, .int (nI 1)), (11, .int (nI D9)), (12, .int (nI i))] [] := by
    intro k
    induction k with
    | zero =>
      intro i D9 hi hD
      have hin : i = n := by omega
      refine j_iload hc dL_isEngine_608 rfl ?_
      refine j_aload_n hc dL_isEngine_610 rfl ?_
      refine j_iconst hc (v := nI 2) dL_isEngine_611 (by decide) ?_
      refine xl_0 hc (i := 2) (by omega) (v := (nI n)) (G.n2) dL_isEngine_612 ?_
      refine j_icmp_ge hc 768 dL_isEngine_613 (by decide) (fun h613 => ?_) (fun h613 => by exact absurd (nI_le (by omega) (by omega)) h613)
      refine j_lv [(0, .ref (ad 0)), (9, .int (bs (S 4) n)), (10, .int (nI 1))] ⟨rfl, rfl, rfl, trivial⟩ ?_
      refine j_widen (k := 1664) (n := 8 * (1664)) (by omega) (by omega) ?_
      exact k768
    | succ k ih =>
      intro i D9 hi hD
      have hin : i < n := by omega
      have sa := sa_eq H hN hin hY hD
      have k762 : J p l e (RM 8 1664 13312) s m args below meth c D A 16 (1568 + 8 * i + 8) (8 * (1568 + 8 * i + 8)) (QE below args s D A 1664 13312 (WD ad cs n E S o) (none, some (.int 1), WD ad cs n E S o)) (WD ad cs n E S o) 762 [(0, .ref (ad 0)), (1, .ref (ad 15)), (7, .ref (ad 23)), (9, .int (bs (S 4) n)), (10, .int (nI 1)), (11, .int (nI D9)), (12, .int (nI i))] [] := by
        refine j_incE hc dL_isEngine_762 rfl (v := nI (i + 1)) (nI_1 _) rfl ?_
        refine j_goto hc 608 dL_isEngine_765 (by decide) ?_
        refine j_lv [(0, .ref (ad 0)), (1, .ref (ad 15)), (7, .ref (ad 23)), (9, .int (bs (S 4) n)), (10, .int (nI 1)), (11, .int (nI D9)), (12, .int (nI (i + 1)))] ⟨rfl, rfl, rfl, rfl, rfl, rfl, rfl, trivial⟩ ?_
        refine j_widen (k := 1568 + 8 * (i + 1)) (n := 8 * (1568 + 8 * (i + 1))) (by omega) (by omega) ?_
        exact ih (i + 1) D9 (by omega) hD
      have kF : ∀ v, v < 2 ^ 31 → e_lso E (nI i) (nI D9) (tol N) (nI 0) = nI v → J p l e (RM 8 1664 13312) s m args below meth c D A 16 (1568 + 8 * i) (8 * (1568 + 8 * i)) (QE below args s D A 1664 13312 (WD ad cs n E S o) (none, some (.int 1), WD ad cs n E S o)) (WD ad cs n E S o) 708 [(0, .ref (ad 0)), (1, .ref (ad 15)), (7, .ref (ad 23)), (9, .int (bs (S 4) n)), (10, .int (nI 1)), (11, .int (nI D9)), (12, .int (nI i)), (13, .int (nI v))] [] := by
        intro v hv ev
        refine j_iload hc dL_isEngine_708 rfl ?_
        refine j_if_ge hc 742 dL_isEngine_710 (by decide) (fun h710 => ?_) (fun h710 => by exact absurd (nI_pos' hv) h710)
        refine j_aload_n hc dL_isEngine_742 rfl ?_
        refine j_iload hc dL_isEngine_743 rfl ?_
        refine j_iload hc dL_isEngine_745 rfl ?_
        refine j_callV' hc (k_stateAt hl hn30 (told_nn G hN) (sa.trans (by rw [ev]))) vc_L_97 rfl ⟨rfl, rfl, by decide, by decide⟩ 0 rfl rfl rfl (Nat.le_of_ble_eq_true rfl) ⟨by show _ ≤ 1664; omega, by show _ ≤ 13312; omega⟩ dL_isEngine_747 (fun _ h9 => by cases h9) (fun _ => ?_)
        refine j_iload hc dL_isEngine_750 rfl ?_
        refine j_icmp_ne hc 759 dL_isEngine_752 (by decide) (fun h752 => by exact absurd rfl h752) (fun h752 => ?_)
        refine j_iconst hc (v := nI 1) dL_isEngine_755 (by decide) ?_
        refine j_goto hc 760 dL_isEngine_756 (by decide) ?_
        refine j_istore hc dL_isEngine_760 rfl ?_
        refine j_lv [(0, .ref (ad 0)), (1, .ref (ad 15)), (7, .ref (ad 23)), (9, .int (bs (S 4) n)), (10, .int (nI 1)), (11, .int (nI D9)), (12, .int (nI i))] ⟨rfl, rfl, rfl, rfl, rfl, rfl, rfl, trivial⟩ ?_
        refine j_widen (k := 1568 + 8 * i + 8) (n := 8 * (1568 + 8 * i + 8)) (by omega) (by omega) ?_
        exact k762
      have kN : (N ≤ 60 → e_lso E (nI i) (nI D9) (tol N) (nI 0) = -1) → J p l e (RM 8 1664 13312) s m args below meth c D A 16 (1568 + 8 * i) (8 * (1568 + 8 * i)) (QE below args s D A 1664 13312 (WD ad cs n E S o) (none, some (.int 1), WD ad cs n E S o)) (WD ad cs n E S o) 708 [(0, .ref (ad 0)), (1, .ref (ad 15)), (7, .ref (ad 23)), (9, .int (bs (S 4) n)), (10, .int (nI 1)), (11, .int (nI D9)), (12, .int (nI i)), (13, .int (-2))] [] := by
        intro ev
        refine j_iload hc dL_isEngine_708 rfl ?_
        refine j_if_ge hc 742 dL_isEngine_710 (by decide) (fun h710 => by exact absurd (show (0 : Int32) ≤ ((-2) : Int32) from h710) (by decide)) (fun h710 => ?_)
        refine j_aload_n hc dL_isEngine_713 rfl ?_
        refine j_bipush hc (v := nI 8) dL_isEngine_714 (by decide) ?_
        refine xl_0 hc (i := 8) (by omega) (v := (nI N)) (G.t8) dL_isEngine_716 ?_
        refine j_bipush hc (v := nI 60) dL_isEngine_717 (by decide) ?_
        refine j_icmp_gt hc 734 dL_isEngine_719 (by decide) (fun h719 => ?_) (fun h719 => ?_)
        · -- taken
          refine j_iconst hc (v := nI 1) dL_isEngine_734 (by decide) ?_
          refine j_goto hc 760 dL_isEngine_735 (by decide) ?_
          refine j_istore hc dL_isEngine_760 rfl ?_
          refine j_lv [(0, .ref (ad 0)), (1, .ref (ad 15)), (7, .ref (ad 23)), (9, .int (bs (S 4) n)), (10, .int (nI 1)), (11, .int (nI D9)), (12, .int (nI i))] ⟨rfl, rfl, rfl, rfl, rfl, rfl, rfl, trivial⟩ ?_
          refine j_widen (k := 1568 + 8 * i + 8) (n := 8 * (1568 + 8 * i + 8)) (by omega) (by omega) ?_
          exact k762
        · -- not taken
          have hN60 : N ≤ 60 := by
            by_cases z : N ≤ 60
            · exact z
            · exact absurd (nI_lt (by omega) (by omega)) h719
          refine j_aload_n hc dL_isEngine_722 rfl ?_
          refine j_iload hc dL_isEngine_723 rfl ?_
          refine j_iload hc dL_isEngine_725 rfl ?_
          refine j_callV' hc (k_stateAt hl hn30 (told_nn G hN) (sa.trans (by rw [ev hN60]))) vc_L_97 rfl ⟨rfl, rfl, by decide, by decide⟩ 0 rfl rfl rfl (Nat.le_of_ble_eq_true rfl) ⟨by show _ ≤ 1664; omega, by show _ ≤ 13312; omega⟩ dL_isEngine_727 (fun _ h9 => by cases h9) (fun _ => ?_)
          refine j_iconst hc (v := -1) dL_isEngine_730 (by decide) ?_
          refine j_icmp_ne hc 738 dL_isEngine_731 (by decide) (fun h731 => by exact absurd rfl h731) (fun h731 => ?_)
          refine j_iconst hc (v := nI 1) dL_isEngine_734 (by decide) ?_
          refine j_goto hc 760 dL_isEngine_735 (by decide) ?_
          refine j_istore hc dL_isEngine_760 rfl ?_
          refine j_lv [(0, .ref (ad 0)), (1, .ref (ad 15)), (7, .ref (ad 23)), (9, .int (bs (S 4) n)), (10, .int (nI 1)), (11, .int (nI D9)), (12, .int (nI i))] ⟨rfl, rfl, rfl, rfl, rfl, rfl, rfl, trivial⟩ ?_
          refine j_widen (k := 1568 + 8 * i + 8) (n := 8 * (1568 + 8 * i + 8)) (by omega) (by omega) ?_
          exact k762
      have kH : ∀ t v, t ≤ 60 → v < 2 ^ 31 → e_lso E (nI i) (nI D9) (tol N) (nI 0) = nI v → J p l e (RM 8 1664 13312) s m args below meth c D A 16 (1568 + 8 * i) (8 * (1568 + 8 * i)) (QE below args s D A 1664 13312 (WD ad cs n E S o) (none, some (.int 1), WD ad cs n E S o)) (WD ad cs n E S o) 628 [(0, .ref (ad 0)), (1, .ref (ad 15)), (7, .ref (ad 23)), (9, .int (bs (S 4) n)), (10, .int (nI 1)), (11, .int (nI D9)), (12, .int (nI i)), (13, .int (nI v)), (14, .int (nI t))] [] := by
        intro t v ht hv ev
        refine j_iload hc dL_isEngine_628 rfl ?_
        refine j_bipush hc (v := nI 60) dL_isEngine_630 (by decide) ?_
        refine j_icmp_ge hc 708 dL_isEngine_632 (by decide) (fun h632 => ?_) (fun h632 => ?_)
        · -- taken
          refine j_lv [(0, .ref (ad 0)), (1, .ref (ad 15)), (7, .ref (ad 23)), (9, .int (bs (S 4) n)), (10, .int (nI 1)), (11, .int (nI D9)), (12, .int (nI i)), (13, .int (nI v))] ⟨rfl, rfl, rfl, rfl, rfl, rfl, rfl, rfl, trivial⟩ ?_
          refine j_widen (k := 1568 + 8 * i) (n := 8 * (1568 + 8 * i)) (by omega) (by omega) ?_
          exact kF v hv ev
        · -- not taken
          refine j_iload hc dL_isEngine_635 rfl ?_
          refine j_aload_n hc dL_isEngine_637 rfl ?_
          refine j_bipush hc (v := nI 8) dL_isEngine_638 (by decide) ?_
          refine xl_0 hc (i := 8) (by omega) (v := (nI N)) (G.t8) dL_isEngine_640 ?_
          refine j_icmp_ge hc 708 dL_isEngine_641 (by decide) (fun h641 => ?_) (fun h641 => ?_)
          · -- taken
            refine j_lv [(0, .ref (ad 0)), (1, .ref (ad 15)), (7, .ref (ad 23)), (9, .int (bs (S 4) n)), (10, .int (nI 1)), (11, .int (nI D9)), (12, .int (nI i)), (13, .int (nI v))] ⟨rfl, rfl, rfl, rfl, rfl, rfl, rfl, rfl, trivial⟩ ?_
            refine j_widen (k := 1568 + 8 * i) (n := 8 * (1568 + 8 * i)) (by omega) (by omega) ?_
            exact kF v hv ev
          · -- not taken
            refine j_iload hc dL_isEngine_644 rfl ?_
            refine j_if_ge hc 708 dL_isEngine_646 (by decide) (fun h646 => ?_) (fun h646 => by exact absurd (nI_pos' hv) h646)
            refine j_lv [(0, .ref (ad 0)), (1, .ref (ad 15)), (7, .ref (ad 23)), (9, .int (bs (S 4) n)), (10, .int (nI 1)), (11, .int (nI D9)), (12, .int (nI i)), (13, .int (nI v))] ⟨rfl, rfl, rfl, rfl, rfl, rfl, rfl, rfl, trivial⟩ ?_
            refine j_widen (k := 1568 + 8 * i) (n := 8 * (1568 + 8 * i)) (by omega) (by omega) ?_
            exact kF v hv ev
      have inner : ∀ (k2 t : Nat), t + k2 = 60 → t ≤ N → e_lso E (nI i) (nI D9) (tol N) (nI 0) = e_lso E (nI i) (nI D9) (tol N - t) (nI t) → J p l e (RM 8 1664 13312) s m args below meth c D A 16 (1568 + 8 * i) (8 * (1568 + 8 * i)) (QE below args s D A 1664 13312 (WD ad cs n E S o) (none, some (.int 1), WD ad cs n E S o)) (WD ad cs n E S o) 628 [(0, .ref (ad 0)), (1, .ref (ad 15)), (7, .ref (ad 23)), (9, .int (bs (S 4) n)), (10, .int (nI 1)), (11, .int (nI D9)), (12, .int (nI i)), (13, .int (-2)), (14, .int (nI t))] [] := by
        intro k2
        induction k2 with
        | zero =>
          intro t ht htN hd
          refine j_iload hc dL_isEngine_628 rfl ?_
          refine j_bipush hc (v := nI 60) dL_isEngine_630 (by decide) ?_
          refine j_icmp_ge hc 708 dL_isEngine_632 (by decide) (fun h632 => ?_) (fun h632 => by exact absurd (nI_le (a := 60) (by omega) (by omega)) h632)
          refine j_lv [(0, .ref (ad 0)), (1, .ref (ad 15)), (7, .ref (ad 23)), (9, .int (bs (S 4) n)), (10, .int (nI 1)), (11, .int (nI D9)), (12, .int (nI i)), (13, .int (-2))] ⟨rfl, rfl, rfl, rfl, rfl, rfl, rfl, rfl, trivial⟩ ?_
          refine j_widen (k := 1568 + 8 * i) (n := 8 * (1568 + 8 * i)) (by omega) (by omega) ?_
          exact kN (fun hN60 => by rw [hd, show tol N - t = 0 by unfold tol; split <;> omega]; rfl)
        | succ k2 ih2 =>
          intro t ht htN hd
          have e9 : t < N → tol N - t = (tol N - (t + 1)) + 1 := fun z => by unfold tol; split <;> omega
          refine j_iload hc dL_isEngine_628 rfl ?_
          refine j_bipush hc (v := nI 60) dL_isEngine_630 (by decide) ?_
          refine j_icmp_ge hc 708 dL_isEngine_632 (by decide) (fun h632 => by exact absurd h632 (nI_ge (b := 60) (by omega) (by omega))) (fun h632 => ?_)
          refine j_iload hc dL_isEngine_635 rfl ?_
          refine j_aload_n hc dL_isEngine_637 rfl ?_
          refine j_bipush hc (v := nI 8) dL_isEngine_638 (by decide) ?_
          refine xl_0 hc (i := 8) (by omega) (v := (nI N)) (G.t8) dL_isEngine_640 ?_
          refine j_icmp_ge hc 708 dL_isEngine_641 (by decide) (fun h641 => ?_) (fun h641 => ?_)
          · -- taken
            refine j_lv [(0, .ref (ad 0)), (1, .ref (ad 15)), (7, .ref (ad 23)), (9, .int (bs (S 4) n)), (10, .int (nI 1)), (11, .int (nI D9)), (12, .int (nI i)), (13, .int (-2))] ⟨rfl, rfl, rfl, rfl, rfl, rfl, rfl, rfl, trivial⟩ ?_
            exact kN (fun hN60 => by rw [hd, show tol N - t = 0 by have := (nI_leI (by omega) (by omega)).mp h641; unfold tol; split <;> omega]; rfl)
          · -- not taken
            have htN2 : t < N := by
              by_cases z : t < N
              · exact z
              · exact absurd (nI_le (by omega) (by omega)) h641
            obtain ⟨c9, hc9, ec9⟩ := G.cod ((N - 1 - t) % 60) (by omega)
            refine j_iload hc dL_isEngine_644 rfl ?_
            refine j_if_ge hc 708 dL_isEngine_646 (by decide) (fun h646 => by exact absurd (show (0 : Int32) ≤ ((-2) : Int32) from h646) (by decide)) (fun h646 => ?_)
            refine j_aload hc dL_isEngine_649 rfl ?_
            refine j_aload_n hc dL_isEngine_651 rfl ?_
            refine j_bipush hc (v := nI 8) dL_isEngine_652 (by decide) ?_
            refine xl_0 hc (i := 8) (by omega) (v := (nI N)) (G.t8) dL_isEngine_654 ?_
            refine j_iconst hc (v := nI 1) dL_isEngine_655 (by decide) ?_
            refine j_isubE hc (z := nI (N - 1)) (pk_sub (by omega)) dL_isEngine_656 ?_
            refine j_iload hc dL_isEngine_657 rfl ?_
            refine j_isubE hc (z := nI ((N - 1) - t)) (pk_sub (by omega)) dL_isEngine_659 ?_
            refine j_bipush hc (v := nI 60) dL_isEngine_660 (by decide) ?_
            refine j_iremE hc (by decide) (z := nI (((N - 1) - t) % 60)) (pk_rem (by omega) (by omega) (by omega)) dL_isEngine_662 ?_
            refine xl_8 hc (i := (((N - 1) - t) % 60)) (by omega) (v := (nI c9)) (ec9) dL_isEngine_663 ?_
            refine j_istore hc dL_isEngine_664 rfl ?_
            refine j_iload hc dL_isEngine_666 rfl ?_
            refine j_sipush hc (v := nI 1000) dL_isEngine_668 (by decide) ?_
            refine j_idivE hc (by decide) (z := nI (c9 / 1000)) (pk_div (by omega) (by omega) (by omega)) dL_isEngine_671 ?_
            refine j_iload hc dL_isEngine_672 rfl ?_
            refine j_icmp_gt hc 698 dL_isEngine_674 (by decide) (fun h674 => ?_) (fun h674 => ?_)
            · -- taken
              have z1 : ¬ c9 / 1000 ≤ D9 := fun z => absurd h674 (nI_nlt z (by omega))
              refine j_iload hc dL_isEngine_698 rfl ?_
              refine j_istore hc dL_isEngine_700 rfl ?_
              refine j_incE hc dL_isEngine_702 rfl (v := nI (t + 1)) (nI_1 _) rfl ?_
              refine j_goto hc 628 dL_isEngine_705 (by decide) ?_
              refine j_lv [(0, .ref (ad 0)), (1, .ref (ad 15)), (7, .ref (ad 23)), (9, .int (bs (S 4) n)), (10, .int (nI 1)), (11, .int (nI D9)), (12, .int (nI i)), (13, .int (-2)), (14, .int (nI (t + 1)))] ⟨rfl, rfl, rfl, rfl, rfl, rfl, rfl, rfl, rfl, trivial⟩ ?_
              exact ih2 (t + 1) (by omega) (by omega) (by rw [hd, e9 htN2]; exact (lso_go G hN htN2 (by omega) hc9 ec9 (by omega) (by omega)).2 (fun w => z1 w.1))
            · -- not taken
              have z1 : c9 / 1000 ≤ D9 := by
                by_cases z : c9 / 1000 ≤ D9
                · exact z
                · exact absurd (nI_lt (by omega) (by omega)) h674
              refine j_iload hc dL_isEngine_677 rfl ?_
              refine j_bipush hc (v := nI 10) dL_isEngine_679 (by decide) ?_
              refine j_idivE hc (by decide) (z := nI (c9 / 10)) (pk_div (by omega) (by omega) (by omega)) dL_isEngine_681 ?_
              refine j_bipush hc (v := nI 100) dL_isEngine_682 (by decide) ?_
              refine j_iremE hc (by decide) (z := nI ((c9 / 10) % 100)) (pk_rem (by omega) (by omega) (by omega)) dL_isEngine_684 ?_
              refine j_iload hc dL_isEngine_685 rfl ?_
              refine j_icmp_ne hc 698 dL_isEngine_687 (by decide) (fun h687 => ?_) (fun h687 => ?_)
              · -- taken
                have z2 : ¬ c9 / 10 % 100 = i := fun z => h687 (by rw [z])
                refine j_iload hc dL_isEngine_698 rfl ?_
                refine j_istore hc dL_isEngine_700 rfl ?_
                refine j_incE hc dL_isEngine_702 rfl (v := nI (t + 1)) (nI_1 _) rfl ?_
                refine j_goto hc 628 dL_isEngine_705 (by decide) ?_
                refine j_lv [(0, .ref (ad 0)), (1, .ref (ad 15)), (7, .ref (ad 23)), (9, .int (bs (S 4) n)), (10, .int (nI 1)), (11, .int (nI D9)), (12, .int (nI i)), (13, .int (-2)), (14, .int (nI (t + 1)))] ⟨rfl, rfl, rfl, rfl, rfl, rfl, rfl, rfl, rfl, trivial⟩ ?_
                exact ih2 (t + 1) (by omega) (by omega) (by rw [hd, e9 htN2]; exact (lso_go G hN htN2 (by omega) hc9 ec9 (by omega) (by omega)).2 (fun w => z2 w.2))
              · -- not taken
                have z2 : c9 / 10 % 100 = i := (nI_eq (by omega) (by omega)).mp h687
                refine j_iload hc dL_isEngine_690 rfl ?_
                refine j_bipush hc (v := nI 10) dL_isEngine_692 (by decide) ?_
                refine j_iremE hc (by decide) (z := nI (c9 % 10)) (pk_rem (by omega) (by omega) (by omega)) dL_isEngine_694 ?_
                refine j_goto hc 700 dL_isEngine_695 (by decide) ?_
                refine j_istore hc dL_isEngine_700 rfl ?_
                refine j_incE hc dL_isEngine_702 rfl (v := nI (t + 1)) (nI_1 _) rfl ?_
                refine j_goto hc 628 dL_isEngine_705 (by decide) ?_
                refine j_lv [(0, .ref (ad 0)), (1, .ref (ad 15)), (7, .ref (ad 23)), (9, .int (bs (S 4) n)), (10, .int (nI 1)), (11, .int (nI D9)), (12, .int (nI i)), (13, .int (nI (c9 % 10))), (14, .int (nI (t + 1)))] ⟨rfl, rfl, rfl, rfl, rfl, rfl, rfl, rfl, rfl, trivial⟩ ?_
                exact kH (t + 1) (c9 % 10) (by omega) (by omega) (by rw [hd, e9 htN2]; exact (lso_go G hN htN2 (by omega) hc9 ec9 (by omega) (by omega)).1 z1 z2)
      refine j_iload hc dL_isEngine_608 rfl ?_
      refine j_aload_n hc dL_isEngine_610 rfl ?_
      refine j_iconst hc (v := nI 2) dL_isEngine_611 (by decide) ?_
      refine xl_0 hc (i := 2) (by omega) (v := (nI n)) (G.n2) dL_isEngine_612 ?_
      refine j_icmp_ge hc 768 dL_isEngine_613 (by decide) (fun h613 => by exact absurd h613 (nI_ge (by omega) (by omega))) (fun h613 => ?_)
      refine j_iload hc dL_isEngine_616 rfl ?_
      refine j_if_eq hc 768 dL_isEngine_618 (by decide) (fun h618 => by exact absurd (show (nI 1) = (0 : Int32) from h618) (by decide)) (fun h618 => ?_)
      refine j_bipush hc (v := -2) dL_isEngine_621 (by decide) ?_
      refine j_istore hc dL_isEngine_623 rfl ?_
      refine j_iconst hc (v := nI 0) dL_isEngine_625 (by decide) ?_
      refine j_istore hc dL_isEngine_626 rfl ?_
      refine j_lv [(0, .ref (ad 0)), (1, .ref (ad 15)), (7, .ref (ad 23)), (9, .int (bs (S 4) n)), (10, .int (nI 1)), (11, .int (nI D9)), (12, .int (nI i)), (13, .int (-2)), (14, .int (nI 0))] ⟨rfl, rfl, rfl, rfl, rfl, rfl, rfl, rfl, rfl, trivial⟩ ?_
      exact inner 60 0 rfl (Nat.zero_le _) rfl
  have loopE : ∀ (k t D9 : Nat), t + k = 60 → D9 ≤ Y → J p l e (RM 8 1664 13312) s m args below meth c D A 16 (1088 + 8 * t) (8 * (1088 + 8 * t)) (QE below args s D A 1664 13312 (WD ad cs n E S o) (none, some (.int 1), WD ad cs n E S o)) (WD ad cs n E S o) 543 [(0, .ref (ad 0)), (1, .ref (ad 15)), (7, .ref (ad 23)), (9, .int (bs (S 4) n)), (10, .int (nI 1)), (11, .int (nI D9)), (12, .int (nI t))] [] := by
    intro k
    induction k with
    | zero =>
      intro t D9 ht hD
      refine j_iload hc dL_isEngine_543 rfl ?_
      refine j_bipush hc (v := nI 60) dL_isEngine_545 (by decide) ?_
      refine j_icmp_ge hc 605 dL_isEngine_547 (by decide) (fun h547 => ?_) (fun h547 => by exact absurd (nI_le (a := 60) (by omega) (by omega)) h547)
      refine j_iconst hc (v := nI 0) dL_isEngine_605 (by decide) ?_
      refine j_istore hc dL_isEngine_606 rfl ?_
      refine j_lv [(0, .ref (ad 0)), (1, .ref (ad 15)), (7, .ref (ad 23)), (9, .int (bs (S 4) n)), (10, .int (nI 1)), (11, .int (nI D9)), (12, .int (nI 0))] ⟨rfl, rfl, rfl, rfl, rfl, rfl, rfl, trivial⟩ ?_
      refine j_widen (k := 1568 + 8 * 0) (n := 8 * (1568 + 8 * 0)) (by omega) (by omega) ?_
      exact loopS n 0 D9 (by omega) hD
    | succ k ih =>
      intro t D9 ht hD
      refine j_iload hc dL_isEngine_543 rfl ?_
      refine j_bipush hc (v := nI 60) dL_isEngine_545 (by decide) ?_
      refine j_icmp_ge hc 605 dL_isEngine_547 (by decide) (fun h547 => by exact absurd h547 (nI_ge (b := 60) (by omega) (by omega))) (fun h547 => ?_)
      refine j_iload hc dL_isEngine_550 rfl ?_
      refine j_aload_n hc dL_isEngine_552 rfl ?_
      refine j_bipush hc (v := nI 8) dL_isEngine_553 (by decide) ?_
      refine xl_0 hc (i := 8) (by omega) (v := (nI N)) (G.t8) dL_isEngine_555 ?_
      refine j_icmp_ge hc 605 dL_isEngine_556 (by decide) (fun h556 => ?_) (fun h556 => ?_)
      · -- taken
        refine j_iconst hc (v := nI 0) dL_isEngine_605 (by decide) ?_
        refine j_istore hc dL_isEngine_606 rfl ?_
        refine j_lv [(0, .ref (ad 0)), (1, .ref (ad 15)), (7, .ref (ad 23)), (9, .int (bs (S 4) n)), (10, .int (nI 1)), (11, .int (nI D9)), (12, .int (nI 0))] ⟨rfl, rfl, rfl, rfl, rfl, rfl, rfl, trivial⟩ ?_
        refine j_widen (k := 1568 + 8 * 0) (n := 8 * (1568 + 8 * 0)) (by omega) (by omega) ?_
        exact loopS n 0 D9 (by omega) hD
      · -- not taken
        have htN2 : t < N := by
          by_cases z : t < N
          · exact z
          · exact absurd (nI_le (by omega) (by omega)) h556
        refine j_iload hc dL_isEngine_559 rfl ?_
        refine j_if_eq hc 605 dL_isEngine_561 (by decide) (fun h561 => by exact absurd (show (nI 1) = (0 : Int32) from h561) (by decide)) (fun h561 => ?_)
        refine j_aload hc dL_isEngine_564 rfl ?_
        refine j_aload_n hc dL_isEngine_566 rfl ?_
        refine j_bipush hc (v := nI 8) dL_isEngine_567 (by decide) ?_
        refine xl_0 hc (i := 8) (by omega) (v := (nI N)) (G.t8) dL_isEngine_569 ?_
        refine j_iconst hc (v := nI 1) dL_isEngine_570 (by decide) ?_
        refine j_isubE hc (z := nI (N - 1)) (pk_sub (by omega)) dL_isEngine_571 ?_
        refine j_iload hc dL_isEngine_572 rfl ?_
        refine j_isubE hc (z := nI ((N - 1) - t)) (pk_sub (by omega)) dL_isEngine_574 ?_
        refine j_bipush hc (v := nI 60) dL_isEngine_575 (by decide) ?_
        refine j_iremE hc (by decide) (z := nI (((N - 1) - t) % 60)) (pk_rem (by omega) (by omega) (by omega)) dL_isEngine_577 ?_
        refine xl_8 hc (i := (((N - 1) - t) % 60)) (by omega) (v := (S 8 (((N - 1) - t) % 60))) (rfl) dL_isEngine_578 ?_
        refine j_istore hc dL_isEngine_579 rfl ?_
        refine j_aload_n hc dL_isEngine_581 rfl ?_
        refine j_iload hc dL_isEngine_582 rfl ?_
        refine j_callV' hc (k_event hl (ev_eq G hN htN2 (by omega))) vc_L_94 rfl ⟨rfl, rfl, by decide, by decide⟩ 0 rfl rfl rfl (Nat.le_of_ble_eq_true rfl) ⟨by show _ ≤ 1664; omega, by show _ ≤ 13312; omega⟩ dL_isEngine_584 (fun _ h9 => by cases h9) (fun _ => ?_)
        refine j_iload hc dL_isEngine_587 rfl ?_
        refine j_icmp_ne hc 596 dL_isEngine_589 (by decide) (fun h589 => by exact absurd rfl h589) (fun h589 => ?_)
        refine j_iconst hc (v := nI 1) dL_isEngine_592 (by decide) ?_
        refine j_goto hc 597 dL_isEngine_593 (by decide) ?_
        refine j_istore hc dL_isEngine_597 rfl ?_
        refine j_incE hc dL_isEngine_599 rfl (v := nI (t + 1)) (nI_1 _) rfl ?_
        refine j_goto hc 543 dL_isEngine_602 (by decide) ?_
        refine j_lv [(0, .ref (ad 0)), (1, .ref (ad 15)), (7, .ref (ad 23)), (9, .int (bs (S 4) n)), (10, .int (nI 1)), (11, .int (nI D9)), (12, .int (nI (t + 1)))] ⟨rfl, rfl, rfl, rfl, rfl, rfl, rfl, trivial⟩ ?_
        refine j_widen (k := 1088 + 8 * (t + 1)) (n := 8 * (1088 + 8 * (t + 1))) (by omega) (by omega) ?_
        exact ih (t + 1) D9 (by omega) hD
  have k538 : ∀ D9, D9 ≤ Y → J p l e (RM 8 1664 13312) s m args below meth c D A 16 1088 (8 * 1088) (QE below args s D A 1664 13312 (WD ad cs n E S o) (none, some (.int 1), WD ad cs n E S o)) (WD ad cs n E S o) 538 [(0, .ref (ad 0)), (1, .ref (ad 15)), (7, .ref (ad 23)), (9, .int (bs (S 4) n)), (10, .int (nI 1))] [.int (nI D9)] := by
    intro D9 hD
    refine j_istore hc dL_isEngine_538 rfl ?_
    refine j_iconst hc (v := nI 0) dL_isEngine_540 (by decide) ?_
    refine j_istore hc dL_isEngine_541 rfl ?_
    refine j_lv [(0, .ref (ad 0)), (1, .ref (ad 15)), (7, .ref (ad 23)), (9, .int (bs (S 4) n)), (10, .int (nI 1)), (11, .int (nI D9)), (12, .int (nI 0))] ⟨rfl, rfl, rfl, rfl, rfl, rfl, rfl, trivial⟩ ?_
    refine j_widen (k := 1088 + 8 * 0) (n := 8 * (1088 + 8 * 0)) (by omega) (by omega) ?_
    exact loopE 60 0 D9 rfl hD
  have k513 : J p l e (RM 8 1664 13312) s m args below meth c D A 16 (1088) (8 * (1088)) (QE below args s D A 1664 13312 (WD ad cs n E S o) (none, some (.int 1), WD ad cs n E S o)) (WD ad cs n E S o) 513 [(0, .ref (ad 0)), (1, .ref (ad 15)), (7, .ref (ad 23)), (8, .int (nI X)), (9, .int (bs (S 4) n)), (10, .int (nI 1))] [] := by
    by_cases hx : X % 9 ≤ Y
    · -- not below 0
      refine j_aload_n hc dL_isEngine_513 rfl ?_
      refine j_iconst hc (v := nI 0) dL_isEngine_514 (by decide) ?_
      refine xl_0 hc (i := 0) (by omega) (v := (nI Y)) (G.d0) dL_isEngine_515 ?_
      refine j_iload hc dL_isEngine_516 rfl ?_
      refine j_bipush hc (v := nI 9) dL_isEngine_518 (by decide) ?_
      refine j_iremE hc (by decide) (z := nI (X % 9)) (pk_rem (by omega) (by omega) (by omega)) dL_isEngine_520 ?_
      refine j_isubE hc (z := nI (Y - (X % 9))) (pk_sub (by omega)) dL_isEngine_521 ?_
      refine j_if_ge hc 529 dL_isEngine_522 (by decide) (fun h522 => ?_) (fun h522 => by exact absurd (nI_pos' (by omega)) h522)
      refine j_aload_n hc dL_isEngine_529 rfl ?_
      refine j_iconst hc (v := nI 0) dL_isEngine_530 (by decide) ?_
      refine xl_0 hc (i := 0) (by omega) (v := (nI Y)) (G.d0) dL_isEngine_531 ?_
      refine j_iload hc dL_isEngine_532 rfl ?_
      refine j_bipush hc (v := nI 9) dL_isEngine_534 (by decide) ?_
      refine j_iremE hc (by decide) (z := nI (X % 9)) (pk_rem (by omega) (by omega) (by omega)) dL_isEngine_536 ?_
      refine j_isubE hc (z := nI (Y - (X % 9))) (pk_sub (by omega)) dL_isEngine_537 ?_
      refine j_lv [(0, .ref (ad 0)), (1, .ref (ad 15)), (7, .ref (ad 23)), (9, .int (bs (S 4) n)), (10, .int (nI 1))] ⟨rfl, rfl, rfl, rfl, rfl, trivial⟩ ?_
      exact k538 (Y - X % 9) (by omega)
    · -- below 0
      refine j_aload_n hc dL_isEngine_513 rfl ?_
      refine j_iconst hc (v := nI 0) dL_isEngine_514 (by decide) ?_
      refine xl_0 hc (i := 0) (by omega) (v := (nI Y)) (G.d0) dL_isEngine_515 ?_
      refine j_iload hc dL_isEngine_516 rfl ?_
      refine j_bipush hc (v := nI 9) dL_isEngine_518 (by decide) ?_
      refine j_iremE hc (by decide) (z := nI (X % 9)) (pk_rem (by omega) (by omega) (by omega)) dL_isEngine_520 ?_
      refine j_isub hc dL_isEngine_521 ?_
      refine j_if_ge hc 529 dL_isEngine_522 (by decide) (fun h522 => by exact absurd h522 (ge_neg (pk_sneg (a := Y) (b := X % 9) (by omega) (by omega)))) (fun h522 => ?_)
      refine j_iconst hc (v := nI 0) dL_isEngine_525 (by decide) ?_
      refine j_goto hc 538 dL_isEngine_526 (by decide) ?_
      refine j_lv [(0, .ref (ad 0)), (1, .ref (ad 15)), (7, .ref (ad 23)), (9, .int (bs (S 4) n)), (10, .int (nI 1))] ⟨rfl, rfl, rfl, rfl, rfl, trivial⟩ ?_
      exact k538 (0) (by omega)
  have loopB : ∀ (k i : Nat), i + k = n → J p l e (RM 8 1664 13312) s m args below meth c D A 16 (224 + 72 * i) (8 * (224 + 72 * i)) (QE below args s D A 1664 13312 (WD ad cs n E S o) (none, some (.int 1), WD ad cs n E S o)) (WD ad cs n E S o) 324 [(0, .ref (ad 0)), (1, .ref (ad 15)), (3, .ref (ad 19)), (4, .ref (ad 20)), (5, .ref (ad 21)), (6, .ref (ad 22)), (7, .ref (ad 23)), (8, .int (nI X)), (9, .int (bs (S 4) i)), (10, .int (nI 1)), (11, .int (nI i))] [] := by
    intro k
    induction k with
    | zero =>
      intro i hi
      have hin : i = n := by omega
      subst hin
      refine j_iload hc dL_isEngine_324 rfl ?_
      refine j_aload_n hc dL_isEngine_326 rfl ?_
      refine j_iconst hc (v := nI 2) dL_isEngine_327 (by decide) ?_
      refine xl_0 hc (i := 2) (by omega) (v := (nI i)) (G.n2) dL_isEngine_328 ?_
      refine j_icmp_ge hc 513 dL_isEngine_329 (by decide) (fun h329 => ?_) (fun h329 => by exact absurd (nI_le (Nat.le_refl _) (by omega)) h329)
      refine j_lv [(0, .ref (ad 0)), (1, .ref (ad 15)), (7, .ref (ad 23)), (8, .int (nI X)), (9, .int (bs (S 4) i)), (10, .int (nI 1))] ⟨rfl, rfl, rfl, rfl, rfl, rfl, trivial⟩ ?_
      refine j_widen (k := 1088) (n := 8 * (1088)) (by omega) (by omega) ?_
      exact k513
    | succ k ih =>
      intro i hi
      have hin : i < n := by omega
      obtain ⟨σ, w1, es⟩ := H.sg hin
      have RCi := (H.2.1 i hin).1
      have inner : ∀ (k2 t : Nat), t + k2 = 4 → J p l e (RM 8 1664 13312) s m args below meth c D A 16 (224 + 72 * i + 40 + 8 * t) (8 * (224 + 72 * i + 40 + 8 * t)) (QE below args s D A 1664 13312 (WD ad cs n E S o) (none, some (.int 1), WD ad cs n E S o)) (WD ad cs n E S o) 462 [(0, .ref (ad 0)), (1, .ref (ad 15)), (3, .ref (ad 19)), (4, .ref (ad 20)), (5, .ref (ad 21)), (6, .ref (ad 22)), (7, .ref (ad 23)), (8, .int (nI X)), (9, .int (bs (S 4) (i + 1))), (10, .int (nI 1)), (11, .int (nI i)), (12, .int (nI (t + 1)))] [] := by
        intro k2
        induction k2 with
        | zero =>
          intro t ht
          refine j_iload hc dL_isEngine_462 rfl ?_
          refine j_iconst hc (v := nI 5) dL_isEngine_464 (by decide) ?_
          refine j_icmp_ge hc 507 dL_isEngine_465 (by decide) (fun h465 => ?_) (fun h465 => by exact absurd (nI_le (a := 5) (by omega) (by omega)) h465)
          refine j_incE hc dL_isEngine_507 rfl (v := nI (i + 1)) (nI_1 _) rfl ?_
          refine j_goto hc 324 dL_isEngine_510 (by decide) ?_
          refine j_lv [(0, .ref (ad 0)), (1, .ref (ad 15)), (3, .ref (ad 19)), (4, .ref (ad 20)), (5, .ref (ad 21)), (6, .ref (ad 22)), (7, .ref (ad 23)), (8, .int (nI X)), (9, .int (bs (S 4) (i + 1))), (10, .int (nI 1)), (11, .int (nI (i + 1)))] ⟨rfl, rfl, rfl, rfl, rfl, rfl, rfl, rfl, rfl, rfl, rfl, trivial⟩ ?_
          refine j_widen (k := 224 + 72 * (i + 1)) (n := 8 * (224 + 72 * (i + 1))) (by omega) (by omega) ?_
          exact ih (i + 1) (by omega)
        | succ k2 ih2 =>
          intro t ht
          refine j_iload hc dL_isEngine_462 rfl ?_
          refine j_iconst hc (v := nI 5) dL_isEngine_464 (by decide) ?_
          refine j_icmp_ge hc 507 dL_isEngine_465 (by decide) (fun h465 => by exact absurd h465 (nI_ge (b := 5) (by omega) (by omega))) (fun h465 => ?_)
          refine j_iload hc dL_isEngine_468 rfl ?_
          refine j_if_eq hc 498 dL_isEngine_470 (by decide) (fun h470 => by exact absurd (show (nI 1) = (0 : Int32) from h470) (by decide)) (fun h470 => ?_)
          refine j_aload_n hc dL_isEngine_473 rfl ?_
          refine j_iload hc dL_isEngine_474 rfl ?_
          refine j_iload hc dL_isEngine_476 rfl ?_
          refine j_callV' hc (k_failures hl hn30 (fl_eq H hin (t := t) (by omega))) vc_L_91 rfl ⟨rfl, rfl, by decide, by decide⟩ 0 rfl rfl rfl (Nat.le_of_ble_eq_true rfl) ⟨by show _ ≤ 1664; omega, by show _ ≤ 13312; omega⟩ dL_isEngine_478 (fun _ h9 => by cases h9) (fun _ => ?_)
          refine j_aload hc dL_isEngine_481 rfl ?_
          refine j_iconst hc (v := nI 5) dL_isEngine_483 (by decide) ?_
          refine j_iload hc dL_isEngine_484 rfl ?_
          refine j_imulE hc (z := nI (5 * i)) (pk_mul _ _) dL_isEngine_486 ?_
          refine j_iload hc dL_isEngine_487 rfl ?_
          refine j_iaddE hc (z := nI ((5 * i) + (t + 1))) (nI_add _ _) dL_isEngine_489 ?_
          refine xl_6 hc (i := ((5 * i) + (t + 1))) (by omega) (v := (S 6 ((5 * i) + (t + 1)))) (rfl) dL_isEngine_490 ?_
          refine j_icmp_ne hc 498 dL_isEngine_491 (by decide) (fun h491 => by exact absurd rfl h491) (fun h491 => ?_)
          refine j_iconst hc (v := nI 1) dL_isEngine_494 (by decide) ?_
          refine j_goto hc 499 dL_isEngine_495 (by decide) ?_
          refine j_istore hc dL_isEngine_499 rfl ?_
          refine j_incE hc dL_isEngine_501 rfl (v := nI ((t + 1) + 1)) (nI_1 _) rfl ?_
          refine j_goto hc 462 dL_isEngine_504 (by decide) ?_
          refine j_lv [(0, .ref (ad 0)), (1, .ref (ad 15)), (3, .ref (ad 19)), (4, .ref (ad 20)), (5, .ref (ad 21)), (6, .ref (ad 22)), (7, .ref (ad 23)), (8, .int (nI X)), (9, .int (bs (S 4) (i + 1))), (10, .int (nI 1)), (11, .int (nI i)), (12, .int (nI ((t + 1) + 1)))] ⟨rfl, rfl, rfl, rfl, rfl, rfl, rfl, rfl, rfl, rfl, rfl, rfl, trivial⟩ ?_
          refine j_widen (k := 224 + 72 * i + 40 + 8 * (t + 1)) (n := 8 * (224 + 72 * i + 40 + 8 * (t + 1))) (by omega) (by omega) ?_
          exact ih2 (t + 1) (by omega)
      have k459 : J p l e (RM 8 1664 13312) s m args below meth c D A 16 (224 + 72 * i + 40) (8 * (224 + 72 * i + 40)) (QE below args s D A 1664 13312 (WD ad cs n E S o) (none, some (.int 1), WD ad cs n E S o)) (WD ad cs n E S o) 459 [(0, .ref (ad 0)), (1, .ref (ad 15)), (3, .ref (ad 19)), (4, .ref (ad 20)), (5, .ref (ad 21)), (6, .ref (ad 22)), (7, .ref (ad 23)), (8, .int (nI X)), (9, .int (bs (S 4) (i + 1))), (10, .int (nI 1)), (11, .int (nI i))] [] := by
        refine j_iconst hc (v := nI 1) dL_isEngine_459 (by decide) ?_
        refine j_istore hc dL_isEngine_460 rfl ?_
        refine j_lv [(0, .ref (ad 0)), (1, .ref (ad 15)), (3, .ref (ad 19)), (4, .ref (ad 20)), (5, .ref (ad 21)), (6, .ref (ad 22)), (7, .ref (ad 23)), (8, .int (nI X)), (9, .int (bs (S 4) (i + 1))), (10, .int (nI 1)), (11, .int (nI i)), (12, .int (nI 1))] ⟨rfl, rfl, rfl, rfl, rfl, rfl, rfl, rfl, rfl, rfl, rfl, rfl, trivial⟩ ?_
        refine j_widen (k := 224 + 72 * i + 40 + 8 * 0) (n := 8 * (224 + 72 * i + 40 + 8 * 0)) (by omega) (by omega) ?_
        exact inner 4 0 rfl
      refine j_iload hc dL_isEngine_324 rfl ?_
      refine j_aload_n hc dL_isEngine_326 rfl ?_
      refine j_iconst hc (v := nI 2) dL_isEngine_327 (by decide) ?_
      refine xl_0 hc (i := 2) (by omega) (v := (nI n)) (G.n2) dL_isEngine_328 ?_
      refine j_icmp_ge hc 513 dL_isEngine_329 (by decide) (fun h329 => by exact absurd h329 (nI_ge (by omega) (by omega))) (fun h329 => ?_)
      refine j_iload hc dL_isEngine_332 rfl ?_
      refine j_if_eq hc 513 dL_isEngine_334 (by decide) (fun h334 => by exact absurd (show (nI 1) = (0 : Int32) from h334) (by decide)) (fun h334 => ?_)
      refine j_iload hc dL_isEngine_337 rfl ?_
      refine j_aload_n hc dL_isEngine_339 rfl ?_
      refine j_bipush hc (v := nI 12) dL_isEngine_340 (by decide) ?_
      refine j_iload hc dL_isEngine_342 rfl ?_
      refine j_iaddE hc (z := nI (12 + i)) (nI_add _ _) dL_isEngine_344 ?_
      refine xl_4 hc (i := (12 + i)) (by omega) (v := (S 4 (12 + i))) (rfl) dL_isEngine_345 ?_
      refine j_iadd hc dL_isEngine_346 ?_
      refine j_istore hc dL_isEngine_347 rfl ?_
      refine j_aload_n hc dL_isEngine_349 rfl ?_
      refine j_iload hc dL_isEngine_350 rfl ?_
      refine j_callV' hc (k_stateOf hl hn30 (bf_eq H hin 4)) vc_L_76 rfl ⟨rfl, rfl, by decide, by decide⟩ 0 rfl rfl rfl (Nat.le_of_ble_eq_true rfl) ⟨by show _ ≤ 1664; omega, by show _ ≤ 13312; omega⟩ dL_isEngine_352 (fun _ h9 => by cases h9) (fun _ => ?_)
      refine j_aload hc dL_isEngine_355 rfl ?_
      refine j_iload hc dL_isEngine_357 rfl ?_
      refine xl_5 hc (i := i) (by omega) (v := (S 5 i)) (rfl) dL_isEngine_359 ?_
      refine j_icmp_ne hc 456 dL_isEngine_360 (by decide) (fun h360 => by exact absurd (H.st hin) h360) (fun h360 => ?_)
      refine j_aload_n hc dL_isEngine_363 rfl ?_
      refine j_iload hc dL_isEngine_364 rfl ?_
      refine j_callV' hc (k_left hl hn30 (bf_eq H hin 3)) vc_L_79 rfl ⟨rfl, rfl, by decide, by decide⟩ 0 rfl rfl rfl (Nat.le_of_ble_eq_true rfl) ⟨by show _ ≤ 1664; omega, by show _ ≤ 13312; omega⟩ dL_isEngine_366 (fun _ h9 => by cases h9) (fun _ => ?_)
      refine j_aload_n hc dL_isEngine_369 rfl ?_
      refine j_bipush hc (v := nI 24) dL_isEngine_370 (by decide) ?_
      refine j_iload hc dL_isEngine_372 rfl ?_
      refine j_iaddE hc (z := nI (24 + i)) (nI_add _ _) dL_isEngine_374 ?_
      refine xl_4 hc (i := (24 + i)) (by omega) (v := (S 4 (24 + i))) (rfl) dL_isEngine_375 ?_
      refine j_icmp_ne hc 456 dL_isEngine_376 (by decide) (fun h376 => by exact absurd (H.le hin) h376) (fun h376 => ?_)
      refine j_aload_n hc dL_isEngine_379 rfl ?_
      refine j_iload hc dL_isEngine_380 rfl ?_
      refine j_callV' hc (k_tries hl hn30 (bf_eq H hin 6)) vc_L_82 rfl ⟨rfl, rfl, by decide, by decide⟩ 0 rfl rfl rfl (Nat.le_of_ble_eq_true rfl) ⟨by show _ ≤ 1664; omega, by show _ ≤ 13312; omega⟩ dL_isEngine_382 (fun _ h9 => by cases h9) (fun _ => ?_)
      refine j_aload hc dL_isEngine_385 rfl ?_
      refine j_bipush hc (v := nI 24) dL_isEngine_387 (by decide) ?_
      refine j_iload hc dL_isEngine_389 rfl ?_
      refine j_iaddE hc (z := nI (24 + i)) (nI_add _ _) dL_isEngine_391 ?_
      refine xl_5 hc (i := (24 + i)) (by omega) (v := (S 5 (24 + i))) (rfl) dL_isEngine_392 ?_
      refine j_icmp_ne hc 456 dL_isEngine_393 (by decide) (fun h393 => by exact absurd RCi.2.2.2.1 h393) (fun h393 => ?_)
      refine j_aload_n hc dL_isEngine_396 rfl ?_
      refine j_iload hc dL_isEngine_397 rfl ?_
      refine j_callV' hc (k_broken hl hn30 (bf_eq H hin 8)) vc_L_85 rfl ⟨rfl, rfl, by decide, by decide⟩ 0 rfl rfl rfl (Nat.le_of_ble_eq_true rfl) ⟨by show _ ≤ 1664; omega, by show _ ≤ 13312; omega⟩ dL_isEngine_399 (fun _ h9 => by cases h9) (fun _ => ?_)
      refine j_aload hc dL_isEngine_402 rfl ?_
      refine j_bipush hc (v := nI 24) dL_isEngine_404 (by decide) ?_
      refine j_iload hc dL_isEngine_406 rfl ?_
      refine j_iaddE hc (z := nI (24 + i)) (nI_add _ _) dL_isEngine_408 ?_
      refine xl_7 hc (i := (24 + i)) (by omega) (v := (S 7 (24 + i))) (rfl) dL_isEngine_409 ?_
      refine j_icmp_ne hc 456 dL_isEngine_410 (by decide) (fun h410 => by exact absurd RCi.2.2.2.2.2.1 h410) (fun h410 => ?_)
      refine j_aload_n hc dL_isEngine_413 rfl ?_
      refine j_iload hc dL_isEngine_414 rfl ?_
      refine j_callV' hc (k_waitsFor hl hn30 (bf_eq H hin 5)) vc_L_88 rfl ⟨rfl, rfl, by decide, by decide⟩ 0 rfl rfl rfl (Nat.le_of_ble_eq_true rfl) ⟨by show _ ≤ 1664; omega, by show _ ≤ 13312; omega⟩ dL_isEngine_416 (fun _ h9 => by cases h9) (fun _ => ?_)
      refine j_aload hc dL_isEngine_419 rfl ?_
      refine j_iload hc dL_isEngine_421 rfl ?_
      refine xl_5 hc (i := i) (by omega) (v := (nI σ)) (es) dL_isEngine_423 ?_
      refine j_iconst hc (v := nI 1) dL_isEngine_424 (by decide) ?_
      refine j_icmp_eq hc 437 dL_isEngine_425 (by decide) (fun h425 => ?_) (fun h425 => ?_)
      · -- taken
        have s1 : σ = 1 := (nI_eq (by omega) (by omega)).mp h425
        refine j_iconst hc (v := -1) dL_isEngine_437 (by decide) ?_
        refine j_goto hc 449 dL_isEngine_438 (by decide) ?_
        refine j_icmp_ne hc 456 dL_isEngine_449 (by decide) (fun h449 => by exact absurd ((wt_eq H hin w1 es).trans (if_pos (by omega))) h449) (fun h449 => ?_)
        refine j_iconst hc (v := nI 1) dL_isEngine_452 (by decide) ?_
        refine j_goto hc 457 dL_isEngine_453 (by decide) ?_
        refine j_istore hc dL_isEngine_457 rfl ?_
        refine j_lv [(0, .ref (ad 0)), (1, .ref (ad 15)), (3, .ref (ad 19)), (4, .ref (ad 20)), (5, .ref (ad 21)), (6, .ref (ad 22)), (7, .ref (ad 23)), (8, .int (nI X)), (9, .int ((bs (S 4) i) + (S 4 (12 + i)))), (10, .int (nI 1)), (11, .int (nI i))] ⟨rfl, rfl, rfl, rfl, rfl, rfl, rfl, rfl, rfl, rfl, rfl, trivial⟩ ?_
        refine j_widen (k := 224 + 72 * i + 40) (n := 8 * (224 + 72 * i + 40)) (by omega) (by omega) ?_
        exact k459
      · -- not taken
        have s1 : ¬ σ = 1 := fun z => h425 (by rw [z])
        refine j_aload hc dL_isEngine_428 rfl ?_
        refine j_iload hc dL_isEngine_430 rfl ?_
        refine xl_5 hc (i := i) (by omega) (v := (nI σ)) (es) dL_isEngine_432 ?_
        refine j_iconst hc (v := nI 4) dL_isEngine_433 (by decide) ?_
        refine j_icmp_le hc 441 dL_isEngine_434 (by decide) (fun h434 => ?_) (fun h434 => ?_)
        · -- taken
          have s4 : σ ≤ 4 := (nI_leI (by omega) (by omega)).mp h434
          refine j_aload hc dL_isEngine_441 rfl ?_
          refine j_bipush hc (v := nI 12) dL_isEngine_443 (by decide) ?_
          refine j_iload hc dL_isEngine_445 rfl ?_
          refine j_iaddE hc (z := nI (12 + i)) (nI_add _ _) dL_isEngine_447 ?_
          refine xl_5 hc (i := (12 + i)) (by omega) (v := (S 5 (12 + i))) (rfl) dL_isEngine_448 ?_
          refine j_icmp_ne hc 456 dL_isEngine_449 (by decide) (fun h449 => by exact absurd ((wt_eq H hin w1 es).trans (if_neg (by omega))) h449) (fun h449 => ?_)
          refine j_iconst hc (v := nI 1) dL_isEngine_452 (by decide) ?_
          refine j_goto hc 457 dL_isEngine_453 (by decide) ?_
          refine j_istore hc dL_isEngine_457 rfl ?_
          refine j_lv [(0, .ref (ad 0)), (1, .ref (ad 15)), (3, .ref (ad 19)), (4, .ref (ad 20)), (5, .ref (ad 21)), (6, .ref (ad 22)), (7, .ref (ad 23)), (8, .int (nI X)), (9, .int ((bs (S 4) i) + (S 4 (12 + i)))), (10, .int (nI 1)), (11, .int (nI i))] ⟨rfl, rfl, rfl, rfl, rfl, rfl, rfl, rfl, rfl, rfl, rfl, trivial⟩ ?_
          refine j_widen (k := 224 + 72 * i + 40) (n := 8 * (224 + 72 * i + 40)) (by omega) (by omega) ?_
          exact k459
        · -- not taken
          have s4 : ¬ σ ≤ 4 := fun z => h434 (nI_le z (by decide))
          refine j_iconst hc (v := -1) dL_isEngine_437 (by decide) ?_
          refine j_goto hc 449 dL_isEngine_438 (by decide) ?_
          refine j_icmp_ne hc 456 dL_isEngine_449 (by decide) (fun h449 => by exact absurd ((wt_eq H hin w1 es).trans (if_pos (by omega))) h449) (fun h449 => ?_)
          refine j_iconst hc (v := nI 1) dL_isEngine_452 (by decide) ?_
          refine j_goto hc 457 dL_isEngine_453 (by decide) ?_
          refine j_istore hc dL_isEngine_457 rfl ?_
          refine j_lv [(0, .ref (ad 0)), (1, .ref (ad 15)), (3, .ref (ad 19)), (4, .ref (ad 20)), (5, .ref (ad 21)), (6, .ref (ad 22)), (7, .ref (ad 23)), (8, .int (nI X)), (9, .int ((bs (S 4) i) + (S 4 (12 + i)))), (10, .int (nI 1)), (11, .int (nI i))] ⟨rfl, rfl, rfl, rfl, rfl, rfl, rfl, rfl, rfl, rfl, rfl, trivial⟩ ?_
          refine j_widen (k := 224 + 72 * i + 40) (n := 8 * (224 + 72 * i + 40)) (by omega) (by omega) ?_
          exact k459
  have loopA : ∀ (k a : Nat), a + k = 8 → J p l e (RM 8 1664 13312) s m args below meth c D A 16 (96 + 16 * a) (8 * (96 + 16 * a)) (QE below args s D A 1664 13312 (WD ad cs n E S o) (none, some (.int 1), WD ad cs n E S o)) (WD ad cs n E S o) 128 [(0, .ref (ad 0)), (1, .ref (ad 15)), (2, .ref (ad 16)), (3, .ref (ad 19)), (4, .ref (ad 20)), (5, .ref (ad 21)), (6, .ref (ad 22)), (7, .ref (ad 23)), (8, .int (nI X)), (9, .int (nI 0)), (10, .int (nI 1)), (11, .int (nI a))] [] := by
    intro k
    induction k with
    | zero =>
      intro a ha
      refine j_iload hc dL_isEngine_128 rfl ?_
      refine j_bipush hc (v := nI 8) dL_isEngine_130 (by decide) ?_
      refine j_icmp_ge hc 321 dL_isEngine_132 (by decide) (fun h132 => ?_) (fun h132 => by exact absurd (nI_le (a := 8) (by omega) (by omega)) h132)
      refine j_iconst hc (v := nI 0) dL_isEngine_321 (by decide) ?_
      refine j_istore hc dL_isEngine_322 rfl ?_
      refine j_lv [(0, .ref (ad 0)), (1, .ref (ad 15)), (3, .ref (ad 19)), (4, .ref (ad 20)), (5, .ref (ad 21)), (6, .ref (ad 22)), (7, .ref (ad 23)), (8, .int (nI X)), (9, .int (nI 0)), (10, .int (nI 1)), (11, .int (nI 0))] ⟨rfl, rfl, rfl, rfl, rfl, rfl, rfl, rfl, rfl, rfl, rfl, trivial⟩ ?_
      refine j_widen (k := 224 + 72 * 0) (n := 8 * (224 + 72 * 0)) (by omega) (by omega) ?_
      exact loopB n 0 (by omega)
    | succ k ih =>
      intro a ha
      have ha8 : a < 8 := by omega
      have inner : ∀ (k2 K i : Nat) (c0 d0 : Int32), i + k2 = n → i + K = 30 → e_svc n E (nI a) 30 0 2 = e_svc n E (nI a) K i c0 → e_lin n E (nI a) (nI (X % 7)) 30 0 0 = e_lin n E (nI a) (nI (X % 7)) K i d0 → J p l e (RM 8 1664 13312) s m args below meth c D A 16 (96 + 16 * a) (8 * (96 + 16 * a)) (QE below args s D A 1664 13312 (WD ad cs n E S o) (none, some (.int 1), WD ad cs n E S o)) (WD ad cs n E S o) 149 [(0, .ref (ad 0)), (1, .ref (ad 15)), (2, .ref (ad 16)), (3, .ref (ad 19)), (4, .ref (ad 20)), (5, .ref (ad 21)), (6, .ref (ad 22)), (7, .ref (ad 23)), (8, .int (nI X)), (9, .int (nI 0)), (10, .int (nI 1)), (11, .int (nI a)), (12, .int c0), (13, .int d0), (14, .int (nI i))] [] := by
        intro k2
        induction k2 with
        | zero =>
          intro K i c0 d0 hi hK hs hd
          have es9 := (sv_eq (n := n) (E := E) ha8).trans (by rw [hs, svc_hi K i c0 (by omega)])
          have ed9 := (li_eq (n := n) (E := E) (y := X % 7) ha8 (by omega)).trans (by rw [hd, lin_hi K i d0 (by omega)])
          refine j_iload hc dL_isEngine_149 rfl ?_
          refine j_aload_n hc dL_isEngine_151 rfl ?_
          refine j_iconst hc (v := nI 2) dL_isEngine_152 (by decide) ?_
          refine xl_0 hc (i := 2) (by omega) (v := (nI n)) (G.n2) dL_isEngine_153 ?_
          refine j_icmp_ge hc 281 dL_isEngine_154 (by decide) (fun h154 => ?_) (fun h154 => by exact absurd (nI_le (by omega) (by omega)) h154)
          refine j_aload_n hc dL_isEngine_281 rfl ?_
          refine j_iload hc dL_isEngine_282 rfl ?_
          refine j_callV' hc (k_service hl hn30 es9) vc_L_69 rfl ⟨rfl, rfl, by decide, by decide⟩ 0 rfl rfl rfl (Nat.le_of_ble_eq_true rfl) ⟨by show _ ≤ 1664; omega, by show _ ≤ 13312; omega⟩ dL_isEngine_284 (fun _ h9 => by cases h9) (fun _ => ?_)
          refine j_iload hc dL_isEngine_287 rfl ?_
          refine j_icmp_ne hc 312 dL_isEngine_289 (by decide) (fun h289 => by exact absurd rfl h289) (fun h289 => ?_)
          refine j_aload_n hc dL_isEngine_292 rfl ?_
          refine j_iload hc dL_isEngine_293 rfl ?_
          refine j_iload hc dL_isEngine_295 rfl ?_
          refine j_bipush hc (v := nI 7) dL_isEngine_297 (by decide) ?_
          refine j_iremE hc (by decide) (z := nI (X % 7)) (pk_rem (by omega) (by omega) (by omega)) dL_isEngine_299 ?_
          refine j_callV' hc (k_leftIn hl hn30 ed9) vc_L_73 rfl ⟨rfl, rfl, by decide, by decide⟩ 0 rfl rfl rfl (Nat.le_of_ble_eq_true rfl) ⟨by show _ ≤ 1664; omega, by show _ ≤ 13312; omega⟩ dL_isEngine_300 (fun _ h9 => by cases h9) (fun _ => ?_)
          refine j_iload hc dL_isEngine_303 rfl ?_
          refine j_icmp_ne hc 312 dL_isEngine_305 (by decide) (fun h305 => by exact absurd rfl h305) (fun h305 => ?_)
          refine j_iconst hc (v := nI 1) dL_isEngine_308 (by decide) ?_
          refine j_goto hc 313 dL_isEngine_309 (by decide) ?_
          refine j_istore hc dL_isEngine_313 rfl ?_
          refine j_incE hc dL_isEngine_315 rfl (v := nI (a + 1)) (nI_1 _) rfl ?_
          refine j_goto hc 128 dL_isEngine_318 (by decide) ?_
          refine j_lv [(0, .ref (ad 0)), (1, .ref (ad 15)), (2, .ref (ad 16)), (3, .ref (ad 19)), (4, .ref (ad 20)), (5, .ref (ad 21)), (6, .ref (ad 22)), (7, .ref (ad 23)), (8, .int (nI X)), (9, .int (nI 0)), (10, .int (nI 1)), (11, .int (nI (a + 1)))] ⟨rfl, rfl, rfl, rfl, rfl, rfl, rfl, rfl, rfl, rfl, rfl, rfl, trivial⟩ ?_
          refine j_widen (k := 96 + 16 * (a + 1)) (n := 8 * (96 + 16 * (a + 1))) (by omega) (by omega) ?_
          exact ih (a + 1) (by omega)
        | succ k2 ih2 =>
          intro K i c0 d0 hi hK hs hd
          have hin : i < n := by omega
          obtain ⟨K, rfl⟩ : ∃ u, K = u + 1 := ⟨K - 1, by omega⟩
          have q1 : E.2.1 1 i = S 4 i := (H.2.1 i hin).1.2.1
          have k212 : ∀ v9, e_sw E i = v9 → J p l e (RM 8 1664 13312) s m args below meth c D A 16 (96 + 16 * a) (8 * (96 + 16 * a)) (QE below args s D A 1664 13312 (WD ad cs n E S o) (none, some (.int 1), WD ad cs n E S o)) (WD ad cs n E S o) 212 [(0, .ref (ad 0)), (1, .ref (ad 15)), (2, .ref (ad 16)), (3, .ref (ad 19)), (4, .ref (ad 20)), (5, .ref (ad 21)), (6, .ref (ad 22)), (7, .ref (ad 23)), (8, .int (nI X)), (9, .int (nI 0)), (10, .int (nI 1)), (11, .int (nI a)), (12, .int c0), (13, .int d0), (14, .int (nI i)), (15, .int v9)] [] := by
            intro v9 hv9
            subst hv9
            refine j_aload_n hc dL_isEngine_212 rfl ?_
            refine j_iload hc dL_isEngine_213 rfl ?_
            refine xl_4 hc (i := i) (by omega) (v := (S 4 i)) (rfl) dL_isEngine_215 ?_
            refine j_iload hc dL_isEngine_216 rfl ?_
            refine j_icmp_ne hc 233 dL_isEngine_218 (by decide) (fun h218 => ?_) (fun h218 => ?_)
            · -- taken
              refine j_iload hc dL_isEngine_233 rfl ?_
              refine j_istore hc dL_isEngine_235 rfl ?_
              refine j_iload hc dL_isEngine_237 rfl ?_
              refine j_aload_n hc dL_isEngine_239 rfl ?_
              refine j_iload hc dL_isEngine_240 rfl ?_
              refine xl_4 hc (i := i) (by omega) (v := (S 4 i)) (rfl) dL_isEngine_242 ?_
              refine j_iload hc dL_isEngine_243 rfl ?_
              refine j_icmp_ne hc 271 dL_isEngine_245 (by decide) (fun h245 => ?_) (fun h245 => by exact absurd h245 h218)
              refine j_iconst hc (v := nI 0) dL_isEngine_271 (by decide) ?_
              refine j_iadd hc dL_isEngine_272 ?_
              refine j_istore hc dL_isEngine_273 rfl ?_
              refine j_incE hc dL_isEngine_275 rfl (v := nI (i + 1)) (nI_1 _) rfl ?_
              refine j_goto hc 149 dL_isEngine_278 (by decide) ?_
              refine j_lv [(0, .ref (ad 0)), (1, .ref (ad 15)), (2, .ref (ad 16)), (3, .ref (ad 19)), (4, .ref (ad 20)), (5, .ref (ad 21)), (6, .ref (ad 22)), (7, .ref (ad 23)), (8, .int (nI X)), (9, .int (nI 0)), (10, .int (nI 1)), (11, .int (nI a)), (12, .int c0), (13, .int (d0 + (nI 0))), (14, .int (nI (i + 1)))] ⟨rfl, rfl, rfl, rfl, rfl, rfl, rfl, rfl, rfl, rfl, rfl, rfl, rfl, rfl, rfl, trivial⟩ ?_
              exact ih2 K (i + 1) _ _ (by omega) (by omega) (by rw [hs, svc_0 hin (fun z => h218 (q1.symm.trans z))]) (by rw [hd, lin_0 hin (fun z => h218 (q1.symm.trans z))])
            · -- not taken
              refine j_iload hc dL_isEngine_221 rfl ?_
              refine j_iload hc dL_isEngine_223 rfl ?_
              refine j_icmp_ge hc 233 dL_isEngine_225 (by decide) (fun h225 => ?_) (fun h225 => ?_)
              · -- taken
                refine j_iload hc dL_isEngine_233 rfl ?_
                refine j_istore hc dL_isEngine_235 rfl ?_
                refine j_iload hc dL_isEngine_237 rfl ?_
                refine j_aload_n hc dL_isEngine_239 rfl ?_
                refine j_iload hc dL_isEngine_240 rfl ?_
                refine xl_4 hc (i := i) (by omega) (v := (S 4 i)) (rfl) dL_isEngine_242 ?_
                refine j_iload hc dL_isEngine_243 rfl ?_
                refine j_icmp_ne hc 271 dL_isEngine_245 (by decide) (fun h245 => by exact absurd h218 h245) (fun h245 => ?_)
                refine j_aload hc dL_isEngine_248 rfl ?_
                refine j_iload hc dL_isEngine_250 rfl ?_
                refine xl_5 hc (i := i) (by omega) (v := (S 5 i)) (rfl) dL_isEngine_252 ?_
                refine j_iload hc dL_isEngine_253 rfl ?_
                refine j_bipush hc (v := nI 7) dL_isEngine_255 (by decide) ?_
                refine j_iremE hc (by decide) (z := nI (X % 7)) (pk_rem (by omega) (by omega) (by omega)) dL_isEngine_257 ?_
                refine j_icmp_ne hc 271 dL_isEngine_258 (by decide) (fun h258 => ?_) (fun h258 => ?_)
                · -- taken
                  refine j_iconst hc (v := nI 0) dL_isEngine_271 (by decide) ?_
                  refine j_iadd hc dL_isEngine_272 ?_
                  refine j_istore hc dL_isEngine_273 rfl ?_
                  refine j_incE hc dL_isEngine_275 rfl (v := nI (i + 1)) (nI_1 _) rfl ?_
                  refine j_goto hc 149 dL_isEngine_278 (by decide) ?_
                  have ha9 : E.2.1 1 i = nI a := q1.trans h218
                  refine j_lv [(0, .ref (ad 0)), (1, .ref (ad 15)), (2, .ref (ad 16)), (3, .ref (ad 19)), (4, .ref (ad 20)), (5, .ref (ad 21)), (6, .ref (ad 22)), (7, .ref (ad 23)), (8, .int (nI X)), (9, .int (nI 0)), (10, .int (nI 1)), (11, .int (nI a)), (12, .int c0), (13, .int (d0 + (nI 0))), (14, .int (nI (i + 1)))] ⟨rfl, rfl, rfl, rfl, rfl, rfl, rfl, rfl, rfl, rfl, rfl, rfl, rfl, rfl, rfl, trivial⟩ ?_
                  exact ih2 K (i + 1) _ _ (by omega) (by omega) (by rw [hs, svc_1 hin ha9, if_neg (by rw [i32_lt]; have t9 := h225; rw [i32_le] at t9; omega)]) (by rw [hd, lin_1 hin ha9 (fun z => h258 ((H.st hin).symm.trans z))])
                · -- not taken
                  refine j_aload_n hc dL_isEngine_261 rfl ?_
                  refine j_bipush hc (v := nI 24) dL_isEngine_262 (by decide) ?_
                  refine j_iload hc dL_isEngine_264 rfl ?_
                  refine j_iaddE hc (z := nI (24 + i)) (nI_add _ _) dL_isEngine_266 ?_
                  refine xl_4 hc (i := (24 + i)) (by omega) (v := (S 4 (24 + i))) (rfl) dL_isEngine_267 ?_
                  refine j_goto hc 272 dL_isEngine_268 (by decide) ?_
                  refine j_iadd hc dL_isEngine_272 ?_
                  refine j_istore hc dL_isEngine_273 rfl ?_
                  refine j_incE hc dL_isEngine_275 rfl (v := nI (i + 1)) (nI_1 _) rfl ?_
                  refine j_goto hc 149 dL_isEngine_278 (by decide) ?_
                  have ha9 : E.2.1 1 i = nI a := q1.trans h218
                  refine j_lv [(0, .ref (ad 0)), (1, .ref (ad 15)), (2, .ref (ad 16)), (3, .ref (ad 19)), (4, .ref (ad 20)), (5, .ref (ad 21)), (6, .ref (ad 22)), (7, .ref (ad 23)), (8, .int (nI X)), (9, .int (nI 0)), (10, .int (nI 1)), (11, .int (nI a)), (12, .int c0), (13, .int (d0 + (S 4 (24 + i)))), (14, .int (nI (i + 1)))] ⟨rfl, rfl, rfl, rfl, rfl, rfl, rfl, rfl, rfl, rfl, rfl, rfl, rfl, rfl, rfl, trivial⟩ ?_
                  exact ih2 K (i + 1) _ _ (by omega) (by omega) (by rw [hs, svc_1 hin ha9, if_neg (by rw [i32_lt]; have t9 := h225; rw [i32_le] at t9; omega)]) (by rw [hd, lin_2 hin ha9 ((H.st hin).trans h258), H.le hin])
              · -- not taken
                refine j_iload hc dL_isEngine_228 rfl ?_
                refine j_goto hc 235 dL_isEngine_230 (by decide) ?_
                refine j_istore hc dL_isEngine_235 rfl ?_
                refine j_iload hc dL_isEngine_237 rfl ?_
                refine j_aload_n hc dL_isEngine_239 rfl ?_
                refine j_iload hc dL_isEngine_240 rfl ?_
                refine xl_4 hc (i := i) (by omega) (v := (S 4 i)) (rfl) dL_isEngine_242 ?_
                refine j_iload hc dL_isEngine_243 rfl ?_
                refine j_icmp_ne hc 271 dL_isEngine_245 (by decide) (fun h245 => by exact absurd h218 h245) (fun h245 => ?_)
                refine j_aload hc dL_isEngine_248 rfl ?_
                refine j_iload hc dL_isEngine_250 rfl ?_
                refine xl_5 hc (i := i) (by omega) (v := (S 5 i)) (rfl) dL_isEngine_252 ?_
                refine j_iload hc dL_isEngine_253 rfl ?_
                refine j_bipush hc (v := nI 7) dL_isEngine_255 (by decide) ?_
                refine j_iremE hc (by decide) (z := nI (X % 7)) (pk_rem (by omega) (by omega) (by omega)) dL_isEngine_257 ?_
                refine j_icmp_ne hc 271 dL_isEngine_258 (by decide) (fun h258 => ?_) (fun h258 => ?_)
                · -- taken
                  refine j_iconst hc (v := nI 0) dL_isEngine_271 (by decide) ?_
                  refine j_iadd hc dL_isEngine_272 ?_
                  refine j_istore hc dL_isEngine_273 rfl ?_
                  refine j_incE hc dL_isEngine_275 rfl (v := nI (i + 1)) (nI_1 _) rfl ?_
                  refine j_goto hc 149 dL_isEngine_278 (by decide) ?_
                  have ha9 : E.2.1 1 i = nI a := q1.trans h218
                  refine j_lv [(0, .ref (ad 0)), (1, .ref (ad 15)), (2, .ref (ad 16)), (3, .ref (ad 19)), (4, .ref (ad 20)), (5, .ref (ad 21)), (6, .ref (ad 22)), (7, .ref (ad 23)), (8, .int (nI X)), (9, .int (nI 0)), (10, .int (nI 1)), (11, .int (nI a)), (12, .int (e_sw E i)), (13, .int (d0 + (nI 0))), (14, .int (nI (i + 1)))] ⟨rfl, rfl, rfl, rfl, rfl, rfl, rfl, rfl, rfl, rfl, rfl, rfl, rfl, rfl, rfl, trivial⟩ ?_
                  exact ih2 K (i + 1) _ _ (by omega) (by omega) (by rw [hs, svc_1 hin ha9, if_pos (by rw [i32_lt]; have t9 := h225; rw [i32_le] at t9; omega)]) (by rw [hd, lin_1 hin ha9 (fun z => h258 ((H.st hin).symm.trans z))])
                · -- not taken
                  refine j_aload_n hc dL_isEngine_261 rfl ?_
                  refine j_bipush hc (v := nI 24) dL_isEngine_262 (by decide) ?_
                  refine j_iload hc dL_isEngine_264 rfl ?_
                  refine j_iaddE hc (z := nI (24 + i)) (nI_add _ _) dL_isEngine_266 ?_
                  refine xl_4 hc (i := (24 + i)) (by omega) (v := (S 4 (24 + i))) (rfl) dL_isEngine_267 ?_
                  refine j_goto hc 272 dL_isEngine_268 (by decide) ?_
                  refine j_iadd hc dL_isEngine_272 ?_
                  refine j_istore hc dL_isEngine_273 rfl ?_
                  refine j_incE hc dL_isEngine_275 rfl (v := nI (i + 1)) (nI_1 _) rfl ?_
                  refine j_goto hc 149 dL_isEngine_278 (by decide) ?_
                  have ha9 : E.2.1 1 i = nI a := q1.trans h218
                  refine j_lv [(0, .ref (ad 0)), (1, .ref (ad 15)), (2, .ref (ad 16)), (3, .ref (ad 19)), (4, .ref (ad 20)), (5, .ref (ad 21)), (6, .ref (ad 22)), (7, .ref (ad 23)), (8, .int (nI X)), (9, .int (nI 0)), (10, .int (nI 1)), (11, .int (nI a)), (12, .int (e_sw E i)), (13, .int (d0 + (S 4 (24 + i)))), (14, .int (nI (i + 1)))] ⟨rfl, rfl, rfl, rfl, rfl, rfl, rfl, rfl, rfl, rfl, rfl, rfl, rfl, rfl, rfl, trivial⟩ ?_
                  exact ih2 K (i + 1) _ _ (by omega) (by omega) (by rw [hs, svc_1 hin ha9, if_pos (by rw [i32_lt]; have t9 := h225; rw [i32_le] at t9; omega)]) (by rw [hd, lin_2 hin ha9 ((H.st hin).trans h258), H.le hin])
          refine j_iload hc dL_isEngine_149 rfl ?_
          refine j_aload_n hc dL_isEngine_151 rfl ?_
          refine j_iconst hc (v := nI 2) dL_isEngine_152 (by decide) ?_
          refine xl_0 hc (i := 2) (by omega) (v := (nI n)) (G.n2) dL_isEngine_153 ?_
          refine j_icmp_ge hc 281 dL_isEngine_154 (by decide) (fun h154 => by exact absurd h154 (nI_ge (by omega) (by omega))) (fun h154 => ?_)
          refine j_aload hc dL_isEngine_157 rfl ?_
          refine j_iload hc dL_isEngine_159 rfl ?_
          refine xl_5 hc (i := i) (by omega) (v := (S 5 i)) (rfl) dL_isEngine_161 ?_
          refine j_iconst hc (v := nI 3) dL_isEngine_162 (by decide) ?_
          refine j_icmp_eq hc 175 dL_isEngine_163 (by decide) (fun h163 => ?_) (fun h163 => ?_)
          · -- taken
            refine j_iconst hc (v := nI 0) dL_isEngine_175 (by decide) ?_
            refine j_goto hc 210 dL_isEngine_176 (by decide) ?_
            refine j_istore hc dL_isEngine_210 rfl ?_
            have sw9 : e_sw E i = (nI 0) := by rw [sw_eq H hin]; simp only [if_pos h163]
            refine j_lv [(0, .ref (ad 0)), (1, .ref (ad 15)), (2, .ref (ad 16)), (3, .ref (ad 19)), (4, .ref (ad 20)), (5, .ref (ad 21)), (6, .ref (ad 22)), (7, .ref (ad 23)), (8, .int (nI X)), (9, .int (nI 0)), (10, .int (nI 1)), (11, .int (nI a)), (12, .int c0), (13, .int d0), (14, .int (nI i)), (15, .int (nI 0))] ⟨rfl, rfl, rfl, rfl, rfl, rfl, rfl, rfl, rfl, rfl, rfl, rfl, rfl, rfl, rfl, rfl, trivial⟩ ?_
            exact k212 _ sw9
          · -- not taken
            refine j_aload hc dL_isEngine_166 rfl ?_
            refine j_iload hc dL_isEngine_168 rfl ?_
            refine xl_5 hc (i := i) (by omega) (v := (S 5 i)) (rfl) dL_isEngine_170 ?_
            refine j_iconst hc (v := nI 5) dL_isEngine_171 (by decide) ?_
            refine j_icmp_ne hc 179 dL_isEngine_172 (by decide) (fun h172 => ?_) (fun h172 => ?_)
            · -- taken
              refine j_aload hc dL_isEngine_179 rfl ?_
              refine j_iload hc dL_isEngine_181 rfl ?_
              refine xl_5 hc (i := i) (by omega) (v := (S 5 i)) (rfl) dL_isEngine_183 ?_
              refine j_iconst hc (v := nI 2) dL_isEngine_184 (by decide) ?_
              refine j_icmp_eq hc 205 dL_isEngine_185 (by decide) (fun h185 => ?_) (fun h185 => ?_)
              · -- taken
                refine j_iconst hc (v := nI 1) dL_isEngine_205 (by decide) ?_
                refine j_goto hc 210 dL_isEngine_206 (by decide) ?_
                refine j_istore hc dL_isEngine_210 rfl ?_
                have sw9 : e_sw E i = (nI 1) := by rw [sw_eq H hin]; simp only [if_neg h163, if_neg h172, if_pos h185]
                refine j_lv [(0, .ref (ad 0)), (1, .ref (ad 15)), (2, .ref (ad 16)), (3, .ref (ad 19)), (4, .ref (ad 20)), (5, .ref (ad 21)), (6, .ref (ad 22)), (7, .ref (ad 23)), (8, .int (nI X)), (9, .int (nI 0)), (10, .int (nI 1)), (11, .int (nI a)), (12, .int c0), (13, .int d0), (14, .int (nI i)), (15, .int (nI 1))] ⟨rfl, rfl, rfl, rfl, rfl, rfl, rfl, rfl, rfl, rfl, rfl, rfl, rfl, rfl, rfl, rfl, trivial⟩ ?_
                exact k212 _ sw9
              · -- not taken
                refine j_aload hc dL_isEngine_188 rfl ?_
                refine j_iload hc dL_isEngine_190 rfl ?_
                refine xl_5 hc (i := i) (by omega) (v := (S 5 i)) (rfl) dL_isEngine_192 ?_
                refine j_iconst hc (v := nI 4) dL_isEngine_193 (by decide) ?_
                refine j_icmp_ne hc 209 dL_isEngine_194 (by decide) (fun h194 => ?_) (fun h194 => ?_)
                · -- taken
                  refine j_iconst hc (v := nI 2) dL_isEngine_209 (by decide) ?_
                  refine j_istore hc dL_isEngine_210 rfl ?_
                  have sw9 : e_sw E i = (nI 2) := by rw [sw_eq H hin]; simp only [if_neg h163, if_neg h172, if_neg h185, if_neg h194]
                  refine j_lv [(0, .ref (ad 0)), (1, .ref (ad 15)), (2, .ref (ad 16)), (3, .ref (ad 19)), (4, .ref (ad 20)), (5, .ref (ad 21)), (6, .ref (ad 22)), (7, .ref (ad 23)), (8, .int (nI X)), (9, .int (nI 0)), (10, .int (nI 1)), (11, .int (nI a)), (12, .int c0), (13, .int d0), (14, .int (nI i)), (15, .int (nI 2))] ⟨rfl, rfl, rfl, rfl, rfl, rfl, rfl, rfl, rfl, rfl, rfl, rfl, rfl, rfl, rfl, rfl, trivial⟩ ?_
                  exact k212 _ sw9
                · -- not taken
                  refine j_aload hc dL_isEngine_197 rfl ?_
                  refine j_iload hc dL_isEngine_199 rfl ?_
                  refine xl_7 hc (i := i) (by omega) (v := (S 7 i)) (rfl) dL_isEngine_201 ?_
                  refine j_if_le hc 209 dL_isEngine_202 (by decide) (fun h202 => ?_) (fun h202 => ?_)
                  · -- taken
                    refine j_iconst hc (v := nI 2) dL_isEngine_209 (by decide) ?_
                    refine j_istore hc dL_isEngine_210 rfl ?_
                    have sw9 : e_sw E i = (nI 2) := by rw [sw_eq H hin]; simp only [if_neg h163, if_neg h172, if_neg h185, if_pos h194, if_pos h202]
                    refine j_lv [(0, .ref (ad 0)), (1, .ref (ad 15)), (2, .ref (ad 16)), (3, .ref (ad 19)), (4, .ref (ad 20)), (5, .ref (ad 21)), (6, .ref (ad 22)), (7, .ref (ad 23)), (8, .int (nI X)), (9, .int (nI 0)), (10, .int (nI 1)), (11, .int (nI a)), (12, .int c0), (13, .int d0), (14, .int (nI i)), (15, .int (nI 2))] ⟨rfl, rfl, rfl, rfl, rfl, rfl, rfl, rfl, rfl, rfl, rfl, rfl, rfl, rfl, rfl, rfl, trivial⟩ ?_
                    exact k212 _ sw9
                  · -- not taken
                    refine j_iconst hc (v := nI 1) dL_isEngine_205 (by decide) ?_
                    refine j_goto hc 210 dL_isEngine_206 (by decide) ?_
                    refine j_istore hc dL_isEngine_210 rfl ?_
                    have sw9 : e_sw E i = (nI 1) := by rw [sw_eq H hin]; simp only [if_neg h163, if_neg h172, if_neg h185, if_pos h194, if_neg h202]
                    refine j_lv [(0, .ref (ad 0)), (1, .ref (ad 15)), (2, .ref (ad 16)), (3, .ref (ad 19)), (4, .ref (ad 20)), (5, .ref (ad 21)), (6, .ref (ad 22)), (7, .ref (ad 23)), (8, .int (nI X)), (9, .int (nI 0)), (10, .int (nI 1)), (11, .int (nI a)), (12, .int c0), (13, .int d0), (14, .int (nI i)), (15, .int (nI 1))] ⟨rfl, rfl, rfl, rfl, rfl, rfl, rfl, rfl, rfl, rfl, rfl, rfl, rfl, rfl, rfl, rfl, trivial⟩ ?_
                    exact k212 _ sw9
            · -- not taken
              refine j_iconst hc (v := nI 0) dL_isEngine_175 (by decide) ?_
              refine j_goto hc 210 dL_isEngine_176 (by decide) ?_
              refine j_istore hc dL_isEngine_210 rfl ?_
              have sw9 : e_sw E i = (nI 0) := by rw [sw_eq H hin]; simp only [if_neg h163, if_pos h172]
              refine j_lv [(0, .ref (ad 0)), (1, .ref (ad 15)), (2, .ref (ad 16)), (3, .ref (ad 19)), (4, .ref (ad 20)), (5, .ref (ad 21)), (6, .ref (ad 22)), (7, .ref (ad 23)), (8, .int (nI X)), (9, .int (nI 0)), (10, .int (nI 1)), (11, .int (nI a)), (12, .int c0), (13, .int d0), (14, .int (nI i)), (15, .int (nI 0))] ⟨rfl, rfl, rfl, rfl, rfl, rfl, rfl, rfl, rfl, rfl, rfl, rfl, rfl, rfl, rfl, rfl, trivial⟩ ?_
              exact k212 _ sw9
      refine j_iload hc dL_isEngine_128 rfl ?_
      refine j_bipush hc (v := nI 8) dL_isEngine_130 (by decide) ?_
      refine j_icmp_ge hc 321 dL_isEngine_132 (by decide) (fun h132 => by exact absurd h132 (nI_ge (b := 8) (by omega) (by omega))) (fun h132 => ?_)
      refine j_iload hc dL_isEngine_135 rfl ?_
      refine j_if_eq hc 321 dL_isEngine_137 (by decide) (fun h137 => by exact absurd (show (nI 1) = (0 : Int32) from h137) (by decide)) (fun h137 => ?_)
      refine j_iconst hc (v := nI 2) dL_isEngine_140 (by decide) ?_
      refine j_istore hc dL_isEngine_141 rfl ?_
      refine j_iconst hc (v := nI 0) dL_isEngine_143 (by decide) ?_
      refine j_istore hc dL_isEngine_144 rfl ?_
      refine j_iconst hc (v := nI 0) dL_isEngine_146 (by decide) ?_
      refine j_istore hc dL_isEngine_147 rfl ?_
      refine j_lv [(0, .ref (ad 0)), (1, .ref (ad 15)), (2, .ref (ad 16)), (3, .ref (ad 19)), (4, .ref (ad 20)), (5, .ref (ad 21)), (6, .ref (ad 22)), (7, .ref (ad 23)), (8, .int (nI X)), (9, .int (nI 0)), (10, .int (nI 1)), (11, .int (nI a)), (12, .int (nI 2)), (13, .int (nI 0)), (14, .int (nI 0))] ⟨rfl, rfl, rfl, rfl, rfl, rfl, rfl, rfl, rfl, rfl, rfl, rfl, rfl, rfl, rfl, trivial⟩ ?_
      exact inner n 30 0 _ _ (by omega) rfl rfl rfl
  have loop1 : ∀ (k i : Nat), i + k = 12 → J p l e (RM 8 1664 13312) s m args below meth c D A 16 (8 * i) (8 * (8 * i)) (QE below args s D A 1664 13312 (WD ad cs n E S o) (none, some (.int 1), WD ad cs n E S o)) (WD ad cs n E S o) 76 [(0, .ref (ad 0)), (1, .ref (ad 15)), (2, .ref (ad 16)), (3, .ref (ad 19)), (4, .ref (ad 20)), (5, .ref (ad 21)), (6, .ref (ad 22)), (7, .ref (ad 23)), (8, .int (nI X)), (9, .int (nI 0)), (10, .int (nI 1)), (11, .int (nI i))] [] := by
    intro k
    induction k with
    | zero =>
      intro i hi
      refine j_iload hc dL_isEngine_76 rfl ?_
      refine j_bipush hc (v := nI 12) dL_isEngine_78 (by decide) ?_
      refine j_icmp_ge hc 125 dL_isEngine_80 (by decide) (fun h80 => ?_) (fun h80 => by exact absurd (nI_le (a := 12) (by omega) (by omega)) h80)
      refine j_iconst hc (v := nI 0) dL_isEngine_125 (by decide) ?_
      refine j_istore hc dL_isEngine_126 rfl ?_
      refine j_lv [(0, .ref (ad 0)), (1, .ref (ad 15)), (2, .ref (ad 16)), (3, .ref (ad 19)), (4, .ref (ad 20)), (5, .ref (ad 21)), (6, .ref (ad 22)), (7, .ref (ad 23)), (8, .int (nI X)), (9, .int (nI 0)), (10, .int (nI 1)), (11, .int (nI 0))] ⟨rfl, rfl, rfl, rfl, rfl, rfl, rfl, rfl, rfl, rfl, rfl, rfl, trivial⟩ ?_
      refine j_widen (k := 96 + 16 * 0) (n := 8 * (96 + 16 * 0)) (by omega) (by omega) ?_
      exact loopA 8 0 rfl
    | succ k ih =>
      intro i hi
      refine j_iload hc dL_isEngine_76 rfl ?_
      refine j_bipush hc (v := nI 12) dL_isEngine_78 (by decide) ?_
      refine j_icmp_ge hc 125 dL_isEngine_80 (by decide) (fun h80 => by exact absurd h80 (nI_ge (b := 12) (by omega) (by omega))) (fun h80 => ?_)
      refine j_iload hc dL_isEngine_83 rfl ?_
      refine j_if_eq hc 125 dL_isEngine_85 (by decide) (fun h85 => by exact absurd (show (nI 1) = (0 : Int32) from h85) (by decide)) (fun h85 => ?_)
      refine j_aload_n hc dL_isEngine_88 rfl ?_
      refine j_aload_n hc dL_isEngine_89 rfl ?_
      refine j_iconst hc (v := nI 0) dL_isEngine_90 (by decide) ?_
      refine xl_0 hc (i := 0) (by omega) (v := (nI Y)) (G.d0) dL_isEngine_91 ?_
      refine j_iload hc dL_isEngine_92 rfl ?_
      refine j_iaddE hc (z := nI (Y + i)) (nI_add _ _) dL_isEngine_94 ?_
      refine j_callV' hc (k_isCharging hl (ic_eq H (x := Y + i) (by omega))) vc_L_65 rfl ⟨rfl, rfl, by decide, by decide⟩ 0 rfl rfl rfl (Nat.le_of_ble_eq_true rfl) ⟨by show _ ≤ 1664; omega, by show _ ≤ 13312; omega⟩ dL_isEngine_95 (fun _ h9 => by cases h9) (fun _ => ?_)
      refine j_aload_n hc dL_isEngine_98 rfl ?_
      refine j_aload_n hc dL_isEngine_99 rfl ?_
      refine j_aload_n hc dL_isEngine_100 rfl ?_
      refine j_iconst hc (v := nI 0) dL_isEngine_101 (by decide) ?_
      refine xl_0 hc (i := 0) (by omega) (v := (nI Y)) (G.d0) dL_isEngine_102 ?_
      refine j_iload hc dL_isEngine_103 rfl ?_
      refine j_iaddE hc (z := nI (Y + i)) (nI_add _ _) dL_isEngine_105 ?_
      refine j_callS' hc (c_L_charges hl (S := S) (x := Y + i) (by omega) G.w63 G.h60) sc_L_7 rfl ⟨rfl, rfl, by decide, by decide⟩ rfl (Nat.le_of_ble_eq_true rfl) ⟨by show _ ≤ 1664; omega, by show _ ≤ 13312; omega⟩ dL_isEngine_106 (fun _ h9 => by cases h9) (fun _ => ?_)
      refine j_icmp_ne hc 116 dL_isEngine_109 (by decide) (fun h109 => by exact absurd rfl h109) (fun h109 => ?_)
      refine j_iconst hc (v := nI 1) dL_isEngine_112 (by decide) ?_
      refine j_goto hc 117 dL_isEngine_113 (by decide) ?_
      refine j_istore hc dL_isEngine_117 rfl ?_
      refine j_incE hc dL_isEngine_119 rfl (v := nI (i + 1)) (nI_1 _) rfl ?_
      refine j_goto hc 76 dL_isEngine_122 (by decide) ?_
      refine j_lv [(0, .ref (ad 0)), (1, .ref (ad 15)), (2, .ref (ad 16)), (3, .ref (ad 19)), (4, .ref (ad 20)), (5, .ref (ad 21)), (6, .ref (ad 22)), (7, .ref (ad 23)), (8, .int (nI X)), (9, .int (nI 0)), (10, .int (nI 1)), (11, .int (nI (i + 1)))] ⟨rfl, rfl, rfl, rfl, rfl, rfl, rfl, rfl, rfl, rfl, rfl, rfl, trivial⟩ ?_
      refine j_widen (k := 8 * (i + 1)) (n := 8 * (8 * (i + 1))) (by omega) (by omega) ?_
      exact ih (i + 1) (by omega)
  refine j_iconst hc (v := nI 0) dL_isEngine_0 (by decide) ?_
  refine j_istore hc dL_isEngine_1 rfl ?_
  refine j_aload_n hc dL_isEngine_3 rfl ?_
  refine j_callV' hc (c_X4_today hl) vc_L_46 rfl ⟨rfl, rfl, by decide, by decide⟩ 0 rfl rfl rfl (Nat.le_of_ble_eq_true rfl) ⟨by show _ ≤ 1664; omega, by show _ ≤ 13312; omega⟩ dL_isEngine_4 (fun _ h9 => by cases h9) (fun _ => ?_)
  refine j_aload_n hc dL_isEngine_7 rfl ?_
  refine j_iconst hc (v := nI 0) dL_isEngine_8 (by decide) ?_
  refine xl_0 hc (i := 0) (by omega) (v := (nI Y)) (G.d0) dL_isEngine_9 ?_
  refine j_icmp_ne hc 70 dL_isEngine_10 (by decide) (fun h10 => by exact absurd (G.d5) h10) (fun h10 => ?_)
  refine j_aload_n hc dL_isEngine_13 rfl ?_
  refine j_callV' hc (c_X4_bills hl) vc_L_50 rfl ⟨rfl, rfl, by decide, by decide⟩ 0 rfl rfl rfl (Nat.le_of_ble_eq_true rfl) ⟨by show _ ≤ 1664; omega, by show _ ≤ 13312; omega⟩ dL_isEngine_14 (fun _ h9 => by cases h9) (fun _ => ?_)
  refine j_aload_n hc dL_isEngine_17 rfl ?_
  refine j_iconst hc (v := nI 2) dL_isEngine_18 (by decide) ?_
  refine xl_0 hc (i := 2) (by omega) (v := (nI n)) (G.n2) dL_isEngine_19 ?_
  refine j_icmp_ne hc 70 dL_isEngine_20 (by decide) (fun h20 => by exact absurd (G.n4) h20) (fun h20 => ?_)
  refine j_aload_n hc dL_isEngine_23 rfl ?_
  refine j_callV' hc (c_X4_paid hl) vc_L_53 rfl ⟨rfl, rfl, by decide, by decide⟩ 0 rfl rfl rfl (Nat.le_of_ble_eq_true rfl) ⟨by show _ ≤ 1664; omega, by show _ ≤ 13312; omega⟩ dL_isEngine_24 (fun _ h9 => by cases h9) (fun _ => ?_)
  refine j_aload_n hc dL_isEngine_27 rfl ?_
  refine j_iconst hc (v := nI 5) dL_isEngine_28 (by decide) ?_
  refine xl_0 hc (i := 5) (by omega) (v := (S 0 5)) (rfl) dL_isEngine_29 ?_
  refine j_icmp_ne hc 70 dL_isEngine_30 (by decide) (fun h30 => by exact absurd (G.g9) h30) (fun h30 => ?_)
  refine j_aload_n hc dL_isEngine_33 rfl ?_
  refine j_callV' hc (c_X4_writtenOff hl) vc_L_56 rfl ⟨rfl, rfl, by decide, by decide⟩ 0 rfl rfl rfl (Nat.le_of_ble_eq_true rfl) ⟨by show _ ≤ 1664; omega, by show _ ≤ 13312; omega⟩ dL_isEngine_34 (fun _ h9 => by cases h9) (fun _ => ?_)
  refine j_aload_n hc dL_isEngine_37 rfl ?_
  refine j_bipush hc (v := nI 6) dL_isEngine_38 (by decide) ?_
  refine xl_0 hc (i := 6) (by omega) (v := (S 0 6)) (rfl) dL_isEngine_40 ?_
  refine j_icmp_ne hc 70 dL_isEngine_41 (by decide) (fun h41 => by exact absurd (G.g10) h41) (fun h41 => ?_)
  refine j_aload_n hc dL_isEngine_44 rfl ?_
  refine j_callV' hc (c_X4_broughtBack hl) vc_L_59 rfl ⟨rfl, rfl, by decide, by decide⟩ 0 rfl rfl rfl (Nat.le_of_ble_eq_true rfl) ⟨by show _ ≤ 1664; omega, by show _ ≤ 13312; omega⟩ dL_isEngine_45 (fun _ h9 => by cases h9) (fun _ => ?_)
  refine j_aload_n hc dL_isEngine_48 rfl ?_
  refine j_bipush hc (v := nI 7) dL_isEngine_49 (by decide) ?_
  refine xl_0 hc (i := 7) (by omega) (v := (S 0 7)) (rfl) dL_isEngine_51 ?_
  refine j_icmp_ne hc 70 dL_isEngine_52 (by decide) (fun h52 => by exact absurd (G.g11) h52) (fun h52 => ?_)
  refine j_aload_n hc dL_isEngine_55 rfl ?_
  refine j_callV' hc (c_X4_events hl) vc_L_62 rfl ⟨rfl, rfl, by decide, by decide⟩ 0 rfl rfl rfl (Nat.le_of_ble_eq_true rfl) ⟨by show _ ≤ 1664; omega, by show _ ≤ 13312; omega⟩ dL_isEngine_56 (fun _ h9 => by cases h9) (fun _ => ?_)
  refine j_aload_n hc dL_isEngine_59 rfl ?_
  refine j_bipush hc (v := nI 8) dL_isEngine_60 (by decide) ?_
  refine xl_0 hc (i := 8) (by omega) (v := (nI N)) (G.t8) dL_isEngine_62 ?_
  refine j_icmp_ne hc 70 dL_isEngine_63 (by decide) (fun h63 => by exact absurd (G.t13) h63) (fun h63 => ?_)
  refine j_iconst hc (v := nI 1) dL_isEngine_66 (by decide) ?_
  refine j_goto hc 71 dL_isEngine_67 (by decide) ?_
  refine j_istore hc dL_isEngine_71 rfl ?_
  refine j_iconst hc (v := nI 0) dL_isEngine_73 (by decide) ?_
  refine j_istore hc dL_isEngine_74 rfl ?_
  refine j_lv [(0, .ref (ad 0)), (1, .ref (ad 15)), (2, .ref (ad 16)), (3, .ref (ad 19)), (4, .ref (ad 20)), (5, .ref (ad 21)), (6, .ref (ad 22)), (7, .ref (ad 23)), (8, .int (nI X)), (9, .int (nI 0)), (10, .int (nI 1)), (11, .int (nI 0))] ⟨rfl, rfl, rfl, rfl, rfl, rfl, rfl, rfl, rfl, rfl, rfl, rfl, trivial⟩ ?_
  refine j_widen (k := 8 * 0) (n := 8 * (8 * 0)) (by omega) (by omega) ?_
  exact loop1 12 0 rfl
