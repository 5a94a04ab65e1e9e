/-- what does answers of a call -/
def dval (sp : ER) : Int32 := match sp.1 with
  | none => sp.2.1
  | some _ => -13
theorem dval_n {t : Option String} {v : Int32} {E : ES} (h : t = none) : dval (t, v, E) = v := by subst h; rfl
theorem rng_ok {k x y : Nat} (h1 : x ≤ k) (h2 : k ≤ y) (hy : y < 2 ^ 31) : e_rng (nI k) (nI x) (nI y) = none := by
  unfold e_rng
  rw [if_neg (nI_nlt h1 (by omega)), if_pos (nI_le h2 hy)]
theorem fb_ok {n b : Nat} (hb : b < n) (hn : n ≤ 12) : e_fb n (nI b) = none := by
  have z2 : ¬ (30 : Int32) ≤ nI b := nI_ge (b := 30) (by omega) (by omega)
  unfold e_fb
  rw [if_neg (nI_pos (by omega)), if_neg z2, nI_clamp (by omega), if_pos hb]
theorem acc_ok {x : Nat} (h : x < 8) : e_acc (nI x) = none := by
  have z2 : nI x < 8 := nI_lt (b := 8) h (by decide)
  unfold e_acc
  rw [if_neg (nI_pos (by omega)), if_pos z2]
theorem rsn_ok {i : Nat} (h : i < 4) : e_rsn (nI (i + 1)) = none := by
  have z1 : ¬ nI (i + 1) < 1 := nI_nlt (a := i + 1) (b := 1) (by omega) (by omega)
  have z2 : nI (i + 1) ≤ 4 := nI_le (b := 4) (by omega) (by decide)
  unfold e_rsn
  rw [if_neg z1, if_pos z2]
section EQS
variable {h n N Y b : Nat} {E : ES} {S : MS}
theorem pay_eq (H : Rel h n N Y E S) (hb : b < n) {v : Nat} (v1 : 1 ≤ v) (v9 : v ≤ 9999) : e_pay n E (nI b) (nI v) = if S 5 b = nI 1 then (some xIS, 0, E) else if S 5 b = nI 6 then (some xIS, 0, E) else if nI v ≤ S 4 (24 + b) then (none, (e_take E b (nI v)).2.1 3 b, e_take E b (nI v)) else (some xIS, 0, E) := by
  have n12 := H.1.n12
  have r := rng_ok (k := v) (x := 1) (y := 9999) v1 v9 (by decide)
  have r' : e_rng (nI v) 1 9999 = none := r
  unfold e_pay
  rw [ck_none (fb_ok hb n12), ck_none r', nI_clamp (by omega), H.st hb, H.le hb]
  rfl
theorem out_eq (H : Rel h n N Y E S) (hb : b < n) {x : Nat} (hx : x ≤ 4) : e_outcome n E (nI b) (nI x) = if S 5 b = nI 1 then (if nI x = nI 0 then (none, (e_take E b (S 4 (24 + b))).2.1 4 b, e_take E b (S 4 (24 + b))) else (none, (e_fail E b (nI x)).2.1 4 b, e_fail E b (nI x))) else (some xIS, 0, E) := by
  have n12 := H.1.n12
  have r := rng_ok (k := x) (x := 0) (y := 4) (Nat.zero_le _) hx (by decide)
  have r' : e_rng (nI x) 0 4 = none := r
  unfold e_outcome
  rw [ck_none (fb_ok hb n12), ck_none r', nI_clamp (by omega), H.st hb, H.le hb]
  rfl
theorem prom_eq (H : Rel h n N Y E S) (hb : b < n) {d : Nat} (h1 : 1 ≤ d) (h2 : d ≤ 30) : e_promise n E (nI b) (nI d) = if (S 5 b = nI 0 ∨ S 5 b = nI 2 ∨ S 5 b = nI 3) ∧ S 5 (36 + b) < nI 2 then (none, (e_prom1 E b (nI d)).2.1 5 b, e_prom1 E b (nI d)) else (some xIS, 0, E) := by
  have n12 := H.1.n12
  have r := rng_ok (k := d) (x := 1) (y := 30) h1 h2 (by decide)
  have r' : e_rng (nI d) 1 30 = none := r
  have q7 : E.2.1 7 b = S 5 (36 + b) := (H.2.1 b hb).1.2.2.2.2.1
  unfold e_promise e_prom0
  rw [ck_none (fb_ok hb n12), ck_none r', nI_clamp (by omega), H.st hb, q7]
  by_cases z0 : S 5 b = nI 0
  · rw [if_pos (show S 5 b = 0 from z0)]
    by_cases z2 : S 5 (36 + b) < nI 2
    · rw [if_pos (show S 5 (36 + b) < 2 from z2), if_pos ⟨Or.inl z0, z2⟩]
    · rw [if_neg (show ¬ S 5 (36 + b) < 2 from z2), if_neg (fun w => z2 w.2)]
  · rw [if_neg (show ¬ S 5 b = 0 from z0)]
    by_cases y2 : S 5 b = nI 2
    · rw [if_pos (show S 5 b = 2 from y2)]
      by_cases z2 : S 5 (36 + b) < nI 2
      · rw [if_pos (show S 5 (36 + b) < 2 from z2), if_pos ⟨Or.inr (Or.inl y2), z2⟩]
      · rw [if_neg (show ¬ S 5 (36 + b) < 2 from z2), if_neg (fun w => z2 w.2)]
    · rw [if_neg (show ¬ S 5 b = 2 from y2)]
      by_cases y3 : S 5 b = nI 3
      · rw [if_pos (show S 5 b = 3 from y3)]
        by_cases z2 : S 5 (36 + b) < nI 2
        · rw [if_pos (show S 5 (36 + b) < 2 from z2), if_pos ⟨Or.inr (Or.inr y3), z2⟩]
        · rw [if_neg (show ¬ S 5 (36 + b) < 2 from z2), if_neg (fun w => z2 w.2)]
      · rw [if_neg (show ¬ S 5 b = 3 from y3), if_neg (fun w => w.1.elim z0 (fun w => w.elim y2 y3))]
end EQS
set_option maxRecDepth 100000 in
set_option maxHeartbeats 4000000 in
theorem c_L_pays {l : Launch} {D : va_G} {cs : Nat → ClassId} {sa : Nat → Nat} (hl : l.stackTraces = false)  {ad : Nat → Nat} {n : Nat} {E : ES} {S : MS} {o : Nat → Int64} {h N Y b v : Nat} {E0 : ES} (H : Rel h n N Y E0 S) (hb : b < n) (hY : Y ≤ 8000) (hN : N ≤ 200000) (v1 : 1 ≤ v) (v9 : v ≤ 9999) : EX l D cs sa yL_pays cL_pays 6 (Option.some Jvm.ClassFile.FieldType.int) (RM 1 0 0) 0 0 [.ref (ad 15), .ref (ad 19), .ref (ad 20), .ref (ad 23), .int (nI b), .int (nI v)] (WD ad cs n E S o) (X := {x : MS × Nat // x.2 ≤ N + 1 ∧ Rel h n x.2 Y (e_pay n E0 (nI b) (nI v)).2.2 x.1}) none (fun x : {x : MS × Nat // x.2 ≤ N + 1 ∧ Rel h n x.2 Y (e_pay n E0 (nI b) (nI v)).2.2 x.1} => (some (.int (dval (e_pay n E0 (nI b) (nI v)))), WD ad cs n E x.1.1 o)) := by
  refine EX.of RL hl (by decide +kernel) rfl (Nat.le_of_ble_eq_true rfl) ?_
  intro p e s m args below meth c A hc ho
  have G := H.1
  have n12 := G.n12
  obtain ⟨l, hl9, el⟩ := H.lv hb
  have pe := pay_eq H hb v1 v9
  rw [el] at pe
  have hle := H.le hb
  refine j_aload_n hc dL_pays_0 rfl ?_
  refine j_iload hc dL_pays_1 rfl ?_
  refine xl_5 hc (i := b) (by omega) (v := (S 5 b)) (rfl) dL_pays_3 ?_
  refine j_iconst hc (v := nI 1) dL_pays_4 (by decide) ?_
  refine j_icmp_eq hc 29 dL_pays_5 (by decide) (fun h5 => ?_) (fun h5 => ?_)
  · -- taken
    refine j_bipush hc (v := -13) dL_pays_29 (by decide) ?_
    have ev0 : dval (e_pay n E0 (nI b) (nI v)) = -13 := by rw [pe, if_pos h5]; rfl
    exact j_xiret hc (⟨(S, N), by dsimp only; omega, by rw [pe, if_pos h5]; exact H⟩ : {x : MS × Nat // x.2 ≤ N + 1 ∧ Rel h n x.2 Y (e_pay n E0 (nI b) (nI v)).2.2 x.1}) rfl (by decide) (by decide) rfl (congrArg (fun z => (some (Value.int z), WD ad cs n E S o)) ev0) dL_pays_31
  · -- not taken
    refine j_aload_n hc dL_pays_8 rfl ?_
    refine j_iload hc dL_pays_9 rfl ?_
    refine xl_5 hc (i := b) (by omega) (v := (S 5 b)) (rfl) dL_pays_11 ?_
    refine j_bipush hc (v := nI 6) dL_pays_12 (by decide) ?_
    refine j_icmp_eq hc 29 dL_pays_14 (by decide) (fun h14 => ?_) (fun h14 => ?_)
    · -- taken
      refine j_bipush hc (v := -13) dL_pays_29 (by decide) ?_
      have ev0 : dval (e_pay n E0 (nI b) (nI v)) = -13 := by rw [pe, if_neg h5, if_pos h14]; rfl
      exact j_xiret hc (⟨(S, N), by dsimp only; omega, by rw [pe, if_neg h5, if_pos h14]; exact H⟩ : {x : MS × Nat // x.2 ≤ N + 1 ∧ Rel h n x.2 Y (e_pay n E0 (nI b) (nI v)).2.2 x.1}) rfl (by decide) (by decide) rfl (congrArg (fun z => (some (Value.int z), WD ad cs n E S o)) ev0) dL_pays_31
    · -- not taken
      refine j_iload hc dL_pays_17 rfl ?_
      refine j_aload_n hc dL_pays_19 rfl ?_
      refine j_bipush hc (v := nI 24) dL_pays_20 (by decide) ?_
      refine j_iload hc dL_pays_22 rfl ?_
      refine j_iaddE hc (z := nI (24 + b)) (nI_add _ _) dL_pays_24 ?_
      refine xl_4 hc (i := (24 + b)) (by omega) (v := (nI l)) (el) dL_pays_25 ?_
      refine j_icmp_le hc 32 dL_pays_26 (by decide) (fun h26 => ?_) (fun h26 => ?_)
      · -- taken
        have hvl : v ≤ l := (nI_leI (by omega) (by omega)).mp h26
        refine j_aload_n hc dL_pays_32 rfl ?_
        refine j_bipush hc (v := nI 7) dL_pays_33 (by decide) ?_
        refine j_dup2 hc dL_pays_35 rfl rfl ?_
        refine xl_0 hc (i := 7) (by omega) (v := (S 0 7)) (rfl) dL_pays_36 ?_
        refine j_aload_n hc dL_pays_37 rfl ?_
        refine j_iload hc dL_pays_38 rfl ?_
        refine xl_5 hc (i := b) (by omega) (v := (S 5 b)) (rfl) dL_pays_40 ?_
        refine j_iconst hc (v := nI 5) dL_pays_41 (by decide) ?_
        refine j_icmp_ne hc 50 dL_pays_42 (by decide) (fun h42 => ?_) (fun h42 => ?_)
        · -- taken
          refine j_iconst hc (v := nI 0) dL_pays_50 (by decide) ?_
          refine j_iadd hc dL_pays_51 ?_
          refine xs_0 hc (i := 7) (by omega) dL_pays_52 ?_
          refine j_aload_n hc dL_pays_53 rfl ?_
          refine j_iconst hc (v := nI 5) dL_pays_54 (by decide) ?_
          refine j_dup2 hc dL_pays_55 rfl rfl ?_
          refine xl_0 hc (i := 5) (by omega) (v := (S 0 5)) (Eq.trans (mA_c (by omega)) (rfl)) dL_pays_56 ?_
          refine j_iload hc dL_pays_57 rfl ?_
          refine j_iadd hc dL_pays_59 ?_
          refine xs_0 hc (i := 5) (by omega) dL_pays_60 ?_
          refine j_aload_n hc dL_pays_61 rfl ?_
          refine j_bipush hc (v := nI 24) dL_pays_62 (by decide) ?_
          refine j_iload hc dL_pays_64 rfl ?_
          refine j_iaddE hc (z := nI (24 + b)) (nI_add _ _) dL_pays_66 ?_
          refine j_dup2 hc dL_pays_67 rfl rfl ?_
          refine xl_4 hc (i := (24 + b)) (by omega) (v := (nI l)) (Eq.trans (mA_ro (by decide)) (Eq.trans (mA_ro (by decide)) (el))) dL_pays_68 ?_
          refine j_iload hc dL_pays_69 rfl ?_
          refine j_isubE hc (z := nI (l - v)) (pk_sub (by omega)) dL_pays_71 ?_
          refine xs_4 hc (i := (24 + b)) (by omega) dL_pays_72 ?_
          refine j_aload_n hc dL_pays_73 rfl ?_
          refine j_bipush hc (v := nI 24) dL_pays_74 (by decide) ?_
          refine j_iload hc dL_pays_76 rfl ?_
          refine j_iaddE hc (z := nI (24 + b)) (nI_add _ _) dL_pays_78 ?_
          refine xl_4 hc (i := (24 + b)) (by omega) (v := (nI (l - v))) (mA_s) dL_pays_79 ?_
          refine j_if_ne hc 93 dL_pays_80 (by decide) (fun h80 => ?_) (fun h80 => ?_)
          · -- taken
            refine j_aload_n hc dL_pays_93 rfl ?_
            refine j_bipush hc (v := nI 24) dL_pays_94 (by decide) ?_
            refine j_iload hc dL_pays_96 rfl ?_
            refine j_iaddE hc (z := nI (24 + b)) (nI_add _ _) dL_pays_98 ?_
            refine xl_4 hc (i := (24 + b)) (by omega) (v := (nI (l - v))) (mA_s) dL_pays_99 ?_
            obtain ⟨S9, hS9⟩ : ∃ S9, S9 = (mA (mA (mA S 0 7 ((S 0 7) + (nI 0))) 0 5 ((S 0 5) + (nI v))) 4 (24 + b) (nI (l - v))) := ⟨_, rfl⟩
            have T := sim_take H hb hY hN el hl9 hvl (S1 := S9) (fun j j5 j7 => by rw [hS9]; exact (mA_ro (by decide)).trans ((mA_c j5).trans (mA_c j7))) (by rw [hS9]; exact (mA_ro (by decide)).trans mA_s) (by rw [hS9, if_neg h42]; exact (mA_ro (by decide)).trans ((mA_c (by decide)).trans (mA_s.trans (Int32.add_zero _)))) (by rw [hS9]; rfl) (fun a a0 a4 => by rw [hS9]; exact (mA_r a4).trans ((mA_r a0).trans (mA_r a0)))
            have hz : ¬ l - v = 0 := fun z => h80 (by rw [z]; rfl)
            have R := T.2 hz
            have ev : (e_take E0 b (nI v)).2.1 3 b = nI (l - v) := (R.le hb).trans (by rw [hS9]; exact mA_s)
            subst hS9
            have ev0 : dval (e_pay n E0 (nI b) (nI v)) = nI (l - v) := by rw [pe, if_neg h5, if_neg h14, if_pos h26, dval_n rfl, ev]
            exact j_xiret hc (⟨((mA (mA (mA S 0 7 ((S 0 7) + (nI 0))) 0 5 ((S 0 5) + (nI v))) 4 (24 + b) (nI (l - v))), N), by dsimp only; omega, by rw [pe, if_neg h5, if_neg h14, if_pos h26]; exact R⟩ : {x : MS × Nat // x.2 ≤ N + 1 ∧ Rel h n x.2 Y (e_pay n E0 (nI b) (nI v)).2.2 x.1}) rfl (by decide) (by decide) rfl (congrArg (fun z => (some (Value.int z), WD ad cs n E (mA (mA (mA S 0 7 ((S 0 7) + (nI 0))) 0 5 ((S 0 5) + (nI v))) 4 (24 + b) (nI (l - v))) o)) ev0) dL_pays_100
          · -- not taken
            refine j_aload_n hc dL_pays_83 rfl ?_
            refine j_aload_n hc dL_pays_84 rfl ?_
            refine j_aload_n hc dL_pays_85 rfl ?_
            refine j_iload hc dL_pays_86 rfl ?_
            refine j_bipush hc (v := nI 6) dL_pays_88 (by decide) ?_
            refine j_callS' hc (c_L_enters hl (S := (mA (mA (mA S 0 7 ((S 0 7) + (nI 0))) 0 5 ((S 0 5) + (nI v))) 4 (24 + b) (nI (l - v)))) (Y := Y) (N := N) (b := b) (σ := 6) (by omega) G.d0 G.t8 (by omega)) sc_L_17 rfl ⟨rfl, rfl, by decide, by decide⟩ rfl (Nat.le_of_ble_eq_true rfl) ⟨by decide, by decide⟩ dL_pays_90 (fun _ h9 => by cases h9) (fun _ => ?_)
            refine j_aload_n hc dL_pays_93 rfl ?_
            refine j_bipush hc (v := nI 24) dL_pays_94 (by decide) ?_
            refine j_iload hc dL_pays_96 rfl ?_
            refine j_iaddE hc (z := nI (24 + b)) (nI_add _ _) dL_pays_98 ?_
            refine xl_4 hc (i := (24 + b)) (by omega) (v := (nI (l - v))) (Eq.trans (mA_ro (by decide)) (Eq.trans (mA_ro (by decide)) (Eq.trans (mA_ro (by decide)) (mA_s)))) dL_pays_99 ?_
            obtain ⟨S9, hS9⟩ : ∃ S9, S9 = (mA (mA (mA S 0 7 ((S 0 7) + (nI 0))) 0 5 ((S 0 5) + (nI v))) 4 (24 + b) (nI (l - v))) := ⟨_, rfl⟩
            have T := sim_take H hb hY hN el hl9 hvl (S1 := S9) (fun j j5 j7 => by rw [hS9]; exact (mA_ro (by decide)).trans ((mA_c j5).trans (mA_c j7))) (by rw [hS9]; exact (mA_ro (by decide)).trans mA_s) (by rw [hS9, if_neg h42]; exact (mA_ro (by decide)).trans ((mA_c (by decide)).trans (mA_s.trans (Int32.add_zero _)))) (by rw [hS9]; rfl) (fun a a0 a4 => by rw [hS9]; exact (mA_r a4).trans ((mA_r a0).trans (mA_r a0)))
            have hz : l - v = 0 := (nI_eq (b := 0) (by omega) (by decide)).mp h80
            have R := T.1 hz
            have ev : (e_take E0 b (nI v)).2.1 3 b = nI (l - v) := (R.le hb).trans (by rw [hS9]; exact (mA_ro (by decide)).trans ((mA_ro (by decide)).trans ((mA_ro (by decide)).trans mA_s)))
            subst hS9
            have ev0 : dval (e_pay n E0 (nI b) (nI v)) = nI (l - v) := by rw [pe, if_neg h5, if_neg h14, if_pos h26, dval_n rfl, ev]
            exact j_xiret hc (⟨((mA (mA (mA (mA (mA (mA S 0 7 ((S 0 7) + (nI 0))) 0 5 ((S 0 5) + (nI v))) 4 (24 + b) (nI (l - v))) 5 b (nI 6)) 8 (N % 60) (nI (((Y * 100) + b) * 10 + 6))) 0 8 (nI (N + 1))), N + 1), by dsimp only; omega, by rw [pe, if_neg h5, if_neg h14, if_pos h26]; exact R⟩ : {x : MS × Nat // x.2 ≤ N + 1 ∧ Rel h n x.2 Y (e_pay n E0 (nI b) (nI v)).2.2 x.1}) rfl (by decide) (by decide) rfl (congrArg (fun z => (some (Value.int z), WD ad cs n E (mA (mA (mA (mA (mA (mA S 0 7 ((S 0 7) + (nI 0))) 0 5 ((S 0 5) + (nI v))) 4 (24 + b) (nI (l - v))) 5 b (nI 6)) 8 (N % 60) (nI (((Y * 100) + b) * 10 + 6))) 0 8 (nI (N + 1))) o)) ev0) dL_pays_100
        · -- not taken
          refine j_iload hc dL_pays_45 rfl ?_
          refine j_goto hc 51 dL_pays_47 (by decide) ?_
          refine j_iadd hc dL_pays_51 ?_
          refine xs_0 hc (i := 7) (by omega) dL_pays_52 ?_
          refine j_aload_n hc dL_pays_53 rfl ?_
          refine j_iconst hc (v := nI 5) dL_pays_54 (by decide) ?_
          refine j_dup2 hc dL_pays_55 rfl rfl ?_
          refine xl_0 hc (i := 5) (by omega) (v := (S 0 5)) (Eq.trans (mA_c (by omega)) (rfl)) dL_pays_56 ?_
          refine j_iload hc dL_pays_57 rfl ?_
          refine j_iadd hc dL_pays_59 ?_
          refine xs_0 hc (i := 5) (by omega) dL_pays_60 ?_
          refine j_aload_n hc dL_pays_61 rfl ?_
          refine j_bipush hc (v := nI 24) dL_pays_62 (by decide) ?_
          refine j_iload hc dL_pays_64 rfl ?_
          refine j_iaddE hc (z := nI (24 + b)) (nI_add _ _) dL_pays_66 ?_
          refine j_dup2 hc dL_pays_67 rfl rfl ?_
          refine xl_4 hc (i := (24 + b)) (by omega) (v := (nI l)) (Eq.trans (mA_ro (by decide)) (Eq.trans (mA_ro (by decide)) (el))) dL_pays_68 ?_
          refine j_iload hc dL_pays_69 rfl ?_
          refine j_isubE hc (z := nI (l - v)) (pk_sub (by omega)) dL_pays_71 ?_
          refine xs_4 hc (i := (24 + b)) (by omega) dL_pays_72 ?_
          refine j_aload_n hc dL_pays_73 rfl ?_
          refine j_bipush hc (v := nI 24) dL_pays_74 (by decide) ?_
          refine j_iload hc dL_pays_76 rfl ?_
          refine j_iaddE hc (z := nI (24 + b)) (nI_add _ _) dL_pays_78 ?_
          refine xl_4 hc (i := (24 + b)) (by omega) (v := (nI (l - v))) (mA_s) dL_pays_79 ?_
          refine j_if_ne hc 93 dL_pays_80 (by decide) (fun h80 => ?_) (fun h80 => ?_)
          · -- taken
            refine j_aload_n hc dL_pays_93 rfl ?_
            refine j_bipush hc (v := nI 24) dL_pays_94 (by decide) ?_
            refine j_iload hc dL_pays_96 rfl ?_
            refine j_iaddE hc (z := nI (24 + b)) (nI_add _ _) dL_pays_98 ?_
            refine xl_4 hc (i := (24 + b)) (by omega) (v := (nI (l - v))) (mA_s) dL_pays_99 ?_
            obtain ⟨S9, hS9⟩ : ∃ S9, S9 = (mA (mA (mA S 0 7 ((S 0 7) + (nI v))) 0 5 ((S 0 5) + (nI v))) 4 (24 + b) (nI (l - v))) := ⟨_, rfl⟩
            have T := sim_take H hb hY hN el hl9 hvl (S1 := S9) (fun j j5 j7 => by rw [hS9]; exact (mA_ro (by decide)).trans ((mA_c j5).trans (mA_c j7))) (by rw [hS9]; exact (mA_ro (by decide)).trans mA_s) (by rw [hS9, if_pos h42]; exact (mA_ro (by decide)).trans ((mA_c (by decide)).trans mA_s)) (by rw [hS9]; rfl) (fun a a0 a4 => by rw [hS9]; exact (mA_r a4).trans ((mA_r a0).trans (mA_r a0)))
            have hz : ¬ l - v = 0 := fun z => h80 (by rw [z]; rfl)
            have R := T.2 hz
            have ev : (e_take E0 b (nI v)).2.1 3 b = nI (l - v) := (R.le hb).trans (by rw [hS9]; exact mA_s)
            subst hS9
            have ev0 : dval (e_pay n E0 (nI b) (nI v)) = nI (l - v) := by rw [pe, if_neg h5, if_neg h14, if_pos h26, dval_n rfl, ev]
            exact j_xiret hc (⟨((mA (mA (mA S 0 7 ((S 0 7) + (nI v))) 0 5 ((S 0 5) + (nI v))) 4 (24 + b) (nI (l - v))), N), by dsimp only; omega, by rw [pe, if_neg h5, if_neg h14, if_pos h26]; exact R⟩ : {x : MS × Nat // x.2 ≤ N + 1 ∧ Rel h n x.2 Y (e_pay n E0 (nI b) (nI v)).2.2 x.1}) rfl (by decide) (by decide) rfl (congrArg (fun z => (some (Value.int z), WD ad cs n E (mA (mA (mA S 0 7 ((S 0 7) + (nI v))) 0 5 ((S 0 5) + (nI v))) 4 (24 + b) (nI (l - v))) o)) ev0) dL_pays_100
          · -- not taken
            refine j_aload_n hc dL_pays_83 rfl ?_
            refine j_aload_n hc dL_pays_84 rfl ?_
            refine j_aload_n hc dL_pays_85 rfl ?_
            refine j_iload hc dL_pays_86 rfl ?_
            refine j_bipush hc (v := nI 6) dL_pays_88 (by decide) ?_
            refine j_callS' hc (c_L_enters hl (S := (mA (mA (mA S 0 7 ((S 0 7) + (nI v))) 0 5 ((S 0 5) + (nI v))) 4 (24 + b) (nI (l - v)))) (Y := Y) (N := N) (b := b) (σ := 6) (by omega) G.d0 G.t8 (by omega)) sc_L_17 rfl ⟨rfl, rfl, by decide, by decide⟩ rfl (Nat.le_of_ble_eq_true rfl) ⟨by decide, by decide⟩ dL_pays_90 (fun _ h9 => by cases h9) (fun _ => ?_)
            refine j_aload_n hc dL_pays_93 rfl ?_
            refine j_bipush hc (v := nI 24) dL_pays_94 (by decide) ?_
            refine j_iload hc dL_pays_96 rfl ?_
            refine j_iaddE hc (z := nI (24 + b)) (nI_add _ _) dL_pays_98 ?_
            refine xl_4 hc (i := (24 + b)) (by omega) (v := (nI (l - v))) (Eq.trans (mA_ro (by decide)) (Eq.trans (mA_ro (by decide)) (Eq.trans (mA_ro (by decide)) (mA_s)))) dL_pays_99 ?_
            obtain ⟨S9, hS9⟩ : ∃ S9, S9 = (mA (mA (mA S 0 7 ((S 0 7) + (nI v))) 0 5 ((S 0 5) + (nI v))) 4 (24 + b) (nI (l - v))) := ⟨_, rfl⟩
            have T := sim_take H hb hY hN el hl9 hvl (S1 := S9) (fun j j5 j7 => by rw [hS9]; exact (mA_ro (by decide)).trans ((mA_c j5).trans (mA_c j7))) (by rw [hS9]; exact (mA_ro (by decide)).trans mA_s) (by rw [hS9, if_pos h42]; exact (mA_ro (by decide)).trans ((mA_c (by decide)).trans mA_s)) (by rw [hS9]; rfl) (fun a a0 a4 => by rw [hS9]; exact (mA_r a4).trans ((mA_r a0).trans (mA_r a0)))
            have hz : l - v = 0 := (nI_eq (b := 0) (by omega) (by decide)).mp h80
            have R := T.1 hz
            have ev : (e_take E0 b (nI v)).2.1 3 b = nI (l - v) := (R.le hb).trans (by rw [hS9]; exact (mA_ro (by decide)).trans ((mA_ro (by decide)).trans ((mA_ro (by decide)).trans mA_s)))
            subst hS9
            have ev0 : dval (e_pay n E0 (nI b) (nI v)) = nI (l - v) := by rw [pe, if_neg h5, if_neg h14, if_pos h26, dval_n rfl, ev]
            exact j_xiret hc (⟨((mA (mA (mA (mA (mA (mA S 0 7 ((S 0 7) + (nI v))) 0 5 ((S 0 5) + (nI v))) 4 (24 + b) (nI (l - v))) 5 b (nI 6)) 8 (N % 60) (nI (((Y * 100) + b) * 10 + 6))) 0 8 (nI (N + 1))), N + 1), by dsimp only; omega, by rw [pe, if_neg h5, if_neg h14, if_pos h26]; exact R⟩ : {x : MS × Nat // x.2 ≤ N + 1 ∧ Rel h n x.2 Y (e_pay n E0 (nI b) (nI v)).2.2 x.1}) rfl (by decide) (by decide) rfl (congrArg (fun z => (some (Value.int z), WD ad cs n E (mA (mA (mA (mA (mA (mA S 0 7 ((S 0 7) + (nI v))) 0 5 ((S 0 5) + (nI v))) 4 (24 + b) (nI (l - v))) 5 b (nI 6)) 8 (N % 60) (nI (((Y * 100) + b) * 10 + 6))) 0 8 (nI (N + 1))) o)) ev0) dL_pays_100
      · -- not taken
        refine j_bipush hc (v := -13) dL_pays_29 (by decide) ?_
        have ev0 : dval (e_pay n E0 (nI b) (nI v)) = -13 := by rw [pe, if_neg h5, if_neg h14, if_neg h26]; rfl
        exact j_xiret hc (⟨(S, N), by dsimp only; omega, by rw [pe, if_neg h5, if_neg h14, if_neg h26]; exact H⟩ : {x : MS × Nat // x.2 ≤ N + 1 ∧ Rel h n x.2 Y (e_pay n E0 (nI b) (nI v)).2.2 x.1}) rfl (by decide) (by decide) rfl (congrArg (fun z => (some (Value.int z), WD ad cs n E S o)) ev0) dL_pays_31
set_option maxRecDepth 100000 in
set_option maxHeartbeats 4000000 in
theorem c_L_does_0 {l : Launch} {D : va_G} {cs : Nat → ClassId} {sa : Nat → Nat} (hl : l.stackTraces = false)  {ad : Nat → Nat} {n : Nat} {E : ES} {S : MS} {o : Nat → Int64} {x y : Int32} (hn30 : n ≤ 30) (ht : (e_outcome n E x y).1 = none ∨ e_outcome n E x y = (some xIS, 0, E)) : CH l D cs sa yL_does cL_does 5 (Option.some Jvm.ClassFile.FieldType.int) [((0 : Nat), (70 : Nat), (71 : Nat), (44 : Nat))] (RM 8 8 64) 8 64 [.ref (ad 0), .int (nI 0), .int x, .int y] (WD ad cs n E S o) (none, some (.int (dval (e_outcome n E x y))), WD ad cs n (e_outcome n E x y).2.2 S o) := by
  refine CH.of RL hl (by decide +kernel) rfl (Nat.le_of_ble_eq_true rfl) ?_
  intro p e s m args below meth c A hc ho
  refine j_iload_n hc dL_does_0 rfl ?_
  refine j_if_ne hc 13 dL_does_1 (by decide) (fun h1 => by exact absurd (show ¬ (nI 0) = (0 : Int32) from h1) (by decide)) (fun h1 => ?_)
  refine j_aload_n hc dL_does_4 rfl ?_
  refine j_iload_n hc dL_does_5 rfl ?_
  refine j_iload_n hc dL_does_6 rfl ?_
  refine j_callV' hc (c_X4_outcome hl hn30) vc_L_25 rfl ⟨rfl, rfl, by decide, by decide⟩ 0 rfl rfl rfl (Nat.le_of_ble_eq_true rfl) ⟨by decide, by decide⟩ dL_does_7 ?_ (fun hn => ?_)
  · intro E9 h9
    rcases ht with ht | ht
    · exact absurd (ht.symm.trans h9) (by simp)
    · have e9 : xIS = E9 := Option.some.inj ((congrArg (fun z : ER => z.1) ht).symm.trans h9)
      subst e9
      refine j_catch hc [] (⟨0, 70, 71, 44⟩ : ExceptionTableEntry) [] (ho.trans rfl) (fun z hz => by cases hz) (by decide) (by decide) wt_366 (by decide) rfl (fun q9 => ?_)
      refine j_astore hc dL_does_71 rfl ?_
      refine j_bipush hc (v := -13) dL_does_73 (by decide) ?_
      exact j_iret hc rfl (by decide) (by decide) (by rw [ht]; rfl) dL_does_75
  have hn : (e_outcome n E x y).1 = none := hn
  have hd : dval (e_outcome n E x y) = (e_outcome n E x y).2.1 := by unfold dval; rw [hn]
  rw [hd]
  refine j_goto hc 70 dL_does_10 (by decide) ?_
  exact j_iret hc rfl (by decide) (by decide) rfl dL_does_70
set_option maxRecDepth 100000 in
set_option maxHeartbeats 4000000 in
theorem c_L_does_1 {l : Launch} {D : va_G} {cs : Nat → ClassId} {sa : Nat → Nat} (hl : l.stackTraces = false)  {ad : Nat → Nat} {n : Nat} {E : ES} {S : MS} {o : Nat → Int64} {x y : Int32} (hn30 : n ≤ 30) (ht : (e_pay n E x y).1 = none ∨ e_pay n E x y = (some xIS, 0, E)) : CH l D cs sa yL_does cL_does 5 (Option.some Jvm.ClassFile.FieldType.int) [((0 : Nat), (70 : Nat), (71 : Nat), (44 : Nat))] (RM 8 8 64) 8 64 [.ref (ad 0), .int (nI 1), .int x, .int y] (WD ad cs n E S o) (none, some (.int (dval (e_pay n E x y))), WD ad cs n (e_pay n E x y).2.2 S o) := by
  refine CH.of RL hl (by decide +kernel) rfl (Nat.le_of_ble_eq_true rfl) ?_
  intro p e s m args below meth c A hc ho
  refine j_iload_n hc dL_does_0 rfl ?_
  refine j_if_ne hc 13 dL_does_1 (by decide) (fun h1 => ?_) (fun h1 => by exact absurd (show (nI 1) = (0 : Int32) from h1) (by decide))
  refine j_iload_n hc dL_does_13 rfl ?_
  refine j_iconst hc (v := nI 1) dL_does_14 (by decide) ?_
  refine j_icmp_ne hc 27 dL_does_15 (by decide) (fun h15 => by exact absurd (show ¬ (nI 1) = (nI 1) from h15) (by decide)) (fun h15 => ?_)
  refine j_aload_n hc dL_does_18 rfl ?_
  refine j_iload_n hc dL_does_19 rfl ?_
  refine j_iload_n hc dL_does_20 rfl ?_
  refine j_callV' hc (c_X4_pay hl hn30) vc_L_31 rfl ⟨rfl, rfl, by decide, by decide⟩ 0 rfl rfl rfl (Nat.le_of_ble_eq_true rfl) ⟨by decide, by decide⟩ dL_does_21 ?_ (fun hn => ?_)
  · intro E9 h9
    rcases ht with ht | ht
    · exact absurd (ht.symm.trans h9) (by simp)
    · have e9 : xIS = E9 := Option.some.inj ((congrArg (fun z : ER => z.1) ht).symm.trans h9)
      subst e9
      refine j_catch hc [] (⟨0, 70, 71, 44⟩ : ExceptionTableEntry) [] (ho.trans rfl) (fun z hz => by cases hz) (by decide) (by decide) wt_366 (by decide) rfl (fun q9 => ?_)
      refine j_astore hc dL_does_71 rfl ?_
      refine j_bipush hc (v := -13) dL_does_73 (by decide) ?_
      exact j_iret hc rfl (by decide) (by decide) (by rw [ht]; rfl) dL_does_75
  have hn : (e_pay n E x y).1 = none := hn
  have hd : dval (e_pay n E x y) = (e_pay n E x y).2.1 := by unfold dval; rw [hn]
  rw [hd]
  refine j_goto hc 70 dL_does_24 (by decide) ?_
  exact j_iret hc rfl (by decide) (by decide) rfl dL_does_70
set_option maxRecDepth 100000 in
set_option maxHeartbeats 4000000 in
theorem c_L_does_2 {l : Launch} {D : va_G} {cs : Nat → ClassId} {sa : Nat → Nat} (hl : l.stackTraces = false)  {ad : Nat → Nat} {n : Nat} {E : ES} {S : MS} {o : Nat → Int64} {x y : Int32} (hn30 : n ≤ 30) (ht : (e_promise n E x y).1 = none ∨ e_promise n E x y = (some xIS, 0, E)) : CH l D cs sa yL_does cL_does 5 (Option.some Jvm.ClassFile.FieldType.int) [((0 : Nat), (70 : Nat), (71 : Nat), (44 : Nat))] (RM 8 8 64) 8 64 [.ref (ad 0), .int (nI 2), .int x, .int y] (WD ad cs n E S o) (none, some (.int (dval (e_promise n E x y))), WD ad cs n (e_promise n E x y).2.2 S o) := by
  refine CH.of RL hl (by decide +kernel) rfl (Nat.le_of_ble_eq_true rfl) ?_
  intro p e s m args below meth c A hc ho
  refine j_iload_n hc dL_does_0 rfl ?_
  refine j_if_ne hc 13 dL_does_1 (by decide) (fun h1 => ?_) (fun h1 => by exact absurd (show (nI 2) = (0 : Int32) from h1) (by decide))
  refine j_iload_n hc dL_does_13 rfl ?_
  refine j_iconst hc (v := nI 1) dL_does_14 (by decide) ?_
  refine j_icmp_ne hc 27 dL_does_15 (by decide) (fun h15 => ?_) (fun h15 => by exact absurd (show (nI 2) = (nI 1) from h15) (by decide))
  refine j_iload_n hc dL_does_27 rfl ?_
  refine j_iconst hc (v := nI 2) dL_does_28 (by decide) ?_
  refine j_icmp_ne hc 41 dL_does_29 (by decide) (fun h29 => by exact absurd (show ¬ (nI 2) = (nI 2) from h29) (by decide)) (fun h29 => ?_)
  refine j_aload_n hc dL_does_32 rfl ?_
  refine j_iload_n hc dL_does_33 rfl ?_
  refine j_iload_n hc dL_does_34 rfl ?_
  refine j_callV' hc (c_X4_promise hl hn30) vc_L_34 rfl ⟨rfl, rfl, by decide, by decide⟩ 0 rfl rfl rfl (Nat.le_of_ble_eq_true rfl) ⟨by decide, by decide⟩ dL_does_35 ?_ (fun hn => ?_)
  · intro E9 h9
    rcases ht with ht | ht
    · exact absurd (ht.symm.trans h9) (by simp)
    · have e9 : xIS = E9 := Option.some.inj ((congrArg (fun z : ER => z.1) ht).symm.trans h9)
      subst e9
      refine j_catch hc [] (⟨0, 70, 71, 44⟩ : ExceptionTableEntry) [] (ho.trans rfl) (fun z hz => by cases hz) (by decide) (by decide) wt_366 (by decide) rfl (fun q9 => ?_)
      refine j_astore hc dL_does_71 rfl ?_
      refine j_bipush hc (v := -13) dL_does_73 (by decide) ?_
      exact j_iret hc rfl (by decide) (by decide) (by rw [ht]; rfl) dL_does_75
  have hn : (e_promise n E x y).1 = none := hn
  have hd : dval (e_promise n E x y) = (e_promise n E x y).2.1 := by unfold dval; rw [hn]
  rw [hd]
  refine j_goto hc 70 dL_does_38 (by decide) ?_
  exact j_iret hc rfl (by decide) (by decide) rfl dL_does_70
set_option maxRecDepth 100000 in
set_option maxHeartbeats 4000000 in
theorem c_L_does_3 {l : Launch} {D : va_G} {cs : Nat → ClassId} {sa : Nat → Nat} (hl : l.stackTraces = false)  {ad : Nat → Nat} {n : Nat} {E : ES} {S : MS} {o : Nat → Int64} {x y : Int32} (ht : (e_addGap E x y).1 = none ∨ e_addGap E x y = (some xIS, 0, E)) : CH l D cs sa yL_does cL_does 5 (Option.some Jvm.ClassFile.FieldType.int) [((0 : Nat), (70 : Nat), (71 : Nat), (44 : Nat))] (RM 8 8 64) 8 64 [.ref (ad 0), .int (nI 3), .int x, .int y] (WD ad cs n E S o) (none, some (.int (dval (e_addGap E x y))), WD ad cs n (e_addGap E x y).2.2 S o) := by
  refine CH.of RL hl (by decide +kernel) rfl (Nat.le_of_ble_eq_true rfl) ?_
  intro p e s m args below meth c A hc ho
  refine j_iload_n hc dL_does_0 rfl ?_
  refine j_if_ne hc 13 dL_does_1 (by decide) (fun h1 => ?_) (fun h1 => by exact absurd (show (nI 3) = (0 : Int32) from h1) (by decide))
  refine j_iload_n hc dL_does_13 rfl ?_
  refine j_iconst hc (v := nI 1) dL_does_14 (by decide) ?_
  refine j_icmp_ne hc 27 dL_does_15 (by decide) (fun h15 => ?_) (fun h15 => by exact absurd (show (nI 3) = (nI 1) from h15) (by decide))
  refine j_iload_n hc dL_does_27 rfl ?_
  refine j_iconst hc (v := nI 2) dL_does_28 (by decide) ?_
  refine j_icmp_ne hc 41 dL_does_29 (by decide) (fun h29 => ?_) (fun h29 => by exact absurd (show (nI 3) = (nI 2) from h29) (by decide))
  refine j_iload_n hc dL_does_41 rfl ?_
  refine j_iconst hc (v := nI 3) dL_does_42 (by decide) ?_
  refine j_icmp_ne hc 55 dL_does_43 (by decide) (fun h43 => by exact absurd (show ¬ (nI 3) = (nI 3) from h43) (by decide)) (fun h43 => ?_)
  refine j_aload_n hc dL_does_46 rfl ?_
  refine j_iload_n hc dL_does_47 rfl ?_
  refine j_iload_n hc dL_does_48 rfl ?_
  refine j_callV' hc (c_X4_addGap hl) vc_L_37 rfl ⟨rfl, rfl, by decide, by decide⟩ 0 rfl rfl rfl (Nat.le_of_ble_eq_true rfl) ⟨by decide, by decide⟩ dL_does_49 ?_ (fun hn => ?_)
  · intro E9 h9
    rcases ht with ht | ht
    · exact absurd (ht.symm.trans h9) (by simp)
    · have e9 : xIS = E9 := Option.some.inj ((congrArg (fun z : ER => z.1) ht).symm.trans h9)
      subst e9
      refine j_catch hc [] (⟨0, 70, 71, 44⟩ : ExceptionTableEntry) [] (ho.trans rfl) (fun z hz => by cases hz) (by decide) (by decide) wt_366 (by decide) rfl (fun q9 => ?_)
      refine j_astore hc dL_does_71 rfl ?_
      refine j_bipush hc (v := -13) dL_does_73 (by decide) ?_
      exact j_iret hc rfl (by decide) (by decide) (by rw [ht]; rfl) dL_does_75
  have hn : (e_addGap E x y).1 = none := hn
  have hd : dval (e_addGap E x y) = (e_addGap E x y).2.1 := by unfold dval; rw [hn]
  rw [hd]
  refine j_goto hc 70 dL_does_52 (by decide) ?_
  exact j_iret hc rfl (by decide) (by decide) rfl dL_does_70
set_option maxRecDepth 100000 in
set_option maxHeartbeats 4000000 in
theorem c_L_does_4 {l : Launch} {D : va_G} {cs : Nat → ClassId} {sa : Nat → Nat} (hl : l.stackTraces = false)  {ad : Nat → Nat} {n : Nat} {E : ES} {S : MS} {o : Nat → Int64} {x : Int32} (ht : (e_setWeekday E x (nI 0)).1 = none ∨ e_setWeekday E x (nI 0) = (some xIS, 0, E)) : CH l D cs sa yL_does cL_does 5 (Option.some Jvm.ClassFile.FieldType.int) [((0 : Nat), (70 : Nat), (71 : Nat), (44 : Nat))] (RM 8 8 64) 8 64 [.ref (ad 0), .int (nI 4), .int x, .int (nI 0)] (WD ad cs n E S o) (none, some (.int (dval (e_setWeekday E x (nI 0)))), WD ad cs n (e_setWeekday E x (nI 0)).2.2 S o) := by
  refine CH.of RL hl (by decide +kernel) rfl (Nat.le_of_ble_eq_true rfl) ?_
  intro p e s m args below meth c A hc ho
  refine j_iload_n hc dL_does_0 rfl ?_
  refine j_if_ne hc 13 dL_does_1 (by decide) (fun h1 => ?_) (fun h1 => by exact absurd (show (nI 4) = (0 : Int32) from h1) (by decide))
  refine j_iload_n hc dL_does_13 rfl ?_
  refine j_iconst hc (v := nI 1) dL_does_14 (by decide) ?_
  refine j_icmp_ne hc 27 dL_does_15 (by decide) (fun h15 => ?_) (fun h15 => by exact absurd (show (nI 4) = (nI 1) from h15) (by decide))
  refine j_iload_n hc dL_does_27 rfl ?_
  refine j_iconst hc (v := nI 2) dL_does_28 (by decide) ?_
  refine j_icmp_ne hc 41 dL_does_29 (by decide) (fun h29 => ?_) (fun h29 => by exact absurd (show (nI 4) = (nI 2) from h29) (by decide))
  refine j_iload_n hc dL_does_41 rfl ?_
  refine j_iconst hc (v := nI 3) dL_does_42 (by decide) ?_
  refine j_icmp_ne hc 55 dL_does_43 (by decide) (fun h43 => ?_) (fun h43 => by exact absurd (show (nI 4) = (nI 3) from h43) (by decide))
  refine j_aload_n hc dL_does_55 rfl ?_
  refine j_iload_n hc dL_does_56 rfl ?_
  refine j_iload_n hc dL_does_57 rfl ?_
  refine j_iconst hc (v := nI 1) dL_does_58 (by decide) ?_
  refine j_icmp_ne hc 66 dL_does_59 (by decide) (fun h59 => ?_) (fun h59 => by exact absurd (show (nI 0) = (nI 1) from h59) (by decide))
  refine j_iconst hc (v := nI 0) dL_does_66 (by decide) ?_
  refine j_callV' hc (c_X4_setWeekday hl) vc_L_40 rfl ⟨rfl, rfl, by decide, by decide⟩ 0 rfl rfl rfl (Nat.le_of_ble_eq_true rfl) ⟨by decide, by decide⟩ dL_does_67 ?_ (fun hn => ?_)
  · intro E9 h9
    rcases ht with ht | ht
    · exact absurd (ht.symm.trans h9) (by simp)
    · have e9 : xIS = E9 := Option.some.inj ((congrArg (fun z : ER => z.1) ht).symm.trans h9)
      subst e9
      refine j_catch hc [] (⟨0, 70, 71, 44⟩ : ExceptionTableEntry) [] (ho.trans rfl) (fun z hz => by cases hz) (by decide) (by decide) wt_366 (by decide) rfl (fun q9 => ?_)
      refine j_astore hc dL_does_71 rfl ?_
      refine j_bipush hc (v := -13) dL_does_73 (by decide) ?_
      exact j_iret hc rfl (by decide) (by decide) (by rw [ht]; rfl) dL_does_75
  have hn : (e_setWeekday E x (nI 0)).1 = none := hn
  have hd : dval (e_setWeekday E x (nI 0)) = (e_setWeekday E x (nI 0)).2.1 := by unfold dval; rw [hn]
  rw [hd]
  exact j_iret hc rfl (by decide) (by decide) rfl dL_does_70
set_option maxRecDepth 100000 in
set_option maxHeartbeats 4000000 in
theorem c_L_does_5 {l : Launch} {D : va_G} {cs : Nat → ClassId} {sa : Nat → Nat} (hl : l.stackTraces = false)  {ad : Nat → Nat} {n : Nat} {E : ES} {S : MS} {o : Nat → Int64} {x : Int32} (ht : (e_setWeekday E x (nI 1)).1 = none ∨ e_setWeekday E x (nI 1) = (some xIS, 0, E)) : CH l D cs sa yL_does cL_does 5 (Option.some Jvm.ClassFile.FieldType.int) [((0 : Nat), (70 : Nat), (71 : Nat), (44 : Nat))] (RM 8 8 64) 8 64 [.ref (ad 0), .int (nI 4), .int x, .int (nI 1)] (WD ad cs n E S o) (none, some (.int (dval (e_setWeekday E x (nI 1)))), WD ad cs n (e_setWeekday E x (nI 1)).2.2 S o) := by
  refine CH.of RL hl (by decide +kernel) rfl (Nat.le_of_ble_eq_true rfl) ?_
  intro p e s m args below meth c A hc ho
  refine j_iload_n hc dL_does_0 rfl ?_
  refine j_if_ne hc 13 dL_does_1 (by decide) (fun h1 => ?_) (fun h1 => by exact absurd (show (nI 4) = (0 : Int32) from h1) (by decide))
  refine j_iload_n hc dL_does_13 rfl ?_
  refine j_iconst hc (v := nI 1) dL_does_14 (by decide) ?_
  refine j_icmp_ne hc 27 dL_does_15 (by decide) (fun h15 => ?_) (fun h15 => by exact absurd (show (nI 4) = (nI 1) from h15) (by decide))
  refine j_iload_n hc dL_does_27 rfl ?_
  refine j_iconst hc (v := nI 2) dL_does_28 (by decide) ?_
  refine j_icmp_ne hc 41 dL_does_29 (by decide) (fun h29 => ?_) (fun h29 => by exact absurd (show (nI 4) = (nI 2) from h29) (by decide))
  refine j_iload_n hc dL_does_41 rfl ?_
  refine j_iconst hc (v := nI 3) dL_does_42 (by decide) ?_
  refine j_icmp_ne hc 55 dL_does_43 (by decide) (fun h43 => ?_) (fun h43 => by exact absurd (show (nI 4) = (nI 3) from h43) (by decide))
  refine j_aload_n hc dL_does_55 rfl ?_
  refine j_iload_n hc dL_does_56 rfl ?_
  refine j_iload_n hc dL_does_57 rfl ?_
  refine j_iconst hc (v := nI 1) dL_does_58 (by decide) ?_
  refine j_icmp_ne hc 66 dL_does_59 (by decide) (fun h59 => by exact absurd (show ¬ (nI 1) = (nI 1) from h59) (by decide)) (fun h59 => ?_)
  refine j_iconst hc (v := nI 1) dL_does_62 (by decide) ?_
  refine j_goto hc 67 dL_does_63 (by decide) ?_
  refine j_callV' hc (c_X4_setWeekday hl) vc_L_40 rfl ⟨rfl, rfl, by decide, by decide⟩ 0 rfl rfl rfl (Nat.le_of_ble_eq_true rfl) ⟨by decide, by decide⟩ dL_does_67 ?_ (fun hn => ?_)
  · intro E9 h9
    rcases ht with ht | ht
    · exact absurd (ht.symm.trans h9) (by simp)
    · have e9 : xIS = E9 := Option.some.inj ((congrArg (fun z : ER => z.1) ht).symm.trans h9)
      subst e9
      refine j_catch hc [] (⟨0, 70, 71, 44⟩ : ExceptionTableEntry) [] (ho.trans rfl) (fun z hz => by cases hz) (by decide) (by decide) wt_366 (by decide) rfl (fun q9 => ?_)
      refine j_astore hc dL_does_71 rfl ?_
      refine j_bipush hc (v := -13) dL_does_73 (by decide) ?_
      exact j_iret hc rfl (by decide) (by decide) (by rw [ht]; rfl) dL_does_75
  have hn : (e_setWeekday E x (nI 1)).1 = none := hn
  have hd : dval (e_setWeekday E x (nI 1)) = (e_setWeekday E x (nI 1)).2.1 := by unfold dval; rw [hn]
  rw [hd]
  exact j_iret hc rfl (by decide) (by decide) rfl dL_does_70
