set_option maxRecDepth 100000 in
set_option maxHeartbeats 4000000 in
theorem c_X0_init {l : Launch} {D : va_G} {cs : Nat → ClassId} {sa : Nat → Nat} (hl : l.stackTraces = false)  {q : Nat} {k x v : Int32} : EI l D cs sa P2n yX0_init cX0_init 4 (RM 1 1 4) 1 4 [.ref q, .int k, .int x, .int v] [(q, .inr (0, [.int 0, .int 0, .null, .int 0, .int 0, .int 0, .int 0, .int 0, .int 0, .int 0, .int 0]))] (X := Nat) (fun z => [(q, .inr (0, [.int k, .int x, .ref z, .int v, .int 0, .int 0, .int 0, .int 0, .int 0, .int 0, .int 0])), (z, .inl (cs 0, 4, .inl (fun _ => 0)))]) := by
  refine EI.of RX0 hl (by decide +kernel) rfl (Nat.le_of_ble_eq_true rfl) ?_
  intro p e s m args below meth c A hc hmn hp2
  refine j_aload_n hc dX0_init_0 rfl ?_
  refine j_objInit hc wt_327 wt_21 wt_22 dX0_init_1 (by decide) (Nat.le_of_ble_eq_true rfl) ?_
  refine j_aload_n hc dX0_init_4 rfl ?_
  refine j_iload_n hc dX0_init_5 rfl ?_
  refine j_putf hc (w' := [(q, .inr (0, [.int k, .int 0, .null, .int 0, .int 0, .int 0, .int 0, .int 0, .int 0, .int 0, .int 0]))]) (K := RX0) (T := TX0) (N := 11) uw0 tyX0 tyX0_ok nmX0 0 rfl rfl 0 (by decide) wt_328 rfl (Or.inr ⟨rfl, hmn, rfl⟩) (ty := .int) rfl rfl rfl (Nat.le_of_ble_eq_true rfl) rfl dX0_init_6 ?_
  refine j_aload_n hc dX0_init_9 rfl ?_
  refine j_iload_n hc dX0_init_10 rfl ?_
  refine j_putf hc (w' := [(q, .inr (0, [.int k, .int x, .null, .int 0, .int 0, .int 0, .int 0, .int 0, .int 0, .int 0, .int 0]))]) (K := RX0) (T := TX0) (N := 11) uw0 tyX0 tyX0_ok nmX0 0 rfl rfl 1 (by decide) wt_330 rfl (Or.inr ⟨rfl, hmn, rfl⟩) (ty := .int) rfl rfl rfl (Nat.le_of_ble_eq_true rfl) rfl dX0_init_11 ?_
  refine j_aload_n hc dX0_init_14 rfl ?_
  refine j_iload_n hc dX0_init_15 rfl ?_
  refine j_putf hc (w' := [(q, .inr (0, [.int k, .int x, .null, .int v, .int 0, .int 0, .int 0, .int 0, .int 0, .int 0, .int 0]))]) (K := RX0) (T := TX0) (N := 11) uw0 tyX0 tyX0_ok nmX0 0 rfl rfl 3 (by decide) wt_334 rfl (Or.inl rfl) (ty := .int) rfl rfl rfl (Nat.le_of_ble_eq_true rfl) rfl dX0_init_16 ?_
  refine j_aload_n hc dX0_init_19 rfl ?_
  refine j_iconst hc (v := 4) dX0_init_20 (by decide) ?_
  refine j_newaI hc (N := 4) (by decide) rfl (Nat.le_of_ble_eq_true rfl) (Nat.le_of_ble_eq_true rfl) (Nat.le_of_ble_eq_true rfl) dX0_init_21 (fun q21 => ?_)
  refine j_w (w' := [(q, .inr (0, [.int k, .int x, .null, .int v, .int 0, .int 0, .int 0, .int 0, .int 0, .int 0, .int 0])), (q21, .inl (cs 0, 4, .inl (fun _ => 0)))]) rfl ?_
  refine j_putf hc (w' := [(q, .inr (0, [.int k, .int x, .ref q21, .int v, .int 0, .int 0, .int 0, .int 0, .int 0, .int 0, .int 0])), (q21, .inl (cs 0, 4, .inl (fun _ => 0)))]) (K := RX0) (T := TX0) (N := 11) uw0 tyX0 tyX0_ok nmX0 0 rfl rfl 2 (by decide) wt_332 rfl (Or.inr ⟨rfl, hmn, rfl⟩) (ty := (.array .int)) rfl rfl rfl (Nat.le_of_ble_eq_true rfl) rfl dX0_init_23 ?_
  exact j_ivret hc (q21 : Nat) rfl (by decide) (by decide) rfl dX0_init_26
set_option maxRecDepth 100000 in
set_option maxHeartbeats 4000000 in
theorem c_X1_init {l : Launch} {D : va_G} {cs : Nat → ClassId} {sa : Nat → Nat} (hl : l.stackTraces = false)  {q : Nat} : EI l D cs sa P2n yX1_init cX1_init 1 (RM 1 1 485) 1 485 [.ref q] [(q, .inr (1, [.int 0, .null]))] (X := Nat) (fun z => [(q, .inr (1, [.int 31, .ref z])), (z, .inl (cs 1, 485, .inr (.inl (fun _ => 0))))]) := by
  refine EI.of RX1 hl (by decide +kernel) rfl (Nat.le_of_ble_eq_true rfl) ?_
  intro p e s m args below meth c A hc hmn hp2
  refine j_aload_n hc dX1_init_0 rfl ?_
  refine j_objInit hc wt_28 wt_21 wt_22 dX1_init_1 (by decide) (Nat.le_of_ble_eq_true rfl) ?_
  refine j_aload_n hc dX1_init_4 rfl ?_
  refine j_bipush hc (v := 31) dX1_init_5 (by decide) ?_
  refine j_putf hc (w' := [(q, .inr (1, [.int 31, .null]))]) (K := RX1) (T := TX1) (N := 2) uw1 tyX1 tyX1_ok nmX1 0 rfl rfl 0 (by decide) wt_29 rfl (Or.inl rfl) (ty := .int) rfl rfl rfl (Nat.le_of_ble_eq_true rfl) rfl dX1_init_7 ?_
  refine j_aload_n hc dX1_init_10 rfl ?_
  refine j_sipush hc (v := 485) dX1_init_11 (by decide) ?_
  refine j_newaJ hc (N := 485) (by decide) rfl (Nat.le_of_ble_eq_true rfl) (Nat.le_of_ble_eq_true rfl) (Nat.le_of_ble_eq_true rfl) dX1_init_14 (fun q14 => ?_)
  refine j_w (w' := [(q, .inr (1, [.int 31, .null])), (q14, .inl (cs 1, 485, .inr (.inl (fun _ => 0))))]) rfl ?_
  refine j_putf hc (w' := [(q, .inr (1, [.int 31, .ref q14])), (q14, .inl (cs 1, 485, .inr (.inl (fun _ => 0))))]) (K := RX1) (T := TX1) (N := 2) uw1 tyX1 tyX1_ok nmX1 0 rfl rfl 1 (by decide) wt_31 rfl (Or.inr ⟨rfl, hmn, rfl⟩) (ty := (.array .long)) rfl rfl rfl (Nat.le_of_ble_eq_true rfl) rfl dX1_init_16 ?_
  exact j_ivret hc (q14 : Nat) rfl (by decide) (by decide) rfl dX1_init_19
set_option maxRecDepth 100000 in
set_option maxHeartbeats 4000000 in
theorem c_X2_init {l : Launch} {D : va_G} {cs : Nat → ClassId} {sa : Nat → Nat} (hl : l.stackTraces = false)  {q : Nat} : EI l D cs sa P2n yX2_init cX2_init 1 (RM 1 1 400) 1 400 [.ref q] [(q, .inr (2, [.null, .int 0]))] (X := Nat) (fun z => [(q, .inr (2, [.ref z, .int 0])), (z, .inl (cs 0, 400, .inl (fun _ => 0)))]) := by
  refine EI.of RX2 hl (by decide +kernel) rfl (Nat.le_of_ble_eq_true rfl) ?_
  intro p e s m args below meth c A hc hmn hp2
  refine j_aload_n hc dX2_init_0 rfl ?_
  refine j_objInit hc wt_69 wt_21 wt_22 dX2_init_1 (by decide) (Nat.le_of_ble_eq_true rfl) ?_
  refine j_aload_n hc dX2_init_4 rfl ?_
  refine j_sipush hc (v := 400) dX2_init_5 (by decide) ?_
  refine j_newaI hc (N := 400) (by decide) rfl (Nat.le_of_ble_eq_true rfl) (Nat.le_of_ble_eq_true rfl) (Nat.le_of_ble_eq_true rfl) dX2_init_8 (fun q8 => ?_)
  refine j_w (w' := [(q, .inr (2, [.null, .int 0])), (q8, .inl (cs 0, 400, .inl (fun _ => 0)))]) rfl ?_
  refine j_putf hc (w' := [(q, .inr (2, [.ref q8, .int 0])), (q8, .inl (cs 0, 400, .inl (fun _ => 0)))]) (K := RX2) (T := TX2) (N := 2) uw2 tyX2 tyX2_ok nmX2 0 rfl rfl 0 (by decide) wt_70 rfl (Or.inr ⟨rfl, hmn, rfl⟩) (ty := (.array .int)) rfl rfl rfl (Nat.le_of_ble_eq_true rfl) rfl dX2_init_10 ?_
  exact j_ivret hc (q8 : Nat) rfl (by decide) (by decide) rfl dX2_init_13
def gcp (f : Nat → Int32) (i : Nat) : Nat → Int32 := fun j => if j < i then f j else 0
theorem gcp_0 (f : Nat → Int32) : (fun _ => 0) = gcp f 0 := funext fun j => (if_neg (Nat.not_lt_zero j)).symm
theorem gcp_s (f : Nat → Int32) (i : Nat) : upd (gcp f i) i (f i) = gcp f (i + 1) := funext fun j => by
  unfold upd gcp
  by_cases h : j = i
  · subst h; rw [if_pos rfl, if_pos (Nat.lt_succ_self j)]
  · rw [if_neg h]
    by_cases h2 : j < i
    · rw [if_pos h2, if_pos (by omega)]
    · rw [if_neg h2, if_neg (by omega)]
/-- a table of ints that nobody writes -/
def tabI (t N : Nat) (f : Nat → Int32) : P2T := fun A U H => va_T .int t N (fun j => .int (f j)) A U H
theorem tabI_ok (t N : Nat) (f : Nat → Int32) : P2ok (tabI t N f) := ⟨fun A U g mk a h => va_T.moved (u := U) (U := U.calling g mk a) (Vm.Alike.refl U.vm) h, fun A B s U H locs h hS hB hU hW => by
  subst hU
  exact ((va_T.moved hW.alike h).kept hS.2.1).narrow hB⟩
section TB
variable {p : Program} {l : Launch} {e : Env} {R : Room} {s : State} {m : MethodId} {args : Array Value} {below : List Frame} {meth : Method} {c : Code} {D : va_G} {cs : Nat → ClassId} {sa : Nat → Nat} {A : Nat → Prop} {cc : ByteArray} {nL : Nat} {own : String} {ret : Option FieldType} {cells slots : Nat} {Q : State → Prop} {w : va_W} {pc : Nat} {lv : List (Nat × Value)} {st : List Value}
theorem j_tlen (hc : CX p l e R s m args below meth c D cs sa A cc nL own ret) {t N : Nat} {f : Nat → Int32} (hT : tabI t N f A s s.heap) (hdg : decode cc pc = .ok (.arraylength, 1)) (kk : J p l e R s m args below meth c D A nL cells slots Q w (pc + 1) lv (.int (nI N) :: st)) : J p l e R s m args below meth c D A nL cells slots Q w pc lv (.ref t :: st) := fun H locs ls hP hD hS hl => va_tlen hc.1.1 hc.1.2.1 hT hS rfl hdg (kk H locs ls hP hD hS hl)
theorem j_tld (hc : CX p l e R s m args below meth c D cs sa A cc nL own ret) {t N i : Nat} {f : Nat → Int32} (hT : tabI t N f A s s.heap) (hin : vp_in (nI i) N) (hdg : decode cc pc = .ok (.iaload, 1)) (kk : J p l e R s m args below meth c D A nL cells slots Q w (pc + 1) lv (.int (f i) :: st)) (hi : i < 2 ^ 31 := by omega) : J p l e R s m args below meth c D A nL cells slots Q w pc lv (.int (nI i) :: .ref t :: st) := fun H locs ls hP hD hS hl => va_ti hc.1.1 hc.1.2.1 hT hS hin (by rw [nI_clamp hi]) hdg (kk H locs ls hP hD hS hl)
theorem j_gets (hc : CX p l e R s m args below meth c D cs sa A cc nL own ret) {nm ds : String} {v : Value} {index : Nat} (hZ : va_Z own nm ds v A s s.heap) (hm : Cond.fieldLink own index own nm ds ∈ WT) (hdg : decode cc pc = .ok (.getstatic index, 3)) (kk : J p l e R s m args below meth c D A nL cells slots Q w (pc + 3) lv (v :: st)) : J p l e R s m args below meth c D A nL cells slots Q w pc lv st := fun H locs ls hP hD hS hl => va_gets hc.1.1 hc.1.2.1 hZ hS hc.1.2.2.2.1 (hc.1.2.2.2.2 _ hm) (fun _ h => h) hdg (kk H locs ls hP hD hS hl)
end TB
set_option maxRecDepth 100000 in
set_option maxHeartbeats 4000000 in
theorem c_X3_init {l : Launch} {D : va_G} {cs : Nat → ClassId} {sa : Nat → Nat} (hl : l.stackTraces = false)  {q t N : Nat} {f : Nat → Int32} (hN : N ≤ 6) : EI l D cs sa (tabI t N f) yX3_init cX3_init 3 (RM 1 1 6) 1 6 [.ref q, .ref t] [(q, .inr (3, [.null, .int 0]))] (X := Nat) (fun z => [(q, .inr (3, [.ref z, .int (nI N)])), (z, .inl (cs 0, 6, .inl (gcp f N)))]) := by
  refine EI.of RX3 hl (by decide +kernel) rfl (Nat.le_of_ble_eq_true rfl) ?_
  intro p e s m args below meth c A hc hmn hp2
  refine j_aload_n hc dX3_init_0 rfl ?_
  refine j_objInit hc wt_46 wt_21 wt_22 dX3_init_1 (by decide) (Nat.le_of_ble_eq_true rfl) ?_
  refine j_aload_n hc dX3_init_4 rfl ?_
  refine j_bipush hc (v := 6) dX3_init_5 (by decide) ?_
  refine j_newaI hc (N := 6) (by decide) rfl (Nat.le_of_ble_eq_true rfl) (Nat.le_of_ble_eq_true rfl) (Nat.le_of_ble_eq_true rfl) dX3_init_7 (fun q7 => ?_)
  refine j_w (w' := [(q, .inr (3, [.null, .int 0])), (q7, .inl (cs 0, 6, .inl (fun _ => 0)))]) rfl ?_
  refine j_putf hc (w' := [(q, .inr (3, [.ref q7, .int 0])), (q7, .inl (cs 0, 6, .inl (fun _ => 0)))]) (K := RX3) (T := TX3) (N := 2) uw3 tyX3 tyX3_ok nmX3 0 rfl rfl 0 (by decide) wt_47 rfl (Or.inr ⟨rfl, hmn, rfl⟩) (ty := (.array .int)) rfl rfl rfl (Nat.le_of_ble_eq_true rfl) rfl dX3_init_9 ?_
  refine j_iconst hc (v := 0) dX3_init_12 (by decide) ?_
  have loop : ∀ (k i : Nat), i + k = N → J p l e (RM 1 1 6) s m args below meth c D A 3 1 6 (MQ below (QI D (fun z : Nat => [(q, .inr (3, [.ref z, .int (nI N)])), (z, .inl (cs 0, 6, .inl (gcp f N)))]) A) args s 1 6 A) [(q, .inr (3, [.ref q7, .int (nI i)])), (q7, .inl (cs 0, 6, .inl (gcp f i)))] 14 [(0, .ref q), (1, .ref t), (2, .int (nI i))] [] := by
    intro k
    induction k with
    | zero =>
      intro i hi
      refine j_iload_n hc dX3_init_14 rfl ?_
      refine j_aload_n hc dX3_init_15 rfl ?_
      refine j_tlen hc hp2 dX3_init_16 ?_
      refine j_icmp_ge hc 54 dX3_init_17 (by decide) (fun _ => ?_) (fun h => absurd (nI_le (by omega) (by omega)) h)
      have hiN : i = N := by omega
      subst hiN
      exact j_ivret hc (q7 : Nat) rfl (by decide) (by decide) rfl dX3_init_54
    | succ k ih =>
      intro i hi
      have hin : vp_in (nI i) N := vp_in_nI (by omega) (by omega)
      have hin6 : vp_in (nI i) 6 := vp_in_nI (by omega) (by decide)
      refine j_iload_n hc dX3_init_14 rfl ?_
      refine j_aload_n hc dX3_init_15 rfl ?_
      refine j_tlen hc hp2 dX3_init_16 ?_
      refine j_icmp_ge hc 54 dX3_init_17 (by decide) (fun h => absurd h (nI_ge (by omega) (by omega))) (fun _ => ?_)
      refine j_iload_n hc dX3_init_20 rfl ?_
      refine j_aload_n hc dX3_init_21 rfl ?_
      refine j_getf hc (K := RX3) (T := TX3) (N := 2) uw3 0 rfl rfl 0 (by decide) wt_47 rfl rfl dX3_init_22 ?_
      refine j_alen hc 1 0 rfl rfl (v := 6) rfl dX3_init_25 ?_
      refine j_icmp_ge hc 54 dX3_init_26 (by decide) (fun h => absurd h (nI_ge (b := 6) (by omega) (by omega))) (fun _ => ?_)
      refine j_aload_n hc dX3_init_29 rfl ?_
      refine j_getf hc (K := RX3) (T := TX3) (N := 2) uw3 0 rfl rfl 0 (by decide) wt_47 rfl rfl dX3_init_30 ?_
      refine j_iload_n hc dX3_init_33 rfl ?_
      refine j_aload_n hc dX3_init_34 rfl ?_
      refine j_iload_n hc dX3_init_35 rfl ?_
      refine j_tld hc hp2 hin dX3_init_36 ?_
      refine j_iastore hc (w' := [(q, .inr (3, [.ref q7, .int (nI i)])), (q7, .inl (cs 0, 6, .inl (gcp f (i + 1))))]) 1 rfl hin6 (by rw [nI_clamp (show i < 2 ^ 31 by omega), gcp_s]; rfl) dX3_init_37 ?_
      refine j_aload_n hc dX3_init_38 rfl ?_
      refine j_dup hc dX3_init_39 rfl ?_
      refine j_getf hc (K := RX3) (T := TX3) (N := 2) uw3 0 rfl rfl 1 (by decide) wt_48 rfl rfl dX3_init_40 ?_
      refine j_iconst hc (v := 1) dX3_init_43 (by decide) ?_
      refine j_iadd hc dX3_init_44 ?_
      refine j_putf hc (w' := [(q, .inr (3, [.ref q7, .int (nI (i + 1))])), (q7, .inl (cs 0, 6, .inl (gcp f (i + 1))))]) (K := RX3) (T := TX3) (N := 2) uw3 tyX3 tyX3_ok nmX3 0 rfl rfl 1 (by decide) wt_48 rfl (Or.inl rfl) (ty := .int) rfl rfl rfl (Nat.le_of_ble_eq_true rfl) (by rw [nI_1]; rfl) dX3_init_45 ?_
      refine j_inc hc dX3_init_48 rfl (z := 1) (by decide) rfl ?_
      refine j_goto hc 14 dX3_init_51 (by decide) ?_
      refine j_lv [(0, .ref q), (1, .ref t), (2, .int (nI i + 1))] ⟨rfl, rfl, rfl, trivial⟩ ?_
      rw [nI_1]
      exact ih (i + 1) (by omega)
  refine j_istore_n hc dX3_init_13 rfl ?_
  rw [gcp_0 f]
  refine j_lv [(0, .ref q), (1, .ref t), (2, .int (nI 0))] ⟨rfl, rfl, rfl, trivial⟩ ?_
  exact loop N 0 (by omega)
