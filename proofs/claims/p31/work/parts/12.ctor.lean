set_option maxRecDepth 100000 in
set_option maxHeartbeats 4000000 in
theorem c_X0_init {l : Launch} {D : va_G} {cs : Nat → ClassId} {sa : Nat → Nat} (hl : l.stackTraces = false)  {q : Nat} {k x v : Int32} : EI l D cs sa P2n yX0_init cX0_init 4 (RM 1 1 4) 1 4 [.ref q, .int k, .int x, .int v] [(q, .inr (0, [.int 0, .int 0, .null, .int 0, .int 0, .int 0, .int 0, .int 0, .int 0, .int 0, .int 0]))] (X := Nat) (fun z => [(q, .inr (0, [.int k, .int x, .ref z, .int v, .int 0, .int 0, .int 0, .int 0, .int 0, .int 0, .int 0])), (z, .inl (cs 0, 4, .inl (fun _ => 0)))]) := by
  refine EI.of RX0 hl (by decide +kernel) rfl (Nat.le_of_ble_eq_true rfl) ?_
  intro p e s m args below meth c A hc hmn hp2
  refine j_aload_n hc dX0_init_0 rfl ?_
  refine j_objInit hc wt_252 wt_20 wt_21 dX0_init_1 (by decide) (Nat.le_of_ble_eq_true rfl) ?_
  refine j_aload_n hc dX0_init_4 rfl ?_
  refine j_iload_n hc dX0_init_5 rfl ?_
  refine j_putf hc (w' := [(q, .inr (0, [.int k, .int 0, .null, .int 0, .int 0, .int 0, .int 0, .int 0, .int 0, .int 0, .int 0]))]) (K := RX0) (T := TX0) (N := 11) uw0 tyX0 tyX0_ok nmX0 0 rfl rfl 0 (by decide) wt_253 rfl (Or.inr ⟨rfl, hmn, rfl⟩) (ty := .int) rfl rfl rfl (Nat.le_of_ble_eq_true rfl) rfl dX0_init_6 ?_
  refine j_aload_n hc dX0_init_9 rfl ?_
  refine j_iload_n hc dX0_init_10 rfl ?_
  refine j_putf hc (w' := [(q, .inr (0, [.int k, .int x, .null, .int 0, .int 0, .int 0, .int 0, .int 0, .int 0, .int 0, .int 0]))]) (K := RX0) (T := TX0) (N := 11) uw0 tyX0 tyX0_ok nmX0 0 rfl rfl 1 (by decide) wt_255 rfl (Or.inr ⟨rfl, hmn, rfl⟩) (ty := .int) rfl rfl rfl (Nat.le_of_ble_eq_true rfl) rfl dX0_init_11 ?_
  refine j_aload_n hc dX0_init_14 rfl ?_
  refine j_iload_n hc dX0_init_15 rfl ?_
  refine j_putf hc (w' := [(q, .inr (0, [.int k, .int x, .null, .int v, .int 0, .int 0, .int 0, .int 0, .int 0, .int 0, .int 0]))]) (K := RX0) (T := TX0) (N := 11) uw0 tyX0 tyX0_ok nmX0 0 rfl rfl 3 (by decide) wt_259 rfl (Or.inl rfl) (ty := .int) rfl rfl rfl (Nat.le_of_ble_eq_true rfl) rfl dX0_init_16 ?_
  refine j_aload_n hc dX0_init_19 rfl ?_
  refine j_iconst hc (v := 4) dX0_init_20 (by decide) ?_
  refine j_newaI hc (N := 4) (by decide) rfl (Nat.le_of_ble_eq_true rfl) (Nat.le_of_ble_eq_true rfl) (Nat.le_of_ble_eq_true rfl) dX0_init_21 (fun q21 => ?_)
  refine j_w (w' := [(q, .inr (0, [.int k, .int x, .null, .int v, .int 0, .int 0, .int 0, .int 0, .int 0, .int 0, .int 0])), (q21, .inl (cs 0, 4, .inl (fun _ => 0)))]) rfl ?_
  refine j_putf hc (w' := [(q, .inr (0, [.int k, .int x, .ref q21, .int v, .int 0, .int 0, .int 0, .int 0, .int 0, .int 0, .int 0])), (q21, .inl (cs 0, 4, .inl (fun _ => 0)))]) (K := RX0) (T := TX0) (N := 11) uw0 tyX0 tyX0_ok nmX0 0 rfl rfl 2 (by decide) wt_257 rfl (Or.inr ⟨rfl, hmn, rfl⟩) (ty := (.array .int)) rfl rfl rfl (Nat.le_of_ble_eq_true rfl) rfl dX0_init_23 ?_
  exact j_ivret hc (q21 : Nat) rfl (by decide) (by decide) rfl dX0_init_26
set_option maxRecDepth 100000 in
set_option maxHeartbeats 4000000 in
theorem c_X1_init {l : Launch} {D : va_G} {cs : Nat → ClassId} {sa : Nat → Nat} (hl : l.stackTraces = false)  {q : Nat} : EI l D cs sa P2n yX1_init cX1_init 1 (RM 1 1 485) 1 485 [.ref q] [(q, .inr (1, [.int 0, .null]))] (X := Nat) (fun z => [(q, .inr (1, [.int 31, .ref z])), (z, .inl (cs 1, 485, .inr (.inl (fun _ => 0))))]) := by
  refine EI.of RX1 hl (by decide +kernel) rfl (Nat.le_of_ble_eq_true rfl) ?_
  intro p e s m args below meth c A hc hmn hp2
  refine j_aload_n hc dX1_init_0 rfl ?_
  refine j_objInit hc wt_27 wt_20 wt_21 dX1_init_1 (by decide) (Nat.le_of_ble_eq_true rfl) ?_
  refine j_aload_n hc dX1_init_4 rfl ?_
  refine j_bipush hc (v := 31) dX1_init_5 (by decide) ?_
  refine j_putf hc (w' := [(q, .inr (1, [.int 31, .null]))]) (K := RX1) (T := TX1) (N := 2) uw1 tyX1 tyX1_ok nmX1 0 rfl rfl 0 (by decide) wt_28 rfl (Or.inl rfl) (ty := .int) rfl rfl rfl (Nat.le_of_ble_eq_true rfl) rfl dX1_init_7 ?_
  refine j_aload_n hc dX1_init_10 rfl ?_
  refine j_sipush hc (v := 485) dX1_init_11 (by decide) ?_
  refine j_newaJ hc (N := 485) (by decide) rfl (Nat.le_of_ble_eq_true rfl) (Nat.le_of_ble_eq_true rfl) (Nat.le_of_ble_eq_true rfl) dX1_init_14 (fun q14 => ?_)
  refine j_w (w' := [(q, .inr (1, [.int 31, .null])), (q14, .inl (cs 1, 485, .inr (.inl (fun _ => 0))))]) rfl ?_
  refine j_putf hc (w' := [(q, .inr (1, [.int 31, .ref q14])), (q14, .inl (cs 1, 485, .inr (.inl (fun _ => 0))))]) (K := RX1) (T := TX1) (N := 2) uw1 tyX1 tyX1_ok nmX1 0 rfl rfl 1 (by decide) wt_30 rfl (Or.inr ⟨rfl, hmn, rfl⟩) (ty := (.array .long)) rfl rfl rfl (Nat.le_of_ble_eq_true rfl) rfl dX1_init_16 ?_
  exact j_ivret hc (q14 : Nat) rfl (by decide) (by decide) rfl dX1_init_19
set_option maxRecDepth 100000 in
set_option maxHeartbeats 4000000 in
theorem c_X2_init {l : Launch} {D : va_G} {cs : Nat → ClassId} {sa : Nat → Nat} (hl : l.stackTraces = false)  {q : Nat} : EI l D cs sa P2n yX2_init cX2_init 1 (RM 1 1 400) 1 400 [.ref q] [(q, .inr (2, [.null, .int 0]))] (X := Nat) (fun z => [(q, .inr (2, [.ref z, .int 0])), (z, .inl (cs 0, 400, .inl (fun _ => 0)))]) := by
  refine EI.of RX2 hl (by decide +kernel) rfl (Nat.le_of_ble_eq_true rfl) ?_
  intro p e s m args below meth c A hc hmn hp2
  refine j_aload_n hc dX2_init_0 rfl ?_
  refine j_objInit hc wt_68 wt_20 wt_21 dX2_init_1 (by decide) (Nat.le_of_ble_eq_true rfl) ?_
  refine j_aload_n hc dX2_init_4 rfl ?_
  refine j_sipush hc (v := 400) dX2_init_5 (by decide) ?_
  refine j_newaI hc (N := 400) (by decide) rfl (Nat.le_of_ble_eq_true rfl) (Nat.le_of_ble_eq_true rfl) (Nat.le_of_ble_eq_true rfl) dX2_init_8 (fun q8 => ?_)
  refine j_w (w' := [(q, .inr (2, [.null, .int 0])), (q8, .inl (cs 0, 400, .inl (fun _ => 0)))]) rfl ?_
  refine j_putf hc (w' := [(q, .inr (2, [.ref q8, .int 0])), (q8, .inl (cs 0, 400, .inl (fun _ => 0)))]) (K := RX2) (T := TX2) (N := 2) uw2 tyX2 tyX2_ok nmX2 0 rfl rfl 0 (by decide) wt_69 rfl (Or.inr ⟨rfl, hmn, rfl⟩) (ty := (.array .int)) rfl rfl rfl (Nat.le_of_ble_eq_true rfl) rfl dX2_init_10 ?_
  exact j_ivret hc (q8 : Nat) rfl (by decide) (by decide) rfl dX2_init_13
def gcp (f : Nat → Int32) (i : Nat) : Nat → Int32 := fun j => if j < i then f j else 0
theorem gcp_0 (f : Nat → Int32) : (fun _ => 0) = gcp f 0 := funext fun j => (if_neg (Nat.not_lt_zero j)).symm
theorem gcp_s (f : Nat → Int32) (i : Nat) : upd (gcp f i) i (f i) = gcp f (i + 1) := funext fun j => by
  unfold upd gcp
  by_cases h : j = i
  · subst h; rw [if_pos rfl, if_pos (Nat.lt_succ_self j)]
  · rw [if_neg h]
    by_cases h2 : j < i
    · rw [if_pos h2, if_pos (by omega)]
    · rw [if_neg h2, if_neg (by omega)]
/-- a table of ints that nobody writes -/
def tabI (t N : Nat) (f : Nat → Int32) : P2T := fun A U H => va_T .int t N (fun j => .int (f j)) A U H
theorem tabI_ok (t N : Nat) (f : Nat → Int32) : P2ok (tabI t N f) := ⟨fun A U g mk a h => va_T.moved (u := U) (U := U.calling g mk a) (Vm.Alike.refl U.vm) h, fun A B s U H locs h hS hB hU hW => by
  subst hU
  exact ((va_T.moved hW.alike h).kept hS.2.1).narrow hB⟩
section TB
variable {p : Program} {l : Launch} {e : Env} {R : Room} {s : State} {m : MethodId} {args : Array Value} {below : List Frame} {meth : Method} {c : Code} {D : va_G} {cs : Nat → ClassId} {sa : Nat → Nat} {A : Nat → Prop} {cc : ByteArray} {nL : Nat} {own : String} {ret : Option FieldType} {cells slots : Nat} {Q : State → Prop} {w : va_W} {pc : Nat} {lv : List (Nat × Value)} {st : List Value}
theorem j_tlen (hc : CX p l e R s m args below meth c D cs sa A cc nL own ret) {t N : Nat} {f : Nat → Int32} (hT : tabI t N f A s s.heap) (hdg : decode cc pc = .ok (.arraylength, 1)) (kk : J p l e R s m args below meth c D A nL cells slots Q w (pc + 1) lv (.int (nI N) :: st)) : J p l e R s m args below meth c D A nL cells slots Q w pc lv (.ref t :: st) := fun H locs ls hP hD hS hl => va_tlen hc.1.1 hc.1.2.1 hT hS rfl hdg (kk H locs ls hP hD hS hl)
theorem j_tld (hc : CX p l e R s m args below meth c D cs sa A cc nL own ret) {t N i : Nat} {f : Nat → Int32} (hT : tabI t N f A s s.heap) (hin : vp_in (nI i) N) (hdg : decode cc pc = .ok (.iaload, 1)) (kk : J p l e R s m args below meth c D A nL cells slots Q w (pc + 1) lv (.int (f i) :: st)) (hi : i < 2 ^ 31 := by omega) : J p l e R s m args below meth c D A nL cells slots Q w pc lv (.int (nI i) :: .ref t :: st) := fun H locs ls hP hD hS hl => va_ti hc.1.1 hc.1.2.1 hT hS hin (by rw [nI_clamp hi]) hdg (kk H locs ls hP hD hS hl)
theorem j_gets (hc : CX p l e R s m args below meth c D cs sa A cc nL own ret) {nm ds : String} {v : Value} {index : Nat} (hZ : va_Z own nm ds v A s s.heap) (hm : Cond.fieldLink own index own nm ds ∈ WT) (hdg : decode cc pc = .ok (.getstatic index, 3)) (kk : J p l e R s m args below meth c D A nL cells slots Q w (pc + 3) lv (v :: st)) : J p l e R s m args below meth c D A nL cells slots Q w pc lv st := fun H locs ls hP hD hS hl => va_gets hc.1.1 hc.1.2.1 hZ hS hc.1.2.2.2.1 (hc.1.2.2.2.2 _ hm) (fun _ h => h) hdg (kk H locs ls hP hD hS hl)
end TB
set_option maxRecDepth 100000 in
set_option maxHeartbeats 4000000 in
theorem c_X3_init {l : Launch} {D : va_G} {cs : Nat → ClassId} {sa : Nat → Nat} (hl : l.stackTraces = false)  {q t N : Nat} {f : Nat → Int32} (hN : N ≤ 6) : EI l D cs sa (tabI t N f) yX3_init cX3_init 3 (RM 1 1 6) 1 6 [.ref q, .ref t] [(q, .inr (3, [.null, .int 0]))] (X := Nat) (fun z => [(q, .inr (3, [.ref z, .int (nI N)])), (z, .inl (cs 0, 6, .inl (gcp f N)))]) := by
  refine EI.of RX3 hl (by decide +kernel) rfl (Nat.le_of_ble_eq_true rfl) ?_
  intro p e s m args below meth c A hc hmn hp2
  refine j_aload_n hc dX3_init_0 rfl ?_
  refine j_objInit hc wt_45 wt_20 wt_21 dX3_init_1 (by decide) (Nat.le_of_ble_eq_true rfl) ?_
  refine j_aload_n hc dX3_init_4 rfl ?_
  refine j_bipush hc (v := 6) dX3_init_5 (by decide) ?_
  refine j_newaI hc (N := 6) (by decide) rfl (Nat.le_of_ble_eq_true rfl) (Nat.le_of_ble_eq_true rfl) (Nat.le_of_ble_eq_true rfl) dX3_init_7 (fun q7 => ?_)
  refine j_w (w' := [(q, .inr (3, [.null, .int 0])), (q7, .inl (cs 0, 6, .inl (fun _ => 0)))]) rfl ?_
  refine j_putf hc (w' := [(q, .inr (3, [.ref q7, .int 0])), (q7, .inl (cs 0, 6, .inl (fun _ => 0)))]) (K := RX3) (T := TX3) (N := 2) uw3 tyX3 tyX3_ok nmX3 0 rfl rfl 0 (by decide) wt_46 rfl (Or.inr ⟨rfl, hmn, rfl⟩) (ty := (.array .int)) rfl rfl rfl (Nat.le_of_ble_eq_true rfl) rfl dX3_init_9 ?_
  refine j_iconst hc (v := 0) dX3_init_12 (by decide) ?_
  have loop : ∀ (k i : Nat), i + k = N → J p l e (RM 1 1 6) s m args below meth c D A 3 1 6 (MQ below (QI D (fun z : Nat => [(q, .inr (3, [.ref z, .int (nI N)])), (z, .inl (cs 0, 6, .inl (gcp f N)))]) A) args s 1 6 A) [(q, .inr (3, [.ref q7, .int (nI i)])), (q7, .inl (cs 0, 6, .inl (gcp f i)))] 14 [(0, .ref q), (1, .ref t), (2, .int (nI i))] [] := by
    intro k
    induction k with
    | zero =>
      intro i hi
      refine j_iload_n hc dX3_init_14 rfl ?_
      refine j_aload_n hc dX3_init_15 rfl ?_
      refine j_tlen hc hp2 dX3_init_16 ?_
      refine j_icmp_ge hc 54 dX3_init_17 (by decide) (fun _ => ?_) (fun h => absurd (nI_le (by omega) (by omega)) h)
      have hiN : i = N := by omega
      subst hiN
      exact j_ivret hc (q7 : Nat) rfl (by decide) (by decide) rfl dX3_init_54
    | succ k ih =>
      intro i hi
      have hin : vp_in (nI i) N := vp_in_nI (by omega) (by omega)
      have hin6 : vp_in (nI i) 6 := vp_in_nI (by omega) (by decide)
      refine j_iload_n hc dX3_init_14 rfl ?_
      refine j_aload_n hc dX3_init_15 rfl ?_
      refine j_tlen hc hp2 dX3_init_16 ?_
      refine j_icmp_ge hc 54 dX3_init_17 (by decide) (fun h => absurd h (nI_ge (by omega) (by omega))) (fun _ => ?_)
      refine j_iload_n hc dX3_init_20 rfl ?_
      refine j_aload_n hc dX3_init_21 rfl ?_
      refine j_getf hc (K := RX3) (T := TX3) (N := 2) uw3 0 rfl rfl 0 (by decide) wt_46 rfl rfl dX3_init_22 ?_
      refine j_alen hc 1 0 rfl rfl (v := 6) rfl dX3_init_25 ?_
      refine j_icmp_ge hc 54 dX3_init_26 (by decide) (fun h => absurd h (nI_ge (b := 6) (by omega) (by omega))) (fun _ => ?_)
      refine j_aload_n hc dX3_init_29 rfl ?_
      refine j_getf hc (K := RX3) (T := TX3) (N := 2) uw3 0 rfl rfl 0 (by decide) wt_46 rfl rfl dX3_init_30 ?_
      refine j_iload_n hc dX3_init_33 rfl ?_
      refine j_aload_n hc dX3_init_34 rfl ?_
      refine j_iload_n hc dX3_init_35 rfl ?_
      refine j_tld hc hp2 hin dX3_init_36 ?_
      refine j_iastore hc (w' := [(q, .inr (3, [.ref q7, .int (nI i)])), (q7, .inl (cs 0, 6, .inl (gcp f (i + 1))))]) 1 rfl hin6 (by rw [nI_clamp (show i < 2 ^ 31 by omega), gcp_s]; rfl) dX3_init_37 ?_
      refine j_aload_n hc dX3_init_38 rfl ?_
      refine j_dup hc dX3_init_39 rfl ?_
      refine j_getf hc (K := RX3) (T := TX3) (N := 2) uw3 0 rfl rfl 1 (by decide) wt_47 rfl rfl dX3_init_40 ?_
      refine j_iconst hc (v := 1) dX3_init_43 (by decide) ?_
      refine j_iadd hc dX3_init_44 ?_
      refine j_putf hc (w' := [(q, .inr (3, [.ref q7, .int (nI (i + 1))])), (q7, .inl (cs 0, 6, .inl (gcp f (i + 1))))]) (K := RX3) (T := TX3) (N := 2) uw3 tyX3 tyX3_ok nmX3 0 rfl rfl 1 (by decide) wt_47 rfl (Or.inl rfl) (ty := .int) rfl rfl rfl (Nat.le_of_ble_eq_true rfl) (by rw [nI_1]; rfl) dX3_init_45 ?_
      refine j_inc hc dX3_init_48 rfl (z := 1) (by decide) rfl ?_
      refine j_goto hc 14 dX3_init_51 (by decide) ?_
      refine j_lv [(0, .ref q), (1, .ref t), (2, .int (nI i + 1))] ⟨rfl, rfl, rfl, trivial⟩ ?_
      rw [nI_1]
      exact ih (i + 1) (by omega)
  refine j_istore_n hc dX3_init_13 rfl ?_
  rw [gcp_0 f]
  refine j_lv [(0, .ref q), (1, .ref t), (2, .int (nI 0))] ⟨rfl, rfl, rfl, trivial⟩ ?_
  exact loop N 0 (by omega)
def EL (ad : Nat → Nat) (cs : Nat → ClassId) (n : Nat) (E : ES) : va_W := [
  (ad 0, .inr (4, [.ref (ad 1), .ref (ad 3), .ref (ad 12), .ref (ad 13), .int (E.1 4), .int (E.1 5), .int (E.1 6), .int (E.1 7), .int (E.1 8), .int (E.1 9), .int (E.1 10), .int (E.1 11)])),
  (ad 1, .inr (1, [.int (E.1 12), .ref (ad 2)])),
  (ad 2, .inl (cs 1, 485, .inr (.inl E.2.2))),
  (ad 3, .inl (cs 4, 4, .inr (.inr (.inr (.inr (gpf ad)))))),
  (ad 4, .inr (3, [.ref (ad 5), .int (E.1 14)])),
  (ad 5, .inl (cs 0, 6, .inl (E.2.1 20))),
  (ad 6, .inr (3, [.ref (ad 7), .int (E.1 15)])),
  (ad 7, .inl (cs 0, 6, .inl (E.2.1 21))),
  (ad 8, .inr (3, [.ref (ad 9), .int (E.1 16)])),
  (ad 9, .inl (cs 0, 6, .inl (E.2.1 22))),
  (ad 10, .inr (3, [.ref (ad 11), .int (E.1 17)])),
  (ad 11, .inl (cs 0, 6, .inl (E.2.1 23))),
  (ad 12, .inl (cs 3, 30, .inr (.inr (.inr (.inr (brf ad n)))))),
  (ad 13, .inr (2, [.ref (ad 14), .int (E.1 13)])),
  (ad 14, .inl (cs 0, 400, .inl (E.2.1 30)))]
def ML (ad : Nat → Nat) (cs : Nat → ClassId) (S : MS) : va_W := [
  (ad 15, .inl (cs 0, 9, .inl (S 0))),
  (ad 16, .inl (cs 0, 64, .inl (S 1))),
  (ad 17, .inl (cs 0, 30, .inl (S 2))),
  (ad 18, .inl (cs 0, 5, .inl (S 3))),
  (ad 19, .inl (cs 0, 36, .inl (S 4))),
  (ad 20, .inl (cs 0, 48, .inl (S 5))),
  (ad 21, .inl (cs 0, 60, .inl (S 6))),
  (ad 22, .inl (cs 0, 36, .inl (S 7))),
  (ad 23, .inl (cs 0, 60, .inl (S 8)))]
theorem fx_eq (ad : Nat → Nat) (cs : Nat → ClassId) (n : Nat) (E : ES) (S : MS) (o : Nat → Int64) : FX ad cs n E S o = EL ad cs n E ++ ML ad cs S := rfl
def g0 : Nat → Int32 := fun j => match j with | 0 => 3 | 1 => 5 | _ => 7
def g1 : Nat → Int32 := fun _ => 7
def g2 : Nat → Int32 := fun _ => 0
def g3 : Nat → Int32 := fun _ => 1
/-- the class's numbers when it is new -/
def E0 : ES := (fun k => match k with | 6 => 10 | 7 => 30 | 12 => 31 | 14 => nI 3 | 15 => nI 2 | 16 => nI 0 | 17 => nI 4 | _ => 0, fun k => match k with | 20 => gcp g0 3 | 21 => gcp g1 2 | 22 => gcp g2 0 | 23 => gcp g3 4 | _ => fun _ => 0, fun _ => 0)
/-- the class's statics, and its arrays of objects -/
def FGn : Nat → String := fun k => match k with | 0 => "FIRST_GAPS_NO_MONEY" | 1 => "FIRST_GAPS_EXPIRED" | 2 => "FIRST_GAPS_BLOCKED" | _ => "FIRST_GAPS_ERROR"
def FGl : Nat → Nat := fun k => match k with | 0 => 3 | 1 => 2 | 2 => 0 | _ => 4
def FGf : Nat → Nat → Int32 := fun k => match k with | 0 => g0 | 1 => g1 | 2 => g2 | _ => g3
def EST (tt : Nat → Nat) : P2T := fun A U H => va_AO RX3 U ∧ va_AO RX0 U ∧ ∀ k, k < 4 → va_Z RX4 (FGn k) "[I" (.ref (tt k)) A U H ∧ tabI (tt k) (FGl k) (FGf k) A U H
theorem EST_ok (tt : Nat → Nat) : P2ok (EST tt) := ⟨fun A U g mk a h => ⟨va_AO.moved (u := U) (U := U.calling g mk a) (Vm.Alike.refl U.vm) h.1, va_AO.moved (u := U) (U := U.calling g mk a) (Vm.Alike.refl U.vm) h.2.1, fun k hk => ⟨va_Z.moved (u := U) (U := U.calling g mk a) (Vm.Alike.refl U.vm) (h.2.2 k hk).1, (tabI_ok _ _ _).1 A U g mk a (h.2.2 k hk).2⟩⟩, fun A B s U H locs h hS hB hU hW => by
  subst hU
  exact ⟨va_AO.moved hW.alike h.1, va_AO.moved hW.alike h.2.1, fun k hk => ⟨((va_Z.moved hW.alike (h.2.2 k hk).1).kept hS.2.1).narrow hB, (tabI_ok _ _ _).2 A B s U _ locs (h.2.2 k hk).2 hS hB rfl hW⟩⟩⟩
theorem gpf4 (ad : Nat → Nat) : va_up (va_up (va_up (va_up (fun _ => none) 0 (some (ad 4))) 1 (some (ad 6))) 2 (some (ad 8))) 3 (some (ad 10)) = gpf ad := funext fun i => by
  match i with
  | 0 => rfl
  | 1 => rfl
  | 2 => rfl
  | 3 => rfl
  | i + 4 =>
    have h : ¬ i + 4 < 4 := by omega
    simp [va_up, gpf]
theorem brf0 (ad : Nat → Nat) : (fun _ => none) = brf ad 0 := funext fun i => (if_neg (Nat.not_lt_zero i)).symm
set_option maxRecDepth 100000 in
set_option maxHeartbeats 4000000 in
theorem c_X4_init {l : Launch} {D : va_G} {cs : Nat → ClassId} {sa : Nat → Nat} (hl : l.stackTraces = false)  {q : Nat} {tt : Nat → Nat} : EI l D cs sa (EST tt) yX4_init cX4_init 1 (RM 2 14 955) 14 955 [.ref q] [(q, .inr (4, [.null, .null, .null, .null, .int 0, .int 0, .int 0, .int 0, .int 0, .int 0, .int 0, .int 0]))] (X := Subtype fun ad : Nat → Nat => ad 0 = q) (fun x => EL x.1 cs 0 E0) := by
  refine EI.of RX4 hl (by decide +kernel) rfl (Nat.le_of_ble_eq_true rfl) ?_
  intro p e s m args below meth c A hc hmn hp2
  have hG := hp2.1
  have hB := hp2.2.1
  refine j_aload_n hc dX4_init_0 rfl ?_
  refine j_objInit hc wt_19 wt_20 wt_21 dX4_init_1 (by decide) (Nat.le_of_ble_eq_true rfl) ?_
  refine j_aload_n hc dX4_init_4 rfl ?_
  refine j_new hc (K := RX1) (T := TX1) (N := 2) (ci := 1) uw1 tyX1 tyX1_ok wt_22 wt_23 wt_2 rfl (fs := [.int 0, .null]) (fun j hj => by match j, hj with | 0, _ => rfl | 1, _ => rfl | j + 2, h => exact absurd h (by omega)) (Nat.le_of_ble_eq_true rfl) (Nat.le_of_ble_eq_true rfl) dX4_init_5 (fun q5 => ?_)
  refine j_w (w' := [(q, .inr (4, [.null, .null, .null, .null, .int 0, .int 0, .int 0, .int 0, .int 0, .int 0, .int 0, .int 0])), (q5, .inr (1, [.int 0, .null]))]) rfl ?_
  refine j_dup hc dX4_init_8 rfl ?_
  refine j_callI hc (w := [(q, .inr (4, [.null, .null, .null, .null, .int 0, .int 0, .int 0, .int 0, .int 0, .int 0, .int 0, .int 0])), (q5, .inr (1, [.int 0, .null]))]) [(q, .inr (4, [.null, .null, .null, .null, .int 0, .int 0, .int 0, .int 0, .int 0, .int 0, .int 0, .int 0]))] (c_X1_init hl) ic_X4_9 P2n_ok trivial rfl ⟨rfl, rfl, by decide, by decide⟩ rfl rfl (Nat.le_of_ble_eq_true rfl) ⟨by decide, by decide⟩ dX4_init_9 (fun z9 => ?_)
  refine j_w (w' := [(q, .inr (4, [.null, .null, .null, .null, .int 0, .int 0, .int 0, .int 0, .int 0, .int 0, .int 0, .int 0])), (q5, .inr (1, [.int 31, .ref z9])), (z9, .inl (cs 1, 485, .inr (.inl (fun _ => 0))))]) rfl ?_
  refine j_putf hc (w' := [(q, .inr (4, [.ref q5, .null, .null, .null, .int 0, .int 0, .int 0, .int 0, .int 0, .int 0, .int 0, .int 0])), (q5, .inr (1, [.int 31, .ref z9])), (z9, .inl (cs 1, 485, .inr (.inl (fun _ => 0))))]) (K := RX4) (T := TX4) (N := 12) uw4 tyX4 tyX4_ok nmX4 0 rfl rfl 0 (by decide) wt_77 rfl (Or.inr ⟨rfl, hmn, rfl⟩) (ty := (.object "CollectionsEngine$Calendar")) rfl rfl rfl (Nat.le_of_ble_eq_true rfl) rfl dX4_init_12 ?_
  refine j_aload_n hc dX4_init_15 rfl ?_
  refine j_iconst hc (v := 4) dX4_init_16 (by decide) ?_
  refine j_newqGaps hc wt_37 hG (N := 4) (by decide) rfl (Nat.le_of_ble_eq_true rfl) (Nat.le_of_ble_eq_true rfl) (Nat.le_of_ble_eq_true rfl) dX4_init_17 (fun q17 => ?_)
  refine j_w (w' := [(q, .inr (4, [.ref q5, .null, .null, .null, .int 0, .int 0, .int 0, .int 0, .int 0, .int 0, .int 0, .int 0])), (q5, .inr (1, [.int 31, .ref z9])), (z9, .inl (cs 1, 485, .inr (.inl (fun _ => 0)))), (q17, .inl (cs 4, 4, .inr (.inr (.inr (.inr (fun _ => none))))))]) rfl ?_
  refine j_dup hc dX4_init_20 rfl ?_
  refine j_iconst hc (v := 0) dX4_init_21 (by decide) ?_
  refine j_new hc (K := RX3) (T := TX3) (N := 2) (ci := 3) uw3 tyX3 tyX3_ok wt_37 wt_39 wt_3 rfl (fs := [.null, .int 0]) (fun j hj => by match j, hj with | 0, _ => rfl | 1, _ => rfl | j + 2, h => exact absurd h (by omega)) (Nat.le_of_ble_eq_true rfl) (Nat.le_of_ble_eq_true rfl) dX4_init_22 (fun q22 => ?_)
  refine j_w (w' := [(q, .inr (4, [.ref q5, .null, .null, .null, .int 0, .int 0, .int 0, .int 0, .int 0, .int 0, .int 0, .int 0])), (q5, .inr (1, [.int 31, .ref z9])), (z9, .inl (cs 1, 485, .inr (.inl (fun _ => 0)))), (q17, .inl (cs 4, 4, .inr (.inr (.inr (.inr (fun _ => none)))))), (q22, .inr (3, [.null, .int 0]))]) rfl ?_
  refine j_dup hc dX4_init_25 rfl ?_
  refine j_gets hc (hp2.2.2 0 (by decide)).1 wt_40 dX4_init_26 ?_
  refine j_callI hc (w := [(q, .inr (4, [.ref q5, .null, .null, .null, .int 0, .int 0, .int 0, .int 0, .int 0, .int 0, .int 0, .int 0])), (q5, .inr (1, [.int 31, .ref z9])), (z9, .inl (cs 1, 485, .inr (.inl (fun _ => 0)))), (q17, .inl (cs 4, 4, .inr (.inr (.inr (.inr (fun _ => none)))))), (q22, .inr (3, [.null, .int 0]))]) [(q, .inr (4, [.ref q5, .null, .null, .null, .int 0, .int 0, .int 0, .int 0, .int 0, .int 0, .int 0, .int 0])), (q5, .inr (1, [.int 31, .ref z9])), (z9, .inl (cs 1, 485, .inr (.inl (fun _ => 0)))), (q17, .inl (cs 4, 4, .inr (.inr (.inr (.inr (fun _ => none))))))] (c_X3_init (N := FGl 0) (f := FGf 0) (t := tt 0) hl (by decide)) ic_X4_22 (tabI_ok _ _ _) (hp2.2.2 0 (by decide)).2 rfl ⟨rfl, rfl, by decide, by decide⟩ rfl rfl (Nat.le_of_ble_eq_true rfl) ⟨by decide, by decide⟩ dX4_init_29 (fun z29 => ?_)
  refine j_w (w' := [(q, .inr (4, [.ref q5, .null, .null, .null, .int 0, .int 0, .int 0, .int 0, .int 0, .int 0, .int 0, .int 0])), (q5, .inr (1, [.int 31, .ref z9])), (z9, .inl (cs 1, 485, .inr (.inl (fun _ => 0)))), (q17, .inl (cs 4, 4, .inr (.inr (.inr (.inr (fun _ => none)))))), (q22, .inr (3, [.ref z29, .int (nI (FGl 0))])), (z29, .inl (cs 0, 6, .inl (gcp (FGf 0) (FGl 0))))]) rfl ?_
  refine j_aastore hc (w' := [(q, .inr (4, [.ref q5, .null, .null, .null, .int 0, .int 0, .int 0, .int 0, .int 0, .int 0, .int 0, .int 0])), (q5, .inr (1, [.int 31, .ref z9])), (z9, .inl (cs 1, 485, .inr (.inl (fun _ => 0)))), (q17, .inl (cs 4, 4, .inr (.inr (.inr (.inr (va_up (fun _ => none) 0 (some q22))))))), (q22, .inr (3, [.ref z29, .int (nI (FGl 0))])), (z29, .inl (cs 0, 6, .inl (gcp (FGf 0) (FGl 0))))]) 3 4 4 3 rfl rfl rfl rfl (n := 4) (vp_in_nI (n := 0) (N := 4) (by decide) (by decide)) rfl dX4_init_32 ?_
  refine j_dup hc dX4_init_33 rfl ?_
  refine j_iconst hc (v := 1) dX4_init_34 (by decide) ?_
  refine j_new hc (K := RX3) (T := TX3) (N := 2) (ci := 3) uw3 tyX3 tyX3_ok wt_37 wt_39 wt_3 rfl (fs := [.null, .int 0]) (fun j hj => by match j, hj with | 0, _ => rfl | 1, _ => rfl | j + 2, h => exact absurd h (by omega)) (Nat.le_of_ble_eq_true rfl) (Nat.le_of_ble_eq_true rfl) dX4_init_35 (fun q35 => ?_)
  refine j_w (w' := [(q, .inr (4, [.ref q5, .null, .null, .null, .int 0, .int 0, .int 0, .int 0, .int 0, .int 0, .int 0, .int 0])), (q5, .inr (1, [.int 31, .ref z9])), (z9, .inl (cs 1, 485, .inr (.inl (fun _ => 0)))), (q17, .inl (cs 4, 4, .inr (.inr (.inr (.inr (va_up (fun _ => none) 0 (some q22))))))), (q22, .inr (3, [.ref z29, .int (nI (FGl 0))])), (z29, .inl (cs 0, 6, .inl (gcp (FGf 0) (FGl 0)))), (q35, .inr (3, [.null, .int 0]))]) rfl ?_
  refine j_dup hc dX4_init_38 rfl ?_
  refine j_gets hc (hp2.2.2 1 (by decide)).1 wt_55 dX4_init_39 ?_
  refine j_callI hc (w := [(q, .inr (4, [.ref q5, .null, .null, .null, .int 0, .int 0, .int 0, .int 0, .int 0, .int 0, .int 0, .int 0])), (q5, .inr (1, [.int 31, .ref z9])), (z9, .inl (cs 1, 485, .inr (.inl (fun _ => 0)))), (q17, .inl (cs 4, 4, .inr (.inr (.inr (.inr (va_up (fun _ => none) 0 (some q22))))))), (q22, .inr (3, [.ref z29, .int (nI (FGl 0))])), (z29, .inl (cs 0, 6, .inl (gcp (FGf 0) (FGl 0)))), (q35, .inr (3, [.null, .int 0]))]) [(q, .inr (4, [.ref q5, .null, .null, .null, .int 0, .int 0, .int 0, .int 0, .int 0, .int 0, .int 0, .int 0])), (q5, .inr (1, [.int 31, .ref z9])), (z9, .inl (cs 1, 485, .inr (.inl (fun _ => 0)))), (q17, .inl (cs 4, 4, .inr (.inr (.inr (.inr (va_up (fun _ => none) 0 (some q22))))))), (q22, .inr (3, [.ref z29, .int (nI (FGl 0))])), (z29, .inl (cs 0, 6, .inl (gcp (FGf 0) (FGl 0))))] (c_X3_init (N := FGl 1) (f := FGf 1) (t := tt 1) hl (by decide)) ic_X4_22 (tabI_ok _ _ _) (hp2.2.2 1 (by decide)).2 rfl ⟨rfl, rfl, by decide, by decide⟩ rfl rfl (Nat.le_of_ble_eq_true rfl) ⟨by decide, by decide⟩ dX4_init_42 (fun z42 => ?_)
  refine j_w (w' := [(q, .inr (4, [.ref q5, .null, .null, .null, .int 0, .int 0, .int 0, .int 0, .int 0, .int 0, .int 0, .int 0])), (q5, .inr (1, [.int 31, .ref z9])), (z9, .inl (cs 1, 485, .inr (.inl (fun _ => 0)))), (q17, .inl (cs 4, 4, .inr (.inr (.inr (.inr (va_up (fun _ => none) 0 (some q22))))))), (q22, .inr (3, [.ref z29, .int (nI (FGl 0))])), (z29, .inl (cs 0, 6, .inl (gcp (FGf 0) (FGl 0)))), (q35, .inr (3, [.ref z42, .int (nI (FGl 1))])), (z42, .inl (cs 0, 6, .inl (gcp (FGf 1) (FGl 1))))]) rfl ?_
  refine j_aastore hc (w' := [(q, .inr (4, [.ref q5, .null, .null, .null, .int 0, .int 0, .int 0, .int 0, .int 0, .int 0, .int 0, .int 0])), (q5, .inr (1, [.int 31, .ref z9])), (z9, .inl (cs 1, 485, .inr (.inl (fun _ => 0)))), (q17, .inl (cs 4, 4, .inr (.inr (.inr (.inr (va_up (va_up (fun _ => none) 0 (some q22)) 1 (some q35))))))), (q22, .inr (3, [.ref z29, .int (nI (FGl 0))])), (z29, .inl (cs 0, 6, .inl (gcp (FGf 0) (FGl 0)))), (q35, .inr (3, [.ref z42, .int (nI (FGl 1))])), (z42, .inl (cs 0, 6, .inl (gcp (FGf 1) (FGl 1))))]) 3 4 6 3 rfl rfl rfl rfl (n := 4) (vp_in_nI (n := 1) (N := 4) (by decide) (by decide)) rfl dX4_init_45 ?_
  refine j_dup hc dX4_init_46 rfl ?_
  refine j_iconst hc (v := 2) dX4_init_47 (by decide) ?_
  refine j_new hc (K := RX3) (T := TX3) (N := 2) (ci := 3) uw3 tyX3 tyX3_ok wt_37 wt_39 wt_3 rfl (fs := [.null, .int 0]) (fun j hj => by match j, hj with | 0, _ => rfl | 1, _ => rfl | j + 2, h => exact absurd h (by omega)) (Nat.le_of_ble_eq_true rfl) (Nat.le_of_ble_eq_true rfl) dX4_init_48 (fun q48 => ?_)
  refine j_w (w' := [(q, .inr (4, [.ref q5, .null, .null, .null, .int 0, .int 0, .int 0, .int 0, .int 0, .int 0, .int 0, .int 0])), (q5, .inr (1, [.int 31, .ref z9])), (z9, .inl (cs 1, 485, .inr (.inl (fun _ => 0)))), (q17, .inl (cs 4, 4, .inr (.inr (.inr (.inr (va_up (va_up (fun _ => none) 0 (some q22)) 1 (some q35))))))), (q22, .inr (3, [.ref z29, .int (nI (FGl 0))])), (z29, .inl (cs 0, 6, .inl (gcp (FGf 0) (FGl 0)))), (q35, .inr (3, [.ref z42, .int (nI (FGl 1))])), (z42, .inl (cs 0, 6, .inl (gcp (FGf 1) (FGl 1)))), (q48, .inr (3, [.null, .int 0]))]) rfl ?_
  refine j_dup hc dX4_init_51 rfl ?_
  refine j_gets hc (hp2.2.2 2 (by decide)).1 wt_57 dX4_init_52 ?_
  refine j_callI hc (w := [(q, .inr (4, [.ref q5, .null, .null, .null, .int 0, .int 0, .int 0, .int 0, .int 0, .int 0, .int 0, .int 0])), (q5, .inr (1, [.int 31, .ref z9])), (z9, .inl (cs 1, 485, .inr (.inl (fun _ => 0)))), (q17, .inl (cs 4, 4, .inr (.inr (.inr (.inr (va_up (va_up (fun _ => none) 0 (some q22)) 1 (some q35))))))), (q22, .inr (3, [.ref z29, .int (nI (FGl 0))])), (z29, .inl (cs 0, 6, .inl (gcp (FGf 0) (FGl 0)))), (q35, .inr (3, [.ref z42, .int (nI (FGl 1))])), (z42, .inl (cs 0, 6, .inl (gcp (FGf 1) (FGl 1)))), (q48, .inr (3, [.null, .int 0]))]) [(q, .inr (4, [.ref q5, .null, .null, .null, .int 0, .int 0, .int 0, .int 0, .int 0, .int 0, .int 0, .int 0])), (q5, .inr (1, [.int 31, .ref z9])), (z9, .inl (cs 1, 485, .inr (.inl (fun _ => 0)))), (q17, .inl (cs 4, 4, .inr (.inr (.inr (.inr (va_up (va_up (fun _ => none) 0 (some q22)) 1 (some q35))))))), (q22, .inr (3, [.ref z29, .int (nI (FGl 0))])), (z29, .inl (cs 0, 6, .inl (gcp (FGf 0) (FGl 0)))), (q35, .inr (3, [.ref z42, .int (nI (FGl 1))])), (z42, .inl (cs 0, 6, .inl (gcp (FGf 1) (FGl 1))))] (c_X3_init (N := FGl 2) (f := FGf 2) (t := tt 2) hl (by decide)) ic_X4_22 (tabI_ok _ _ _) (hp2.2.2 2 (by decide)).2 rfl ⟨rfl, rfl, by decide, by decide⟩ rfl rfl (Nat.le_of_ble_eq_true rfl) ⟨by decide, by decide⟩ dX4_init_55 (fun z55 => ?_)
  refine j_w (w' := [(q, .inr (4, [.ref q5, .null, .null, .null, .int 0, .int 0, .int 0, .int 0, .int 0, .int 0, .int 0, .int 0])), (q5, .inr (1, [.int 31, .ref z9])), (z9, .inl (cs 1, 485, .inr (.inl (fun _ => 0)))), (q17, .inl (cs 4, 4, .inr (.inr (.inr (.inr (va_up (va_up (fun _ => none) 0 (some q22)) 1 (some q35))))))), (q22, .inr (3, [.ref z29, .int (nI (FGl 0))])), (z29, .inl (cs 0, 6, .inl (gcp (FGf 0) (FGl 0)))), (q35, .inr (3, [.ref z42, .int (nI (FGl 1))])), (z42, .inl (cs 0, 6, .inl (gcp (FGf 1) (FGl 1)))), (q48, .inr (3, [.ref z55, .int (nI (FGl 2))])), (z55, .inl (cs 0, 6, .inl (gcp (FGf 2) (FGl 2))))]) rfl ?_
  refine j_aastore hc (w' := [(q, .inr (4, [.ref q5, .null, .null, .null, .int 0, .int 0, .int 0, .int 0, .int 0, .int 0, .int 0, .int 0])), (q5, .inr (1, [.int 31, .ref z9])), (z9, .inl (cs 1, 485, .inr (.inl (fun _ => 0)))), (q17, .inl (cs 4, 4, .inr (.inr (.inr (.inr (va_up (va_up (va_up (fun _ => none) 0 (some q22)) 1 (some q35)) 2 (some q48))))))), (q22, .inr (3, [.ref z29, .int (nI (FGl 0))])), (z29, .inl (cs 0, 6, .inl (gcp (FGf 0) (FGl 0)))), (q35, .inr (3, [.ref z42, .int (nI (FGl 1))])), (z42, .inl (cs 0, 6, .inl (gcp (FGf 1) (FGl 1)))), (q48, .inr (3, [.ref z55, .int (nI (FGl 2))])), (z55, .inl (cs 0, 6, .inl (gcp (FGf 2) (FGl 2))))]) 3 4 8 3 rfl rfl rfl rfl (n := 4) (vp_in_nI (n := 2) (N := 4) (by decide) (by decide)) rfl dX4_init_58 ?_
  refine j_dup hc dX4_init_59 rfl ?_
  refine j_iconst hc (v := 3) dX4_init_60 (by decide) ?_
  refine j_new hc (K := RX3) (T := TX3) (N := 2) (ci := 3) uw3 tyX3 tyX3_ok wt_37 wt_39 wt_3 rfl (fs := [.null, .int 0]) (fun j hj => by match j, hj with | 0, _ => rfl | 1, _ => rfl | j + 2, h => exact absurd h (by omega)) (Nat.le_of_ble_eq_true rfl) (Nat.le_of_ble_eq_true rfl) dX4_init_61 (fun q61 => ?_)
  refine j_w (w' := [(q, .inr (4, [.ref q5, .null, .null, .null, .int 0, .int 0, .int 0, .int 0, .int 0, .int 0, .int 0, .int 0])), (q5, .inr (1, [.int 31, .ref z9])), (z9, .inl (cs 1, 485, .inr (.inl (fun _ => 0)))), (q17, .inl (cs 4, 4, .inr (.inr (.inr (.inr (va_up (va_up (va_up (fun _ => none) 0 (some q22)) 1 (some q35)) 2 (some q48))))))), (q22, .inr (3, [.ref z29, .int (nI (FGl 0))])), (z29, .inl (cs 0, 6, .inl (gcp (FGf 0) (FGl 0)))), (q35, .inr (3, [.ref z42, .int (nI (FGl 1))])), (z42, .inl (cs 0, 6, .inl (gcp (FGf 1) (FGl 1)))), (q48, .inr (3, [.ref z55, .int (nI (FGl 2))])), (z55, .inl (cs 0, 6, .inl (gcp (FGf 2) (FGl 2)))), (q61, .inr (3, [.null, .int 0]))]) rfl ?_
  refine j_dup hc dX4_init_64 rfl ?_
  refine j_gets hc (hp2.2.2 3 (by decide)).1 wt_59 dX4_init_65 ?_
  refine j_callI hc (w := [(q, .inr (4, [.ref q5, .null, .null, .null, .int 0, .int 0, .int 0, .int 0, .int 0, .int 0, .int 0, .int 0])), (q5, .inr (1, [.int 31, .ref z9])), (z9, .inl (cs 1, 485, .inr (.inl (fun _ => 0)))), (q17, .inl (cs 4, 4, .inr (.inr (.inr (.inr (va_up (va_up (va_up (fun _ => none) 0 (some q22)) 1 (some q35)) 2 (some q48))))))), (q22, .inr (3, [.ref z29, .int (nI (FGl 0))])), (z29, .inl (cs 0, 6, .inl (gcp (FGf 0) (FGl 0)))), (q35, .inr (3, [.ref z42, .int (nI (FGl 1))])), (z42, .inl (cs 0, 6, .inl (gcp (FGf 1) (FGl 1)))), (q48, .inr (3, [.ref z55, .int (nI (FGl 2))])), (z55, .inl (cs 0, 6, .inl (gcp (FGf 2) (FGl 2)))), (q61, .inr (3, [.null, .int 0]))]) [(q, .inr (4, [.ref q5, .null, .null, .null, .int 0, .int 0, .int 0, .int 0, .int 0, .int 0, .int 0, .int 0])), (q5, .inr (1, [.int 31, .ref z9])), (z9, .inl (cs 1, 485, .inr (.inl (fun _ => 0)))), (q17, .inl (cs 4, 4, .inr (.inr (.inr (.inr (va_up (va_up (va_up (fun _ => none) 0 (some q22)) 1 (some q35)) 2 (some q48))))))), (q22, .inr (3, [.ref z29, .int (nI (FGl 0))])), (z29, .inl (cs 0, 6, .inl (gcp (FGf 0) (FGl 0)))), (q35, .inr (3, [.ref z42, .int (nI (FGl 1))])), (z42, .inl (cs 0, 6, .inl (gcp (FGf 1) (FGl 1)))), (q48, .inr (3, [.ref z55, .int (nI (FGl 2))])), (z55, .inl (cs 0, 6, .inl (gcp (FGf 2) (FGl 2))))] (c_X3_init (N := FGl 3) (f := FGf 3) (t := tt 3) hl (by decide)) ic_X4_22 (tabI_ok _ _ _) (hp2.2.2 3 (by decide)).2 rfl ⟨rfl, rfl, by decide, by decide⟩ rfl rfl (Nat.le_of_ble_eq_true rfl) ⟨by decide, by decide⟩ dX4_init_68 (fun z68 => ?_)
  refine j_w (w' := [(q, .inr (4, [.ref q5, .null, .null, .null, .int 0, .int 0, .int 0, .int 0, .int 0, .int 0, .int 0, .int 0])), (q5, .inr (1, [.int 31, .ref z9])), (z9, .inl (cs 1, 485, .inr (.inl (fun _ => 0)))), (q17, .inl (cs 4, 4, .inr (.inr (.inr (.inr (va_up (va_up (va_up (fun _ => none) 0 (some q22)) 1 (some q35)) 2 (some q48))))))), (q22, .inr (3, [.ref z29, .int (nI (FGl 0))])), (z29, .inl (cs 0, 6, .inl (gcp (FGf 0) (FGl 0)))), (q35, .inr (3, [.ref z42, .int (nI (FGl 1))])), (z42, .inl (cs 0, 6, .inl (gcp (FGf 1) (FGl 1)))), (q48, .inr (3, [.ref z55, .int (nI (FGl 2))])), (z55, .inl (cs 0, 6, .inl (gcp (FGf 2) (FGl 2)))), (q61, .inr (3, [.ref z68, .int (nI (FGl 3))])), (z68, .inl (cs 0, 6, .inl (gcp (FGf 3) (FGl 3))))]) rfl ?_
  refine j_aastore hc (w' := [(q, .inr (4, [.ref q5, .null, .null, .null, .int 0, .int 0, .int 0, .int 0, .int 0, .int 0, .int 0, .int 0])), (q5, .inr (1, [.int 31, .ref z9])), (z9, .inl (cs 1, 485, .inr (.inl (fun _ => 0)))), (q17, .inl (cs 4, 4, .inr (.inr (.inr (.inr (va_up (va_up (va_up (va_up (fun _ => none) 0 (some q22)) 1 (some q35)) 2 (some q48)) 3 (some q61))))))), (q22, .inr (3, [.ref z29, .int (nI (FGl 0))])), (z29, .inl (cs 0, 6, .inl (gcp (FGf 0) (FGl 0)))), (q35, .inr (3, [.ref z42, .int (nI (FGl 1))])), (z42, .inl (cs 0, 6, .inl (gcp (FGf 1) (FGl 1)))), (q48, .inr (3, [.ref z55, .int (nI (FGl 2))])), (z55, .inl (cs 0, 6, .inl (gcp (FGf 2) (FGl 2)))), (q61, .inr (3, [.ref z68, .int (nI (FGl 3))])), (z68, .inl (cs 0, 6, .inl (gcp (FGf 3) (FGl 3))))]) 3 4 10 3 rfl rfl rfl rfl (n := 4) (vp_in_nI (n := 3) (N := 4) (by decide) (by decide)) rfl dX4_init_71 ?_
  refine j_putf hc (w' := [(q, .inr (4, [.ref q5, .ref q17, .null, .null, .int 0, .int 0, .int 0, .int 0, .int 0, .int 0, .int 0, .int 0])), (q5, .inr (1, [.int 31, .ref z9])), (z9, .inl (cs 1, 485, .inr (.inl (fun _ => 0)))), (q17, .inl (cs 4, 4, .inr (.inr (.inr (.inr (va_up (va_up (va_up (va_up (fun _ => none) 0 (some q22)) 1 (some q35)) 2 (some q48)) 3 (some q61))))))), (q22, .inr (3, [.ref z29, .int (nI (FGl 0))])), (z29, .inl (cs 0, 6, .inl (gcp (FGf 0) (FGl 0)))), (q35, .inr (3, [.ref z42, .int (nI (FGl 1))])), (z42, .inl (cs 0, 6, .inl (gcp (FGf 1) (FGl 1)))), (q48, .inr (3, [.ref z55, .int (nI (FGl 2))])), (z55, .inl (cs 0, 6, .inl (gcp (FGf 2) (FGl 2)))), (q61, .inr (3, [.ref z68, .int (nI (FGl 3))])), (z68, .inl (cs 0, 6, .inl (gcp (FGf 3) (FGl 3))))]) (K := RX4) (T := TX4) (N := 12) uw4 tyX4 tyX4_ok nmX4 0 rfl rfl 1 (by decide) wt_78 rfl (Or.inr ⟨rfl, hmn, rfl⟩) (ty := (.array (.object "CollectionsEngine$Gaps"))) rfl rfl rfl (Nat.le_of_ble_eq_true rfl) rfl dX4_init_72 ?_
  refine j_aload_n hc dX4_init_75 rfl ?_
  refine j_bipush hc (v := 30) dX4_init_76 (by decide) ?_
  refine j_newqBill hc wt_61 hB (N := 30) (by decide) rfl (Nat.le_of_ble_eq_true rfl) (Nat.le_of_ble_eq_true rfl) (Nat.le_of_ble_eq_true rfl) dX4_init_78 (fun q78 => ?_)
  refine j_w (w' := [(q, .inr (4, [.ref q5, .ref q17, .null, .null, .int 0, .int 0, .int 0, .int 0, .int 0, .int 0, .int 0, .int 0])), (q5, .inr (1, [.int 31, .ref z9])), (z9, .inl (cs 1, 485, .inr (.inl (fun _ => 0)))), (q17, .inl (cs 4, 4, .inr (.inr (.inr (.inr (va_up (va_up (va_up (va_up (fun _ => none) 0 (some q22)) 1 (some q35)) 2 (some q48)) 3 (some q61))))))), (q22, .inr (3, [.ref z29, .int (nI (FGl 0))])), (z29, .inl (cs 0, 6, .inl (gcp (FGf 0) (FGl 0)))), (q35, .inr (3, [.ref z42, .int (nI (FGl 1))])), (z42, .inl (cs 0, 6, .inl (gcp (FGf 1) (FGl 1)))), (q48, .inr (3, [.ref z55, .int (nI (FGl 2))])), (z55, .inl (cs 0, 6, .inl (gcp (FGf 2) (FGl 2)))), (q61, .inr (3, [.ref z68, .int (nI (FGl 3))])), (z68, .inl (cs 0, 6, .inl (gcp (FGf 3) (FGl 3)))), (q78, .inl (cs 3, 30, .inr (.inr (.inr (.inr (fun _ => none))))))]) rfl ?_
  refine j_putf hc (w' := [(q, .inr (4, [.ref q5, .ref q17, .ref q78, .null, .int 0, .int 0, .int 0, .int 0, .int 0, .int 0, .int 0, .int 0])), (q5, .inr (1, [.int 31, .ref z9])), (z9, .inl (cs 1, 485, .inr (.inl (fun _ => 0)))), (q17, .inl (cs 4, 4, .inr (.inr (.inr (.inr (va_up (va_up (va_up (va_up (fun _ => none) 0 (some q22)) 1 (some q35)) 2 (some q48)) 3 (some q61))))))), (q22, .inr (3, [.ref z29, .int (nI (FGl 0))])), (z29, .inl (cs 0, 6, .inl (gcp (FGf 0) (FGl 0)))), (q35, .inr (3, [.ref z42, .int (nI (FGl 1))])), (z42, .inl (cs 0, 6, .inl (gcp (FGf 1) (FGl 1)))), (q48, .inr (3, [.ref z55, .int (nI (FGl 2))])), (z55, .inl (cs 0, 6, .inl (gcp (FGf 2) (FGl 2)))), (q61, .inr (3, [.ref z68, .int (nI (FGl 3))])), (z68, .inl (cs 0, 6, .inl (gcp (FGf 3) (FGl 3)))), (q78, .inl (cs 3, 30, .inr (.inr (.inr (.inr (fun _ => none))))))]) (K := RX4) (T := TX4) (N := 12) uw4 tyX4 tyX4_ok nmX4 0 rfl rfl 2 (by decide) wt_79 rfl (Or.inr ⟨rfl, hmn, rfl⟩) (ty := (.array (.object "CollectionsEngine$Bill"))) rfl rfl rfl (Nat.le_of_ble_eq_true rfl) rfl dX4_init_81 ?_
  refine j_aload_n hc dX4_init_84 rfl ?_
  refine j_new hc (K := RX2) (T := TX2) (N := 2) (ci := 2) uw2 tyX2 tyX2_ok wt_63 wt_64 wt_4 rfl (fs := [.null, .int 0]) (fun j hj => by match j, hj with | 0, _ => rfl | 1, _ => rfl | j + 2, h => exact absurd h (by omega)) (Nat.le_of_ble_eq_true rfl) (Nat.le_of_ble_eq_true rfl) dX4_init_85 (fun q85 => ?_)
  refine j_w (w' := [(q, .inr (4, [.ref q5, .ref q17, .ref q78, .null, .int 0, .int 0, .int 0, .int 0, .int 0, .int 0, .int 0, .int 0])), (q5, .inr (1, [.int 31, .ref z9])), (z9, .inl (cs 1, 485, .inr (.inl (fun _ => 0)))), (q17, .inl (cs 4, 4, .inr (.inr (.inr (.inr (va_up (va_up (va_up (va_up (fun _ => none) 0 (some q22)) 1 (some q35)) 2 (some q48)) 3 (some q61))))))), (q22, .inr (3, [.ref z29, .int (nI (FGl 0))])), (z29, .inl (cs 0, 6, .inl (gcp (FGf 0) (FGl 0)))), (q35, .inr (3, [.ref z42, .int (nI (FGl 1))])), (z42, .inl (cs 0, 6, .inl (gcp (FGf 1) (FGl 1)))), (q48, .inr (3, [.ref z55, .int (nI (FGl 2))])), (z55, .inl (cs 0, 6, .inl (gcp (FGf 2) (FGl 2)))), (q61, .inr (3, [.ref z68, .int (nI (FGl 3))])), (z68, .inl (cs 0, 6, .inl (gcp (FGf 3) (FGl 3)))), (q78, .inl (cs 3, 30, .inr (.inr (.inr (.inr (fun _ => none)))))), (q85, .inr (2, [.null, .int 0]))]) rfl ?_
  refine j_dup hc dX4_init_88 rfl ?_
  refine j_callI hc (w := [(q, .inr (4, [.ref q5, .ref q17, .ref q78, .null, .int 0, .int 0, .int 0, .int 0, .int 0, .int 0, .int 0, .int 0])), (q5, .inr (1, [.int 31, .ref z9])), (z9, .inl (cs 1, 485, .inr (.inl (fun _ => 0)))), (q17, .inl (cs 4, 4, .inr (.inr (.inr (.inr (va_up (va_up (va_up (va_up (fun _ => none) 0 (some q22)) 1 (some q35)) 2 (some q48)) 3 (some q61))))))), (q22, .inr (3, [.ref z29, .int (nI (FGl 0))])), (z29, .inl (cs 0, 6, .inl (gcp (FGf 0) (FGl 0)))), (q35, .inr (3, [.ref z42, .int (nI (FGl 1))])), (z42, .inl (cs 0, 6, .inl (gcp (FGf 1) (FGl 1)))), (q48, .inr (3, [.ref z55, .int (nI (FGl 2))])), (z55, .inl (cs 0, 6, .inl (gcp (FGf 2) (FGl 2)))), (q61, .inr (3, [.ref z68, .int (nI (FGl 3))])), (z68, .inl (cs 0, 6, .inl (gcp (FGf 3) (FGl 3)))), (q78, .inl (cs 3, 30, .inr (.inr (.inr (.inr (fun _ => none)))))), (q85, .inr (2, [.null, .int 0]))]) [(q, .inr (4, [.ref q5, .ref q17, .ref q78, .null, .int 0, .int 0, .int 0, .int 0, .int 0, .int 0, .int 0, .int 0])), (q5, .inr (1, [.int 31, .ref z9])), (z9, .inl (cs 1, 485, .inr (.inl (fun _ => 0)))), (q17, .inl (cs 4, 4, .inr (.inr (.inr (.inr (va_up (va_up (va_up (va_up (fun _ => none) 0 (some q22)) 1 (some q35)) 2 (some q48)) 3 (some q61))))))), (q22, .inr (3, [.ref z29, .int (nI (FGl 0))])), (z29, .inl (cs 0, 6, .inl (gcp (FGf 0) (FGl 0)))), (q35, .inr (3, [.ref z42, .int (nI (FGl 1))])), (z42, .inl (cs 0, 6, .inl (gcp (FGf 1) (FGl 1)))), (q48, .inr (3, [.ref z55, .int (nI (FGl 2))])), (z55, .inl (cs 0, 6, .inl (gcp (FGf 2) (FGl 2)))), (q61, .inr (3, [.ref z68, .int (nI (FGl 3))])), (z68, .inl (cs 0, 6, .inl (gcp (FGf 3) (FGl 3)))), (q78, .inl (cs 3, 30, .inr (.inr (.inr (.inr (fun _ => none))))))] (c_X2_init hl) ic_X4_46 P2n_ok trivial rfl ⟨rfl, rfl, by decide, by decide⟩ rfl rfl (Nat.le_of_ble_eq_true rfl) ⟨by decide, by decide⟩ dX4_init_89 (fun z89 => ?_)
  refine j_w (w' := [(q, .inr (4, [.ref q5, .ref q17, .ref q78, .null, .int 0, .int 0, .int 0, .int 0, .int 0, .int 0, .int 0, .int 0])), (q5, .inr (1, [.int 31, .ref z9])), (z9, .inl (cs 1, 485, .inr (.inl (fun _ => 0)))), (q17, .inl (cs 4, 4, .inr (.inr (.inr (.inr (va_up (va_up (va_up (va_up (fun _ => none) 0 (some q22)) 1 (some q35)) 2 (some q48)) 3 (some q61))))))), (q22, .inr (3, [.ref z29, .int (nI (FGl 0))])), (z29, .inl (cs 0, 6, .inl (gcp (FGf 0) (FGl 0)))), (q35, .inr (3, [.ref z42, .int (nI (FGl 1))])), (z42, .inl (cs 0, 6, .inl (gcp (FGf 1) (FGl 1)))), (q48, .inr (3, [.ref z55, .int (nI (FGl 2))])), (z55, .inl (cs 0, 6, .inl (gcp (FGf 2) (FGl 2)))), (q61, .inr (3, [.ref z68, .int (nI (FGl 3))])), (z68, .inl (cs 0, 6, .inl (gcp (FGf 3) (FGl 3)))), (q78, .inl (cs 3, 30, .inr (.inr (.inr (.inr (fun _ => none)))))), (q85, .inr (2, [.ref z89, .int 0])), (z89, .inl (cs 0, 400, .inl (fun _ => 0)))]) rfl ?_
  refine j_putf hc (w' := [(q, .inr (4, [.ref q5, .ref q17, .ref q78, .ref q85, .int 0, .int 0, .int 0, .int 0, .int 0, .int 0, .int 0, .int 0])), (q5, .inr (1, [.int 31, .ref z9])), (z9, .inl (cs 1, 485, .inr (.inl (fun _ => 0)))), (q17, .inl (cs 4, 4, .inr (.inr (.inr (.inr (va_up (va_up (va_up (va_up (fun _ => none) 0 (some q22)) 1 (some q35)) 2 (some q48)) 3 (some q61))))))), (q22, .inr (3, [.ref z29, .int (nI (FGl 0))])), (z29, .inl (cs 0, 6, .inl (gcp (FGf 0) (FGl 0)))), (q35, .inr (3, [.ref z42, .int (nI (FGl 1))])), (z42, .inl (cs 0, 6, .inl (gcp (FGf 1) (FGl 1)))), (q48, .inr (3, [.ref z55, .int (nI (FGl 2))])), (z55, .inl (cs 0, 6, .inl (gcp (FGf 2) (FGl 2)))), (q61, .inr (3, [.ref z68, .int (nI (FGl 3))])), (z68, .inl (cs 0, 6, .inl (gcp (FGf 3) (FGl 3)))), (q78, .inl (cs 3, 30, .inr (.inr (.inr (.inr (fun _ => none)))))), (q85, .inr (2, [.ref z89, .int 0])), (z89, .inl (cs 0, 400, .inl (fun _ => 0)))]) (K := RX4) (T := TX4) (N := 12) uw4 tyX4 tyX4_ok nmX4 0 rfl rfl 3 (by decide) wt_80 rfl (Or.inr ⟨rfl, hmn, rfl⟩) (ty := (.object "CollectionsEngine$EventLog")) rfl rfl rfl (Nat.le_of_ble_eq_true rfl) rfl dX4_init_92 ?_
  refine j_aload_n hc dX4_init_95 rfl ?_
  refine j_bipush hc (v := 10) dX4_init_96 (by decide) ?_
  refine j_putf hc (w' := [(q, .inr (4, [.ref q5, .ref q17, .ref q78, .ref q85, .int 0, .int 0, .int 10, .int 0, .int 0, .int 0, .int 0, .int 0])), (q5, .inr (1, [.int 31, .ref z9])), (z9, .inl (cs 1, 485, .inr (.inl (fun _ => 0)))), (q17, .inl (cs 4, 4, .inr (.inr (.inr (.inr (va_up (va_up (va_up (va_up (fun _ => none) 0 (some q22)) 1 (some q35)) 2 (some q48)) 3 (some q61))))))), (q22, .inr (3, [.ref z29, .int (nI (FGl 0))])), (z29, .inl (cs 0, 6, .inl (gcp (FGf 0) (FGl 0)))), (q35, .inr (3, [.ref z42, .int (nI (FGl 1))])), (z42, .inl (cs 0, 6, .inl (gcp (FGf 1) (FGl 1)))), (q48, .inr (3, [.ref z55, .int (nI (FGl 2))])), (z55, .inl (cs 0, 6, .inl (gcp (FGf 2) (FGl 2)))), (q61, .inr (3, [.ref z68, .int (nI (FGl 3))])), (z68, .inl (cs 0, 6, .inl (gcp (FGf 3) (FGl 3)))), (q78, .inl (cs 3, 30, .inr (.inr (.inr (.inr (fun _ => none)))))), (q85, .inr (2, [.ref z89, .int 0])), (z89, .inl (cs 0, 400, .inl (fun _ => 0)))]) (K := RX4) (T := TX4) (N := 12) uw4 tyX4 tyX4_ok nmX4 0 rfl rfl 6 (by decide) wt_83 rfl (Or.inl rfl) (ty := .int) rfl rfl rfl (Nat.le_of_ble_eq_true rfl) rfl dX4_init_98 ?_
  refine j_aload_n hc dX4_init_101 rfl ?_
  refine j_bipush hc (v := 30) dX4_init_102 (by decide) ?_
  refine j_putf hc (w' := [(q, .inr (4, [.ref q5, .ref q17, .ref q78, .ref q85, .int 0, .int 0, .int 10, .int 30, .int 0, .int 0, .int 0, .int 0])), (q5, .inr (1, [.int 31, .ref z9])), (z9, .inl (cs 1, 485, .inr (.inl (fun _ => 0)))), (q17, .inl (cs 4, 4, .inr (.inr (.inr (.inr (va_up (va_up (va_up (va_up (fun _ => none) 0 (some q22)) 1 (some q35)) 2 (some q48)) 3 (some q61))))))), (q22, .inr (3, [.ref z29, .int (nI (FGl 0))])), (z29, .inl (cs 0, 6, .inl (gcp (FGf 0) (FGl 0)))), (q35, .inr (3, [.ref z42, .int (nI (FGl 1))])), (z42, .inl (cs 0, 6, .inl (gcp (FGf 1) (FGl 1)))), (q48, .inr (3, [.ref z55, .int (nI (FGl 2))])), (z55, .inl (cs 0, 6, .inl (gcp (FGf 2) (FGl 2)))), (q61, .inr (3, [.ref z68, .int (nI (FGl 3))])), (z68, .inl (cs 0, 6, .inl (gcp (FGf 3) (FGl 3)))), (q78, .inl (cs 3, 30, .inr (.inr (.inr (.inr (fun _ => none)))))), (q85, .inr (2, [.ref z89, .int 0])), (z89, .inl (cs 0, 400, .inl (fun _ => 0)))]) (K := RX4) (T := TX4) (N := 12) uw4 tyX4 tyX4_ok nmX4 0 rfl rfl 7 (by decide) wt_84 rfl (Or.inl rfl) (ty := .int) rfl rfl rfl (Nat.le_of_ble_eq_true rfl) rfl dX4_init_104 ?_
  refine j_ivret hc (⟨fun k => match k with | 0 => q | 1 => q5 | 2 => z9 | 3 => q17 | 4 => q22 | 5 => z29 | 6 => q35 | 7 => z42 | 8 => q48 | 9 => z55 | 10 => q61 | 11 => z68 | 12 => q78 | 13 => q85 | 14 => z89 | _ => 0, rfl⟩ : (Subtype fun ad : Nat → Nat => ad 0 = q)) rfl (by decide) (by decide) ?_ dX4_init_107
  have e1 : va_up (va_up (va_up (va_up (fun _ => none) 0 (some q22)) 1 (some q35)) 2 (some q48)) 3 (some q61) = gpf (fun k => match k with | 0 => q | 1 => q5 | 2 => z9 | 3 => q17 | 4 => q22 | 5 => z29 | 6 => q35 | 7 => z42 | 8 => q48 | 9 => z55 | 10 => q61 | 11 => z68 | 12 => q78 | 13 => q85 | 14 => z89 | _ => 0) := gpf4 (fun k => match k with | 0 => q | 1 => q5 | 2 => z9 | 3 => q17 | 4 => q22 | 5 => z29 | 6 => q35 | 7 => z42 | 8 => q48 | 9 => z55 | 10 => q61 | 11 => z68 | 12 => q78 | 13 => q85 | 14 => z89 | _ => 0)
  rw [e1, brf0 (fun k => match k with | 0 => q | 1 => q5 | 2 => z9 | 3 => q17 | 4 => q22 | 5 => z29 | 6 => q35 | 7 => z42 | 8 => q48 | 9 => z55 | 10 => q61 | 11 => z68 | 12 => q78 | 13 => q85 | 14 => z89 | _ => 0)]
  rfl
