section R13
variable {p : Program} {l : Launch} {e : Env} {R : Room} {s : State} {m : MethodId} {args : Array Value} {below : List Frame} {meth : Method} {c : Code} {D : va_G} {cs : Nat → ClassId} {sa : Nat → Nat} {A : Nat → Prop} {cc : ByteArray} {nL : Nat} {ret : Option FieldType} {cells slots : Nat} {Q : State → Prop} {pc : Nat} {lv : List (Nat × Value)} {st : List Value} {ad : Nat → Nat} {S : MS}
theorem gm_17 (hc : CX p l e R s m args below meth c D cs sa A cc nL RX5 ret) (hdg : decode cc pc = .ok (.getfield 17, 3)) (kk : J p l e R s m args below meth c D A nL cells slots Q (ML ad cs S) (pc + 3) lv (.ref (ad 18) :: st)) : J p l e R s m args below meth c D A nL cells slots Q (ML ad cs S) pc lv (.ref (ad 15) :: st) := j_getf hc (K := RX5) (T := TX5) (N := 26) uw5 0 rfl rfl 4 (by decide) wt_570 rfl rfl hdg kk
theorem am_4 (hc : CX p l e R s m args below meth c D cs sa A cc nL RX5 ret) {k x : Int32} (hin : vp_in k 30) (hdg : decode cc pc = .ok (.iastore, 1)) (kk : J p l e R s m args below meth c D A nL cells slots Q (ML ad cs (mA S 4 k.toNatClampNeg x)) (pc + 1) lv st) : J p l e R s m args below meth c D A nL cells slots Q (ML ad cs S) pc lv (.int x :: .int k :: .ref (ad 18) :: st) := j_iastore hc 3 rfl hin rfl hdg kk
theorem gm_20 (hc : CX p l e R s m args below meth c D cs sa A cc nL RX5 ret) (hdg : decode cc pc = .ok (.getfield 20, 3)) (kk : J p l e R s m args below meth c D A nL cells slots Q (ML ad cs S) (pc + 3) lv (.ref (ad 19) :: st)) : J p l e R s m args below meth c D A nL cells slots Q (ML ad cs S) pc lv (.ref (ad 15) :: st) := j_getf hc (K := RX5) (T := TX5) (N := 26) uw5 0 rfl rfl 5 (by decide) wt_571 rfl rfl hdg kk
theorem am_5 (hc : CX p l e R s m args below meth c D cs sa A cc nL RX5 ret) {k x : Int32} (hin : vp_in k 5) (hdg : decode cc pc = .ok (.iastore, 1)) (kk : J p l e R s m args below meth c D A nL cells slots Q (ML ad cs (mA S 5 k.toNatClampNeg x)) (pc + 1) lv st) : J p l e R s m args below meth c D A nL cells slots Q (ML ad cs S) pc lv (.int x :: .int k :: .ref (ad 19) :: st) := j_iastore hc 4 rfl hin rfl hdg kk
theorem gm_7 (hc : CX p l e R s m args below meth c D cs sa A cc nL RX5 ret) (hdg : decode cc pc = .ok (.getfield 7, 3)) (kk : J p l e R s m args below meth c D A nL cells slots Q (ML ad cs S) (pc + 3) lv (.ref (ad 16) :: st)) : J p l e R s m args below meth c D A nL cells slots Q (ML ad cs S) pc lv (.ref (ad 15) :: st) := j_getf hc (K := RX5) (T := TX5) (N := 26) uw5 0 rfl rfl 1 (by decide) wt_567 rfl rfl hdg kk
theorem am_1 (hc : CX p l e R s m args below meth c D cs sa A cc nL RX5 ret) {k x : Int32} (hin : vp_in k 7) (hdg : decode cc pc = .ok (.bastore, 1)) (kk : J p l e R s m args below meth c D A nL cells slots Q (ML ad cs (mA S 1 k.toNatClampNeg (vp_nar .boolean x))) (pc + 1) lv st) : J p l e R s m args below meth c D A nL cells slots Q (ML ad cs S) pc lv (.int x :: .int k :: .ref (ad 16) :: st) := j_zastore hc 1 rfl hin rfl hdg kk
theorem pm_63 (hc : CX p l e R s m args below meth c D cs sa A cc nL RX5 ret) {v : Int32} (hdg : decode cc pc = .ok (.putfield 63, 3)) (kk : J p l e R s m args below meth c D A nL cells slots Q (ML ad cs (mG S 6 v)) (pc + 3) lv st) : J p l e R s m args below meth c D A nL cells slots Q (ML ad cs S) pc lv (.int v :: .ref (ad 15) :: st) := j_putf hc (w' := (ML ad cs (mG S 6 v))) (K := RX5) (T := TX5) (N := 26) uw5 tyX5 tyX5_ok nmX5 0 rfl rfl 6 (by decide) wt_572 rfl (Or.inl rfl) (ty := .int) rfl rfl rfl (Nat.le_of_ble_eq_true rfl) rfl hdg kk
theorem pm_67 (hc : CX p l e R s m args below meth c D cs sa A cc nL RX5 ret) {v : Int32} (hdg : decode cc pc = .ok (.putfield 67, 3)) (kk : J p l e R s m args below meth c D A nL cells slots Q (ML ad cs (mG S 7 v)) (pc + 3) lv st) : J p l e R s m args below meth c D A nL cells slots Q (ML ad cs S) pc lv (.int v :: .ref (ad 15) :: st) := j_putf hc (w' := (ML ad cs (mG S 7 v))) (K := RX5) (T := TX5) (N := 26) uw5 tyX5 tyX5_ok nmX5 0 rfl rfl 7 (by decide) wt_573 rfl (Or.inl rfl) (ty := .int) rfl rfl rfl (Nat.le_of_ble_eq_true rfl) rfl hdg kk
end R13
def m_gaps (S : MS) (r : Nat) (f s t : Int32) : MS := mA (mA (mA (mA S 4 (6 * r) f) 4 (6 * r + 1) s) 4 (6 * r + 2) t) 5 r (if t ≤ 0 then 2 else 3)
theorem nI_2 (n : Nat) : nI n + 2 = nI (n + 2) := by
  rw [← nI_1 (n + 1), ← nI_1 n, Int32.add_assoc]; rfl
set_option maxRecDepth 100000 in
set_option maxHeartbeats 4000000 in
theorem c_X5_addGaps {l : Launch} {D : va_G} {cs : Nat → ClassId} {sa : Nat → Nat} (hl : l.stackTraces = false)  {ad : Nat → Nat} {S : MS} {r : Nat} {k f s t : Int32} (hr : r < 5 ∧ k = nI r) : CM l D cs sa yX5_addGaps cX5_addGaps 5 (Option.none : Option Jvm.ClassFile.FieldType) (RM 1 0 0) 0 0 [.ref (ad 15), .int k, .int f, .int s, .int t] (ML ad cs S) ((none, none, ML ad cs (m_gaps S r f s t)) ) := by
  refine CM.of RX5 hl (by decide +kernel) rfl (Nat.le_of_ble_eq_true rfl) ?_
  intro p e s m args below meth c A hc ho hmn
  obtain ⟨hr5, hrr⟩ := hr
  subst hrr
  have m0 : (6 : Int32) * nI r = nI (6 * r) := (show ∀ r, r < 5 → (6 : Int32) * nI r = nI (6 * r) by decide) r hr5
  have m1 : (6 : Int32) * nI r + 1 = nI (6 * r + 1) := by rw [m0]; exact nI_1 _
  have m2 : (6 : Int32) * nI r + 2 = nI (6 * r + 2) := by rw [m0]; exact nI_2 _
  have c0 : ((6 : Int32) * nI r).toNatClampNeg = 6 * r := by rw [m0]; exact nI_clamp (by omega)
  have c1 : ((6 : Int32) * nI r + 1).toNatClampNeg = 6 * r + 1 := by rw [m1]; exact nI_clamp (by omega)
  have c2 : ((6 : Int32) * nI r + 2).toNatClampNeg = 6 * r + 2 := by rw [m2]; exact nI_clamp (by omega)
  have c5 : (nI r).toNatClampNeg = r := nI_clamp (by omega)
  refine j_aload_n hc dX5_addGaps_0 rfl ?_
  refine gm_17 hc dX5_addGaps_1 ?_
  refine j_bipush hc (v := 6) dX5_addGaps_4 (by decide) ?_
  refine j_iload_n hc dX5_addGaps_6 rfl ?_
  refine j_imul hc dX5_addGaps_7 ?_
  refine j_iload_n hc dX5_addGaps_8 rfl ?_
  refine am_4 hc (by rw [m0]; exact vp_in_nI (by omega) (by decide)) dX5_addGaps_9 ?_
  refine j_aload_n hc dX5_addGaps_10 rfl ?_
  refine gm_17 hc dX5_addGaps_11 ?_
  refine j_bipush hc (v := 6) dX5_addGaps_14 (by decide) ?_
  refine j_iload_n hc dX5_addGaps_16 rfl ?_
  refine j_imul hc dX5_addGaps_17 ?_
  refine j_iconst hc (v := 1) dX5_addGaps_18 (by decide) ?_
  refine j_iadd hc dX5_addGaps_19 ?_
  refine j_iload_n hc dX5_addGaps_20 rfl ?_
  refine am_4 hc (by rw [m1]; exact vp_in_nI (by omega) (by decide)) dX5_addGaps_21 ?_
  refine j_aload_n hc dX5_addGaps_22 rfl ?_
  refine gm_17 hc dX5_addGaps_23 ?_
  refine j_bipush hc (v := 6) dX5_addGaps_26 (by decide) ?_
  refine j_iload_n hc dX5_addGaps_28 rfl ?_
  refine j_imul hc dX5_addGaps_29 ?_
  refine j_iconst hc (v := 2) dX5_addGaps_30 (by decide) ?_
  refine j_iadd hc dX5_addGaps_31 ?_
  refine j_iload hc dX5_addGaps_32 rfl ?_
  refine am_4 hc (by rw [m2]; exact vp_in_nI (by omega) (by decide)) dX5_addGaps_34 ?_
  refine j_aload_n hc dX5_addGaps_35 rfl ?_
  refine gm_20 hc dX5_addGaps_36 ?_
  refine j_iload_n hc dX5_addGaps_39 rfl ?_
  refine j_iload hc dX5_addGaps_40 rfl ?_
  refine j_if_le hc 49 dX5_addGaps_42 (by decide) (fun h => ?_) (fun h => ?_)
  · refine j_iconst hc (v := 2) dX5_addGaps_49 (by decide) ?_
    refine am_5 hc (vp_in_nI hr5 (by decide)) dX5_addGaps_50 ?_
    exact j_vret hc rfl (by decide) (by decide) (by rw [m_gaps, if_pos h, c0, c1, c2, c5]) dX5_addGaps_51
  · refine j_iconst hc (v := 3) dX5_addGaps_45 (by decide) ?_
    refine j_goto hc 50 dX5_addGaps_46 (by decide) ?_
    refine am_5 hc (vp_in_nI hr5 (by decide)) dX5_addGaps_50 ?_
    exact j_vret hc rfl (by decide) (by decide) (by rw [m_gaps, if_neg h, c0, c1, c2, c5]) dX5_addGaps_51
def SW (i : Nat) : MS := (fun _ => 0, va_up (fun _ _ => 0) 1 (gcp (fun _ => 1) i))
theorem SW_0 : ((fun _ => 0, fun _ _ => 0) : MS) = SW 0 := by
  unfold SW
  rw [← gcp_0]
  refine congrArg (Prod.mk _) (funext fun k => ?_)
  by_cases h : k = 1
  · rw [h]; rfl
  · rw [va_up, if_neg h]
theorem SW_s (i : Nat) : mA (SW i) 1 i (vp_nar .boolean 1) = SW (i + 1) := by
  unfold SW mA up2
  refine congrArg (Prod.mk _) (funext fun k => ?_)
  by_cases h : k = 1
  · subst h; simp only [va_up, if_true]; exact gcp_s _ i
  · simp only [va_up, if_neg h]
/-- the reference's numbers when it is new -/
def S0 : MS := mG (mG (mA (mA (m_gaps (m_gaps (m_gaps (SW 5) 1 3 5 7) 2 7 7 0) 4 1 1 1) 4 27 1) 5 4 4) 6 10) 7 30
set_option maxRecDepth 100000 in
set_option maxHeartbeats 4000000 in
theorem c_X5_init {l : Launch} {D : va_G} {cs : Nat → ClassId} {sa : Nat → Nat} (hl : l.stackTraces = false)  {q : Nat} : EI l D cs sa P2n yX5_init cX5_init 2 (RM 2 16 1916) 16 1916 [.ref q] [(q, .inr (5, [.int 0, .null, .null, .int 0, .null, .null, .int 0, .int 0, .int 0, .null, .null, .null, .null, .null, .null, .null, .null, .null, .null, .null, .int 0, .int 0, .int 0, .null, .int 0, .int 0]))] (X := Subtype fun ad : Nat → Nat => ad 15 = q) (fun x => ML x.1 cs S0) := by
  refine EI.of RX5 hl (by decide +kernel) rfl (Nat.le_of_ble_eq_true rfl) ?_
  intro p e s m args below meth c A hc hmn hp2
  refine j_aload_n hc dX5_init_0 rfl ?_
  refine j_objInit hc wt_561 wt_21 wt_22 dX5_init_1 (by decide) (Nat.le_of_ble_eq_true rfl) ?_
  refine j_aload_n hc dX5_init_4 rfl ?_
  refine j_bipush hc (v := 7) dX5_init_5 (by decide) ?_
  refine j_newaZ hc (N := 7) (by decide) rfl (Nat.le_of_ble_eq_true rfl) (Nat.le_of_ble_eq_true rfl) (Nat.le_of_ble_eq_true rfl) dX5_init_7 (fun q7 => ?_)
  refine j_w (w' := [(q, .inr (5, [.int 0, .null, .null, .int 0, .null, .null, .int 0, .int 0, .int 0, .null, .null, .null, .null, .null, .null, .null, .null, .null, .null, .null, .int 0, .int 0, .int 0, .null, .int 0, .int 0])), (q7, .inl (cs 2, 7, .inl (fun _ => 0)))]) rfl ?_
  refine j_putf hc (w' := [(q, .inr (5, [.int 0, .ref q7, .null, .int 0, .null, .null, .int 0, .int 0, .int 0, .null, .null, .null, .null, .null, .null, .null, .null, .null, .null, .null, .int 0, .int 0, .int 0, .null, .int 0, .int 0])), (q7, .inl (cs 2, 7, .inl (fun _ => 0)))]) (K := RX5) (T := TX5) (N := 26) uw5 tyX5 tyX5_ok nmX5 0 rfl rfl 1 (by decide) wt_567 rfl (Or.inr ⟨rfl, hmn, rfl⟩) (ty := (.array .boolean)) rfl rfl rfl (Nat.le_of_ble_eq_true rfl) rfl dX5_init_9 ?_
  refine j_aload_n hc dX5_init_12 rfl ?_
  refine j_sipush hc (v := 1024) dX5_init_13 (by decide) ?_
  refine j_newaI hc (N := 1024) (by decide) rfl (Nat.le_of_ble_eq_true rfl) (Nat.le_of_ble_eq_true rfl) (Nat.le_of_ble_eq_true rfl) dX5_init_16 (fun q16 => ?_)
  refine j_w (w' := [(q, .inr (5, [.int 0, .ref q7, .null, .int 0, .null, .null, .int 0, .int 0, .int 0, .null, .null, .null, .null, .null, .null, .null, .null, .null, .null, .null, .int 0, .int 0, .int 0, .null, .int 0, .int 0])), (q7, .inl (cs 2, 7, .inl (fun _ => 0))), (q16, .inl (cs 0, 1024, .inl (fun _ => 0)))]) rfl ?_
  refine j_putf hc (w' := [(q, .inr (5, [.int 0, .ref q7, .ref q16, .int 0, .null, .null, .int 0, .int 0, .int 0, .null, .null, .null, .null, .null, .null, .null, .null, .null, .null, .null, .int 0, .int 0, .int 0, .null, .int 0, .int 0])), (q7, .inl (cs 2, 7, .inl (fun _ => 0))), (q16, .inl (cs 0, 1024, .inl (fun _ => 0)))]) (K := RX5) (T := TX5) (N := 26) uw5 tyX5 tyX5_ok nmX5 0 rfl rfl 2 (by decide) wt_568 rfl (Or.inr ⟨rfl, hmn, rfl⟩) (ty := (.array .int)) rfl rfl rfl (Nat.le_of_ble_eq_true rfl) rfl dX5_init_18 ?_
  refine j_aload_n hc dX5_init_21 rfl ?_
  refine j_bipush hc (v := 30) dX5_init_22 (by decide) ?_
  refine j_newaI hc (N := 30) (by decide) rfl (Nat.le_of_ble_eq_true rfl) (Nat.le_of_ble_eq_true rfl) (Nat.le_of_ble_eq_true rfl) dX5_init_24 (fun q24 => ?_)
  refine j_w (w' := [(q, .inr (5, [.int 0, .ref q7, .ref q16, .int 0, .null, .null, .int 0, .int 0, .int 0, .null, .null, .null, .null, .null, .null, .null, .null, .null, .null, .null, .int 0, .int 0, .int 0, .null, .int 0, .int 0])), (q7, .inl (cs 2, 7, .inl (fun _ => 0))), (q16, .inl (cs 0, 1024, .inl (fun _ => 0))), (q24, .inl (cs 0, 30, .inl (fun _ => 0)))]) rfl ?_
  refine j_putf hc (w' := [(q, .inr (5, [.int 0, .ref q7, .ref q16, .int 0, .ref q24, .null, .int 0, .int 0, .int 0, .null, .null, .null, .null, .null, .null, .null, .null, .null, .null, .null, .int 0, .int 0, .int 0, .null, .int 0, .int 0])), (q7, .inl (cs 2, 7, .inl (fun _ => 0))), (q16, .inl (cs 0, 1024, .inl (fun _ => 0))), (q24, .inl (cs 0, 30, .inl (fun _ => 0)))]) (K := RX5) (T := TX5) (N := 26) uw5 tyX5 tyX5_ok nmX5 0 rfl rfl 4 (by decide) wt_570 rfl (Or.inr ⟨rfl, hmn, rfl⟩) (ty := (.array .int)) rfl rfl rfl (Nat.le_of_ble_eq_true rfl) rfl dX5_init_26 ?_
  refine j_aload_n hc dX5_init_29 rfl ?_
  refine j_iconst hc (v := 5) dX5_init_30 (by decide) ?_
  refine j_newaI hc (N := 5) (by decide) rfl (Nat.le_of_ble_eq_true rfl) (Nat.le_of_ble_eq_true rfl) (Nat.le_of_ble_eq_true rfl) dX5_init_31 (fun q31 => ?_)
  refine j_w (w' := [(q, .inr (5, [.int 0, .ref q7, .ref q16, .int 0, .ref q24, .null, .int 0, .int 0, .int 0, .null, .null, .null, .null, .null, .null, .null, .null, .null, .null, .null, .int 0, .int 0, .int 0, .null, .int 0, .int 0])), (q7, .inl (cs 2, 7, .inl (fun _ => 0))), (q16, .inl (cs 0, 1024, .inl (fun _ => 0))), (q24, .inl (cs 0, 30, .inl (fun _ => 0))), (q31, .inl (cs 0, 5, .inl (fun _ => 0)))]) rfl ?_
  refine j_putf hc (w' := [(q, .inr (5, [.int 0, .ref q7, .ref q16, .int 0, .ref q24, .ref q31, .int 0, .int 0, .int 0, .null, .null, .null, .null, .null, .null, .null, .null, .null, .null, .null, .int 0, .int 0, .int 0, .null, .int 0, .int 0])), (q7, .inl (cs 2, 7, .inl (fun _ => 0))), (q16, .inl (cs 0, 1024, .inl (fun _ => 0))), (q24, .inl (cs 0, 30, .inl (fun _ => 0))), (q31, .inl (cs 0, 5, .inl (fun _ => 0)))]) (K := RX5) (T := TX5) (N := 26) uw5 tyX5 tyX5_ok nmX5 0 rfl rfl 5 (by decide) wt_571 rfl (Or.inr ⟨rfl, hmn, rfl⟩) (ty := (.array .int)) rfl rfl rfl (Nat.le_of_ble_eq_true rfl) rfl dX5_init_33 ?_
  refine j_aload_n hc dX5_init_36 rfl ?_
  refine j_bipush hc (v := 30) dX5_init_37 (by decide) ?_
  refine j_newaI hc (N := 30) (by decide) rfl (Nat.le_of_ble_eq_true rfl) (Nat.le_of_ble_eq_true rfl) (Nat.le_of_ble_eq_true rfl) dX5_init_39 (fun q39 => ?_)
  refine j_w (w' := [(q, .inr (5, [.int 0, .ref q7, .ref q16, .int 0, .ref q24, .ref q31, .int 0, .int 0, .int 0, .null, .null, .null, .null, .null, .null, .null, .null, .null, .null, .null, .int 0, .int 0, .int 0, .null, .int 0, .int 0])), (q7, .inl (cs 2, 7, .inl (fun _ => 0))), (q16, .inl (cs 0, 1024, .inl (fun _ => 0))), (q24, .inl (cs 0, 30, .inl (fun _ => 0))), (q31, .inl (cs 0, 5, .inl (fun _ => 0))), (q39, .inl (cs 0, 30, .inl (fun _ => 0)))]) rfl ?_
  refine j_putf hc (w' := [(q, .inr (5, [.int 0, .ref q7, .ref q16, .int 0, .ref q24, .ref q31, .int 0, .int 0, .int 0, .ref q39, .null, .null, .null, .null, .null, .null, .null, .null, .null, .null, .int 0, .int 0, .int 0, .null, .int 0, .int 0])), (q7, .inl (cs 2, 7, .inl (fun _ => 0))), (q16, .inl (cs 0, 1024, .inl (fun _ => 0))), (q24, .inl (cs 0, 30, .inl (fun _ => 0))), (q31, .inl (cs 0, 5, .inl (fun _ => 0))), (q39, .inl (cs 0, 30, .inl (fun _ => 0)))]) (K := RX5) (T := TX5) (N := 26) uw5 tyX5 tyX5_ok nmX5 0 rfl rfl 9 (by decide) wt_575 rfl (Or.inr ⟨rfl, hmn, rfl⟩) (ty := (.array .int)) rfl rfl rfl (Nat.le_of_ble_eq_true rfl) rfl dX5_init_41 ?_
  refine j_aload_n hc dX5_init_44 rfl ?_
  refine j_bipush hc (v := 30) dX5_init_45 (by decide) ?_
  refine j_newaI hc (N := 30) (by decide) rfl (Nat.le_of_ble_eq_true rfl) (Nat.le_of_ble_eq_true rfl) (Nat.le_of_ble_eq_true rfl) dX5_init_47 (fun q47 => ?_)
  refine j_w (w' := [(q, .inr (5, [.int 0, .ref q7, .ref q16, .int 0, .ref q24, .ref q31, .int 0, .int 0, .int 0, .ref q39, .null, .null, .null, .null, .null, .null, .null, .null, .null, .null, .int 0, .int 0, .int 0, .null, .int 0, .int 0])), (q7, .inl (cs 2, 7, .inl (fun _ => 0))), (q16, .inl (cs 0, 1024, .inl (fun _ => 0))), (q24, .inl (cs 0, 30, .inl (fun _ => 0))), (q31, .inl (cs 0, 5, .inl (fun _ => 0))), (q39, .inl (cs 0, 30, .inl (fun _ => 0))), (q47, .inl (cs 0, 30, .inl (fun _ => 0)))]) rfl ?_
  refine j_putf hc (w' := [(q, .inr (5, [.int 0, .ref q7, .ref q16, .int 0, .ref q24, .ref q31, .int 0, .int 0, .int 0, .ref q39, .ref q47, .null, .null, .null, .null, .null, .null, .null, .null, .null, .int 0, .int 0, .int 0, .null, .int 0, .int 0])), (q7, .inl (cs 2, 7, .inl (fun _ => 0))), (q16, .inl (cs 0, 1024, .inl (fun _ => 0))), (q24, .inl (cs 0, 30, .inl (fun _ => 0))), (q31, .inl (cs 0, 5, .inl (fun _ => 0))), (q39, .inl (cs 0, 30, .inl (fun _ => 0))), (q47, .inl (cs 0, 30, .inl (fun _ => 0)))]) (K := RX5) (T := TX5) (N := 26) uw5 tyX5 tyX5_ok nmX5 0 rfl rfl 10 (by decide) wt_576 rfl (Or.inr ⟨rfl, hmn, rfl⟩) (ty := (.array .int)) rfl rfl rfl (Nat.le_of_ble_eq_true rfl) rfl dX5_init_49 ?_
  refine j_aload_n hc dX5_init_52 rfl ?_
  refine j_bipush hc (v := 30) dX5_init_53 (by decide) ?_
  refine j_newaI hc (N := 30) (by decide) rfl (Nat.le_of_ble_eq_true rfl) (Nat.le_of_ble_eq_true rfl) (Nat.le_of_ble_eq_true rfl) dX5_init_55 (fun q55 => ?_)
  refine j_w (w' := [(q, .inr (5, [.int 0, .ref q7, .ref q16, .int 0, .ref q24, .ref q31, .int 0, .int 0, .int 0, .ref q39, .ref q47, .null, .null, .null, .null, .null, .null, .null, .null, .null, .int 0, .int 0, .int 0, .null, .int 0, .int 0])), (q7, .inl (cs 2, 7, .inl (fun _ => 0))), (q16, .inl (cs 0, 1024, .inl (fun _ => 0))), (q24, .inl (cs 0, 30, .inl (fun _ => 0))), (q31, .inl (cs 0, 5, .inl (fun _ => 0))), (q39, .inl (cs 0, 30, .inl (fun _ => 0))), (q47, .inl (cs 0, 30, .inl (fun _ => 0))), (q55, .inl (cs 0, 30, .inl (fun _ => 0)))]) rfl ?_
  refine j_putf hc (w' := [(q, .inr (5, [.int 0, .ref q7, .ref q16, .int 0, .ref q24, .ref q31, .int 0, .int 0, .int 0, .ref q39, .ref q47, .ref q55, .null, .null, .null, .null, .null, .null, .null, .null, .int 0, .int 0, .int 0, .null, .int 0, .int 0])), (q7, .inl (cs 2, 7, .inl (fun _ => 0))), (q16, .inl (cs 0, 1024, .inl (fun _ => 0))), (q24, .inl (cs 0, 30, .inl (fun _ => 0))), (q31, .inl (cs 0, 5, .inl (fun _ => 0))), (q39, .inl (cs 0, 30, .inl (fun _ => 0))), (q47, .inl (cs 0, 30, .inl (fun _ => 0))), (q55, .inl (cs 0, 30, .inl (fun _ => 0)))]) (K := RX5) (T := TX5) (N := 26) uw5 tyX5 tyX5_ok nmX5 0 rfl rfl 11 (by decide) wt_577 rfl (Or.inr ⟨rfl, hmn, rfl⟩) (ty := (.array .int)) rfl rfl rfl (Nat.le_of_ble_eq_true rfl) rfl dX5_init_57 ?_
  refine j_aload_n hc dX5_init_60 rfl ?_
  refine j_bipush hc (v := 30) dX5_init_61 (by decide) ?_
  refine j_newaI hc (N := 30) (by decide) rfl (Nat.le_of_ble_eq_true rfl) (Nat.le_of_ble_eq_true rfl) (Nat.le_of_ble_eq_true rfl) dX5_init_63 (fun q63 => ?_)
  refine j_w (w' := [(q, .inr (5, [.int 0, .ref q7, .ref q16, .int 0, .ref q24, .ref q31, .int 0, .int 0, .int 0, .ref q39, .ref q47, .ref q55, .null, .null, .null, .null, .null, .null, .null, .null, .int 0, .int 0, .int 0, .null, .int 0, .int 0])), (q7, .inl (cs 2, 7, .inl (fun _ => 0))), (q16, .inl (cs 0, 1024, .inl (fun _ => 0))), (q24, .inl (cs 0, 30, .inl (fun _ => 0))), (q31, .inl (cs 0, 5, .inl (fun _ => 0))), (q39, .inl (cs 0, 30, .inl (fun _ => 0))), (q47, .inl (cs 0, 30, .inl (fun _ => 0))), (q55, .inl (cs 0, 30, .inl (fun _ => 0))), (q63, .inl (cs 0, 30, .inl (fun _ => 0)))]) rfl ?_
  refine j_putf hc (w' := [(q, .inr (5, [.int 0, .ref q7, .ref q16, .int 0, .ref q24, .ref q31, .int 0, .int 0, .int 0, .ref q39, .ref q47, .ref q55, .ref q63, .null, .null, .null, .null, .null, .null, .null, .int 0, .int 0, .int 0, .null, .int 0, .int 0])), (q7, .inl (cs 2, 7, .inl (fun _ => 0))), (q16, .inl (cs 0, 1024, .inl (fun _ => 0))), (q24, .inl (cs 0, 30, .inl (fun _ => 0))), (q31, .inl (cs 0, 5, .inl (fun _ => 0))), (q39, .inl (cs 0, 30, .inl (fun _ => 0))), (q47, .inl (cs 0, 30, .inl (fun _ => 0))), (q55, .inl (cs 0, 30, .inl (fun _ => 0))), (q63, .inl (cs 0, 30, .inl (fun _ => 0)))]) (K := RX5) (T := TX5) (N := 26) uw5 tyX5 tyX5_ok nmX5 0 rfl rfl 12 (by decide) wt_578 rfl (Or.inr ⟨rfl, hmn, rfl⟩) (ty := (.array .int)) rfl rfl rfl (Nat.le_of_ble_eq_true rfl) rfl dX5_init_65 ?_
  refine j_aload_n hc dX5_init_68 rfl ?_
  refine j_bipush hc (v := 30) dX5_init_69 (by decide) ?_
  refine j_newaI hc (N := 30) (by decide) rfl (Nat.le_of_ble_eq_true rfl) (Nat.le_of_ble_eq_true rfl) (Nat.le_of_ble_eq_true rfl) dX5_init_71 (fun q71 => ?_)
  refine j_w (w' := [(q, .inr (5, [.int 0, .ref q7, .ref q16, .int 0, .ref q24, .ref q31, .int 0, .int 0, .int 0, .ref q39, .ref q47, .ref q55, .ref q63, .null, .null, .null, .null, .null, .null, .null, .int 0, .int 0, .int 0, .null, .int 0, .int 0])), (q7, .inl (cs 2, 7, .inl (fun _ => 0))), (q16, .inl (cs 0, 1024, .inl (fun _ => 0))), (q24, .inl (cs 0, 30, .inl (fun _ => 0))), (q31, .inl (cs 0, 5, .inl (fun _ => 0))), (q39, .inl (cs 0, 30, .inl (fun _ => 0))), (q47, .inl (cs 0, 30, .inl (fun _ => 0))), (q55, .inl (cs 0, 30, .inl (fun _ => 0))), (q63, .inl (cs 0, 30, .inl (fun _ => 0))), (q71, .inl (cs 0, 30, .inl (fun _ => 0)))]) rfl ?_
  refine j_putf hc (w' := [(q, .inr (5, [.int 0, .ref q7, .ref q16, .int 0, .ref q24, .ref q31, .int 0, .int 0, .int 0, .ref q39, .ref q47, .ref q55, .ref q63, .ref q71, .null, .null, .null, .null, .null, .null, .int 0, .int 0, .int 0, .null, .int 0, .int 0])), (q7, .inl (cs 2, 7, .inl (fun _ => 0))), (q16, .inl (cs 0, 1024, .inl (fun _ => 0))), (q24, .inl (cs 0, 30, .inl (fun _ => 0))), (q31, .inl (cs 0, 5, .inl (fun _ => 0))), (q39, .inl (cs 0, 30, .inl (fun _ => 0))), (q47, .inl (cs 0, 30, .inl (fun _ => 0))), (q55, .inl (cs 0, 30, .inl (fun _ => 0))), (q63, .inl (cs 0, 30, .inl (fun _ => 0))), (q71, .inl (cs 0, 30, .inl (fun _ => 0)))]) (K := RX5) (T := TX5) (N := 26) uw5 tyX5 tyX5_ok nmX5 0 rfl rfl 13 (by decide) wt_579 rfl (Or.inr ⟨rfl, hmn, rfl⟩) (ty := (.array .int)) rfl rfl rfl (Nat.le_of_ble_eq_true rfl) rfl dX5_init_73 ?_
  refine j_aload_n hc dX5_init_76 rfl ?_
  refine j_bipush hc (v := 30) dX5_init_77 (by decide) ?_
  refine j_newaI hc (N := 30) (by decide) rfl (Nat.le_of_ble_eq_true rfl) (Nat.le_of_ble_eq_true rfl) (Nat.le_of_ble_eq_true rfl) dX5_init_79 (fun q79 => ?_)
  refine j_w (w' := [(q, .inr (5, [.int 0, .ref q7, .ref q16, .int 0, .ref q24, .ref q31, .int 0, .int 0, .int 0, .ref q39, .ref q47, .ref q55, .ref q63, .ref q71, .null, .null, .null, .null, .null, .null, .int 0, .int 0, .int 0, .null, .int 0, .int 0])), (q7, .inl (cs 2, 7, .inl (fun _ => 0))), (q16, .inl (cs 0, 1024, .inl (fun _ => 0))), (q24, .inl (cs 0, 30, .inl (fun _ => 0))), (q31, .inl (cs 0, 5, .inl (fun _ => 0))), (q39, .inl (cs 0, 30, .inl (fun _ => 0))), (q47, .inl (cs 0, 30, .inl (fun _ => 0))), (q55, .inl (cs 0, 30, .inl (fun _ => 0))), (q63, .inl (cs 0, 30, .inl (fun _ => 0))), (q71, .inl (cs 0, 30, .inl (fun _ => 0))), (q79, .inl (cs 0, 30, .inl (fun _ => 0)))]) rfl ?_
  refine j_putf hc (w' := [(q, .inr (5, [.int 0, .ref q7, .ref q16, .int 0, .ref q24, .ref q31, .int 0, .int 0, .int 0, .ref q39, .ref q47, .ref q55, .ref q63, .ref q71, .ref q79, .null, .null, .null, .null, .null, .int 0, .int 0, .int 0, .null, .int 0, .int 0])), (q7, .inl (cs 2, 7, .inl (fun _ => 0))), (q16, .inl (cs 0, 1024, .inl (fun _ => 0))), (q24, .inl (cs 0, 30, .inl (fun _ => 0))), (q31, .inl (cs 0, 5, .inl (fun _ => 0))), (q39, .inl (cs 0, 30, .inl (fun _ => 0))), (q47, .inl (cs 0, 30, .inl (fun _ => 0))), (q55, .inl (cs 0, 30, .inl (fun _ => 0))), (q63, .inl (cs 0, 30, .inl (fun _ => 0))), (q71, .inl (cs 0, 30, .inl (fun _ => 0))), (q79, .inl (cs 0, 30, .inl (fun _ => 0)))]) (K := RX5) (T := TX5) (N := 26) uw5 tyX5 tyX5_ok nmX5 0 rfl rfl 14 (by decide) wt_580 rfl (Or.inr ⟨rfl, hmn, rfl⟩) (ty := (.array .int)) rfl rfl rfl (Nat.le_of_ble_eq_true rfl) rfl dX5_init_81 ?_
  refine j_aload_n hc dX5_init_84 rfl ?_
  refine j_sipush hc (v := 150) dX5_init_85 (by decide) ?_
  refine j_newaI hc (N := 150) (by decide) rfl (Nat.le_of_ble_eq_true rfl) (Nat.le_of_ble_eq_true rfl) (Nat.le_of_ble_eq_true rfl) dX5_init_88 (fun q88 => ?_)
  refine j_w (w' := [(q, .inr (5, [.int 0, .ref q7, .ref q16, .int 0, .ref q24, .ref q31, .int 0, .int 0, .int 0, .ref q39, .ref q47, .ref q55, .ref q63, .ref q71, .ref q79, .null, .null, .null, .null, .null, .int 0, .int 0, .int 0, .null, .int 0, .int 0])), (q7, .inl (cs 2, 7, .inl (fun _ => 0))), (q16, .inl (cs 0, 1024, .inl (fun _ => 0))), (q24, .inl (cs 0, 30, .inl (fun _ => 0))), (q31, .inl (cs 0, 5, .inl (fun _ => 0))), (q39, .inl (cs 0, 30, .inl (fun _ => 0))), (q47, .inl (cs 0, 30, .inl (fun _ => 0))), (q55, .inl (cs 0, 30, .inl (fun _ => 0))), (q63, .inl (cs 0, 30, .inl (fun _ => 0))), (q71, .inl (cs 0, 30, .inl (fun _ => 0))), (q79, .inl (cs 0, 30, .inl (fun _ => 0))), (q88, .inl (cs 0, 150, .inl (fun _ => 0)))]) rfl ?_
  refine j_putf hc (w' := [(q, .inr (5, [.int 0, .ref q7, .ref q16, .int 0, .ref q24, .ref q31, .int 0, .int 0, .int 0, .ref q39, .ref q47, .ref q55, .ref q63, .ref q71, .ref q79, .ref q88, .null, .null, .null, .null, .int 0, .int 0, .int 0, .null, .int 0, .int 0])), (q7, .inl (cs 2, 7, .inl (fun _ => 0))), (q16, .inl (cs 0, 1024, .inl (fun _ => 0))), (q24, .inl (cs 0, 30, .inl (fun _ => 0))), (q31, .inl (cs 0, 5, .inl (fun _ => 0))), (q39, .inl (cs 0, 30, .inl (fun _ => 0))), (q47, .inl (cs 0, 30, .inl (fun _ => 0))), (q55, .inl (cs 0, 30, .inl (fun _ => 0))), (q63, .inl (cs 0, 30, .inl (fun _ => 0))), (q71, .inl (cs 0, 30, .inl (fun _ => 0))), (q79, .inl (cs 0, 30, .inl (fun _ => 0))), (q88, .inl (cs 0, 150, .inl (fun _ => 0)))]) (K := RX5) (T := TX5) (N := 26) uw5 tyX5 tyX5_ok nmX5 0 rfl rfl 15 (by decide) wt_581 rfl (Or.inr ⟨rfl, hmn, rfl⟩) (ty := (.array .int)) rfl rfl rfl (Nat.le_of_ble_eq_true rfl) rfl dX5_init_90 ?_
  refine j_aload_n hc dX5_init_93 rfl ?_
  refine j_bipush hc (v := 30) dX5_init_94 (by decide) ?_
  refine j_newaI hc (N := 30) (by decide) rfl (Nat.le_of_ble_eq_true rfl) (Nat.le_of_ble_eq_true rfl) (Nat.le_of_ble_eq_true rfl) dX5_init_96 (fun q96 => ?_)
  refine j_w (w' := [(q, .inr (5, [.int 0, .ref q7, .ref q16, .int 0, .ref q24, .ref q31, .int 0, .int 0, .int 0, .ref q39, .ref q47, .ref q55, .ref q63, .ref q71, .ref q79, .ref q88, .null, .null, .null, .null, .int 0, .int 0, .int 0, .null, .int 0, .int 0])), (q7, .inl (cs 2, 7, .inl (fun _ => 0))), (q16, .inl (cs 0, 1024, .inl (fun _ => 0))), (q24, .inl (cs 0, 30, .inl (fun _ => 0))), (q31, .inl (cs 0, 5, .inl (fun _ => 0))), (q39, .inl (cs 0, 30, .inl (fun _ => 0))), (q47, .inl (cs 0, 30, .inl (fun _ => 0))), (q55, .inl (cs 0, 30, .inl (fun _ => 0))), (q63, .inl (cs 0, 30, .inl (fun _ => 0))), (q71, .inl (cs 0, 30, .inl (fun _ => 0))), (q79, .inl (cs 0, 30, .inl (fun _ => 0))), (q88, .inl (cs 0, 150, .inl (fun _ => 0))), (q96, .inl (cs 0, 30, .inl (fun _ => 0)))]) rfl ?_
  refine j_putf hc (w' := [(q, .inr (5, [.int 0, .ref q7, .ref q16, .int 0, .ref q24, .ref q31, .int 0, .int 0, .int 0, .ref q39, .ref q47, .ref q55, .ref q63, .ref q71, .ref q79, .ref q88, .ref q96, .null, .null, .null, .int 0, .int 0, .int 0, .null, .int 0, .int 0])), (q7, .inl (cs 2, 7, .inl (fun _ => 0))), (q16, .inl (cs 0, 1024, .inl (fun _ => 0))), (q24, .inl (cs 0, 30, .inl (fun _ => 0))), (q31, .inl (cs 0, 5, .inl (fun _ => 0))), (q39, .inl (cs 0, 30, .inl (fun _ => 0))), (q47, .inl (cs 0, 30, .inl (fun _ => 0))), (q55, .inl (cs 0, 30, .inl (fun _ => 0))), (q63, .inl (cs 0, 30, .inl (fun _ => 0))), (q71, .inl (cs 0, 30, .inl (fun _ => 0))), (q79, .inl (cs 0, 30, .inl (fun _ => 0))), (q88, .inl (cs 0, 150, .inl (fun _ => 0))), (q96, .inl (cs 0, 30, .inl (fun _ => 0)))]) (K := RX5) (T := TX5) (N := 26) uw5 tyX5 tyX5_ok nmX5 0 rfl rfl 16 (by decide) wt_582 rfl (Or.inr ⟨rfl, hmn, rfl⟩) (ty := (.array .int)) rfl rfl rfl (Nat.le_of_ble_eq_true rfl) rfl dX5_init_98 ?_
  refine j_aload_n hc dX5_init_101 rfl ?_
  refine j_bipush hc (v := 30) dX5_init_102 (by decide) ?_
  refine j_newaI hc (N := 30) (by decide) rfl (Nat.le_of_ble_eq_true rfl) (Nat.le_of_ble_eq_true rfl) (Nat.le_of_ble_eq_true rfl) dX5_init_104 (fun q104 => ?_)
  refine j_w (w' := [(q, .inr (5, [.int 0, .ref q7, .ref q16, .int 0, .ref q24, .ref q31, .int 0, .int 0, .int 0, .ref q39, .ref q47, .ref q55, .ref q63, .ref q71, .ref q79, .ref q88, .ref q96, .null, .null, .null, .int 0, .int 0, .int 0, .null, .int 0, .int 0])), (q7, .inl (cs 2, 7, .inl (fun _ => 0))), (q16, .inl (cs 0, 1024, .inl (fun _ => 0))), (q24, .inl (cs 0, 30, .inl (fun _ => 0))), (q31, .inl (cs 0, 5, .inl (fun _ => 0))), (q39, .inl (cs 0, 30, .inl (fun _ => 0))), (q47, .inl (cs 0, 30, .inl (fun _ => 0))), (q55, .inl (cs 0, 30, .inl (fun _ => 0))), (q63, .inl (cs 0, 30, .inl (fun _ => 0))), (q71, .inl (cs 0, 30, .inl (fun _ => 0))), (q79, .inl (cs 0, 30, .inl (fun _ => 0))), (q88, .inl (cs 0, 150, .inl (fun _ => 0))), (q96, .inl (cs 0, 30, .inl (fun _ => 0))), (q104, .inl (cs 0, 30, .inl (fun _ => 0)))]) rfl ?_
  refine j_putf hc (w' := [(q, .inr (5, [.int 0, .ref q7, .ref q16, .int 0, .ref q24, .ref q31, .int 0, .int 0, .int 0, .ref q39, .ref q47, .ref q55, .ref q63, .ref q71, .ref q79, .ref q88, .ref q96, .ref q104, .null, .null, .int 0, .int 0, .int 0, .null, .int 0, .int 0])), (q7, .inl (cs 2, 7, .inl (fun _ => 0))), (q16, .inl (cs 0, 1024, .inl (fun _ => 0))), (q24, .inl (cs 0, 30, .inl (fun _ => 0))), (q31, .inl (cs 0, 5, .inl (fun _ => 0))), (q39, .inl (cs 0, 30, .inl (fun _ => 0))), (q47, .inl (cs 0, 30, .inl (fun _ => 0))), (q55, .inl (cs 0, 30, .inl (fun _ => 0))), (q63, .inl (cs 0, 30, .inl (fun _ => 0))), (q71, .inl (cs 0, 30, .inl (fun _ => 0))), (q79, .inl (cs 0, 30, .inl (fun _ => 0))), (q88, .inl (cs 0, 150, .inl (fun _ => 0))), (q96, .inl (cs 0, 30, .inl (fun _ => 0))), (q104, .inl (cs 0, 30, .inl (fun _ => 0)))]) (K := RX5) (T := TX5) (N := 26) uw5 tyX5 tyX5_ok nmX5 0 rfl rfl 17 (by decide) wt_583 rfl (Or.inr ⟨rfl, hmn, rfl⟩) (ty := (.array .int)) rfl rfl rfl (Nat.le_of_ble_eq_true rfl) rfl dX5_init_106 ?_
  refine j_aload_n hc dX5_init_109 rfl ?_
  refine j_bipush hc (v := 30) dX5_init_110 (by decide) ?_
  refine j_newaI hc (N := 30) (by decide) rfl (Nat.le_of_ble_eq_true rfl) (Nat.le_of_ble_eq_true rfl) (Nat.le_of_ble_eq_true rfl) dX5_init_112 (fun q112 => ?_)
  refine j_w (w' := [(q, .inr (5, [.int 0, .ref q7, .ref q16, .int 0, .ref q24, .ref q31, .int 0, .int 0, .int 0, .ref q39, .ref q47, .ref q55, .ref q63, .ref q71, .ref q79, .ref q88, .ref q96, .ref q104, .null, .null, .int 0, .int 0, .int 0, .null, .int 0, .int 0])), (q7, .inl (cs 2, 7, .inl (fun _ => 0))), (q16, .inl (cs 0, 1024, .inl (fun _ => 0))), (q24, .inl (cs 0, 30, .inl (fun _ => 0))), (q31, .inl (cs 0, 5, .inl (fun _ => 0))), (q39, .inl (cs 0, 30, .inl (fun _ => 0))), (q47, .inl (cs 0, 30, .inl (fun _ => 0))), (q55, .inl (cs 0, 30, .inl (fun _ => 0))), (q63, .inl (cs 0, 30, .inl (fun _ => 0))), (q71, .inl (cs 0, 30, .inl (fun _ => 0))), (q79, .inl (cs 0, 30, .inl (fun _ => 0))), (q88, .inl (cs 0, 150, .inl (fun _ => 0))), (q96, .inl (cs 0, 30, .inl (fun _ => 0))), (q104, .inl (cs 0, 30, .inl (fun _ => 0))), (q112, .inl (cs 0, 30, .inl (fun _ => 0)))]) rfl ?_
  refine j_putf hc (w' := [(q, .inr (5, [.int 0, .ref q7, .ref q16, .int 0, .ref q24, .ref q31, .int 0, .int 0, .int 0, .ref q39, .ref q47, .ref q55, .ref q63, .ref q71, .ref q79, .ref q88, .ref q96, .ref q104, .ref q112, .null, .int 0, .int 0, .int 0, .null, .int 0, .int 0])), (q7, .inl (cs 2, 7, .inl (fun _ => 0))), (q16, .inl (cs 0, 1024, .inl (fun _ => 0))), (q24, .inl (cs 0, 30, .inl (fun _ => 0))), (q31, .inl (cs 0, 5, .inl (fun _ => 0))), (q39, .inl (cs 0, 30, .inl (fun _ => 0))), (q47, .inl (cs 0, 30, .inl (fun _ => 0))), (q55, .inl (cs 0, 30, .inl (fun _ => 0))), (q63, .inl (cs 0, 30, .inl (fun _ => 0))), (q71, .inl (cs 0, 30, .inl (fun _ => 0))), (q79, .inl (cs 0, 30, .inl (fun _ => 0))), (q88, .inl (cs 0, 150, .inl (fun _ => 0))), (q96, .inl (cs 0, 30, .inl (fun _ => 0))), (q104, .inl (cs 0, 30, .inl (fun _ => 0))), (q112, .inl (cs 0, 30, .inl (fun _ => 0)))]) (K := RX5) (T := TX5) (N := 26) uw5 tyX5 tyX5_ok nmX5 0 rfl rfl 18 (by decide) wt_584 rfl (Or.inr ⟨rfl, hmn, rfl⟩) (ty := (.array .int)) rfl rfl rfl (Nat.le_of_ble_eq_true rfl) rfl dX5_init_114 ?_
  refine j_aload_n hc dX5_init_117 rfl ?_
  refine j_bipush hc (v := 30) dX5_init_118 (by decide) ?_
  refine j_newaI hc (N := 30) (by decide) rfl (Nat.le_of_ble_eq_true rfl) (Nat.le_of_ble_eq_true rfl) (Nat.le_of_ble_eq_true rfl) dX5_init_120 (fun q120 => ?_)
  refine j_w (w' := [(q, .inr (5, [.int 0, .ref q7, .ref q16, .int 0, .ref q24, .ref q31, .int 0, .int 0, .int 0, .ref q39, .ref q47, .ref q55, .ref q63, .ref q71, .ref q79, .ref q88, .ref q96, .ref q104, .ref q112, .null, .int 0, .int 0, .int 0, .null, .int 0, .int 0])), (q7, .inl (cs 2, 7, .inl (fun _ => 0))), (q16, .inl (cs 0, 1024, .inl (fun _ => 0))), (q24, .inl (cs 0, 30, .inl (fun _ => 0))), (q31, .inl (cs 0, 5, .inl (fun _ => 0))), (q39, .inl (cs 0, 30, .inl (fun _ => 0))), (q47, .inl (cs 0, 30, .inl (fun _ => 0))), (q55, .inl (cs 0, 30, .inl (fun _ => 0))), (q63, .inl (cs 0, 30, .inl (fun _ => 0))), (q71, .inl (cs 0, 30, .inl (fun _ => 0))), (q79, .inl (cs 0, 30, .inl (fun _ => 0))), (q88, .inl (cs 0, 150, .inl (fun _ => 0))), (q96, .inl (cs 0, 30, .inl (fun _ => 0))), (q104, .inl (cs 0, 30, .inl (fun _ => 0))), (q112, .inl (cs 0, 30, .inl (fun _ => 0))), (q120, .inl (cs 0, 30, .inl (fun _ => 0)))]) rfl ?_
  refine j_putf hc (w' := [(q, .inr (5, [.int 0, .ref q7, .ref q16, .int 0, .ref q24, .ref q31, .int 0, .int 0, .int 0, .ref q39, .ref q47, .ref q55, .ref q63, .ref q71, .ref q79, .ref q88, .ref q96, .ref q104, .ref q112, .ref q120, .int 0, .int 0, .int 0, .null, .int 0, .int 0])), (q7, .inl (cs 2, 7, .inl (fun _ => 0))), (q16, .inl (cs 0, 1024, .inl (fun _ => 0))), (q24, .inl (cs 0, 30, .inl (fun _ => 0))), (q31, .inl (cs 0, 5, .inl (fun _ => 0))), (q39, .inl (cs 0, 30, .inl (fun _ => 0))), (q47, .inl (cs 0, 30, .inl (fun _ => 0))), (q55, .inl (cs 0, 30, .inl (fun _ => 0))), (q63, .inl (cs 0, 30, .inl (fun _ => 0))), (q71, .inl (cs 0, 30, .inl (fun _ => 0))), (q79, .inl (cs 0, 30, .inl (fun _ => 0))), (q88, .inl (cs 0, 150, .inl (fun _ => 0))), (q96, .inl (cs 0, 30, .inl (fun _ => 0))), (q104, .inl (cs 0, 30, .inl (fun _ => 0))), (q112, .inl (cs 0, 30, .inl (fun _ => 0))), (q120, .inl (cs 0, 30, .inl (fun _ => 0)))]) (K := RX5) (T := TX5) (N := 26) uw5 tyX5 tyX5_ok nmX5 0 rfl rfl 19 (by decide) wt_585 rfl (Or.inr ⟨rfl, hmn, rfl⟩) (ty := (.array .int)) rfl rfl rfl (Nat.le_of_ble_eq_true rfl) rfl dX5_init_122 ?_
  refine j_aload_n hc dX5_init_125 rfl ?_
  refine j_sipush hc (v := 400) dX5_init_126 (by decide) ?_
  refine j_newaI hc (N := 400) (by decide) rfl (Nat.le_of_ble_eq_true rfl) (Nat.le_of_ble_eq_true rfl) (Nat.le_of_ble_eq_true rfl) dX5_init_129 (fun q129 => ?_)
  refine j_w (w' := [(q, .inr (5, [.int 0, .ref q7, .ref q16, .int 0, .ref q24, .ref q31, .int 0, .int 0, .int 0, .ref q39, .ref q47, .ref q55, .ref q63, .ref q71, .ref q79, .ref q88, .ref q96, .ref q104, .ref q112, .ref q120, .int 0, .int 0, .int 0, .null, .int 0, .int 0])), (q7, .inl (cs 2, 7, .inl (fun _ => 0))), (q16, .inl (cs 0, 1024, .inl (fun _ => 0))), (q24, .inl (cs 0, 30, .inl (fun _ => 0))), (q31, .inl (cs 0, 5, .inl (fun _ => 0))), (q39, .inl (cs 0, 30, .inl (fun _ => 0))), (q47, .inl (cs 0, 30, .inl (fun _ => 0))), (q55, .inl (cs 0, 30, .inl (fun _ => 0))), (q63, .inl (cs 0, 30, .inl (fun _ => 0))), (q71, .inl (cs 0, 30, .inl (fun _ => 0))), (q79, .inl (cs 0, 30, .inl (fun _ => 0))), (q88, .inl (cs 0, 150, .inl (fun _ => 0))), (q96, .inl (cs 0, 30, .inl (fun _ => 0))), (q104, .inl (cs 0, 30, .inl (fun _ => 0))), (q112, .inl (cs 0, 30, .inl (fun _ => 0))), (q120, .inl (cs 0, 30, .inl (fun _ => 0))), (q129, .inl (cs 0, 400, .inl (fun _ => 0)))]) rfl ?_
  refine j_putf hc (w' := [(q, .inr (5, [.int 0, .ref q7, .ref q16, .int 0, .ref q24, .ref q31, .int 0, .int 0, .int 0, .ref q39, .ref q47, .ref q55, .ref q63, .ref q71, .ref q79, .ref q88, .ref q96, .ref q104, .ref q112, .ref q120, .int 0, .int 0, .int 0, .ref q129, .int 0, .int 0])), (q7, .inl (cs 2, 7, .inl (fun _ => 0))), (q16, .inl (cs 0, 1024, .inl (fun _ => 0))), (q24, .inl (cs 0, 30, .inl (fun _ => 0))), (q31, .inl (cs 0, 5, .inl (fun _ => 0))), (q39, .inl (cs 0, 30, .inl (fun _ => 0))), (q47, .inl (cs 0, 30, .inl (fun _ => 0))), (q55, .inl (cs 0, 30, .inl (fun _ => 0))), (q63, .inl (cs 0, 30, .inl (fun _ => 0))), (q71, .inl (cs 0, 30, .inl (fun _ => 0))), (q79, .inl (cs 0, 30, .inl (fun _ => 0))), (q88, .inl (cs 0, 150, .inl (fun _ => 0))), (q96, .inl (cs 0, 30, .inl (fun _ => 0))), (q104, .inl (cs 0, 30, .inl (fun _ => 0))), (q112, .inl (cs 0, 30, .inl (fun _ => 0))), (q120, .inl (cs 0, 30, .inl (fun _ => 0))), (q129, .inl (cs 0, 400, .inl (fun _ => 0)))]) (K := RX5) (T := TX5) (N := 26) uw5 tyX5 tyX5_ok nmX5 0 rfl rfl 23 (by decide) wt_589 rfl (Or.inr ⟨rfl, hmn, rfl⟩) (ty := (.array .int)) rfl rfl rfl (Nat.le_of_ble_eq_true rfl) rfl dX5_init_131 ?_
  refine j_w (w' := ML (fun k => match k with | 15 => q | 16 => q7 | 17 => q16 | 18 => q24 | 19 => q31 | 20 => q39 | 21 => q47 | 22 => q55 | 23 => q63 | 24 => q71 | 25 => q79 | 26 => q88 | 27 => q96 | 28 => q104 | 29 => q112 | 30 => q120 | 31 => q129 | _ => 0) cs (fun _ => 0, fun _ _ => 0)) rfl ?_
  rw [SW_0]
  obtain ⟨ad, had, had5⟩ : ∃ ad : Nat → Nat, (fun k => match k with | 15 => q | 16 => q7 | 17 => q16 | 18 => q24 | 19 => q31 | 20 => q39 | 21 => q47 | 22 => q55 | 23 => q63 | 24 => q71 | 25 => q79 | 26 => q88 | 27 => q96 | 28 => q104 | 29 => q112 | 30 => q120 | 31 => q129 | _ => 0) = ad ∧ ad 15 = q := ⟨_, rfl, rfl⟩
  rw [had]
  subst had5
  refine j_iconst hc (v := 0) dX5_init_134 (by decide) ?_
  refine j_istore_n hc dX5_init_135 rfl ?_
  refine j_lv [(0, .ref (ad 15)), (1, .int (nI 0))] ⟨rfl, rfl, trivial⟩ ?_
  have loop : ∀ (k i : Nat), i + k = 5 → J p l e (RM 2 16 1916) s m args below meth c D A 2 16 1916 (MQ below (QI D (fun x : Subtype fun ad0 : Nat → Nat => ad0 15 = ad 15 => ML x.1 cs S0) A) args s 16 1916 A) (ML ad cs (SW i)) 136 [(0, .ref (ad 15)), (1, .int (nI i))] [] := by
    intro k
    induction k with
    | zero =>
      intro i hi
      have hi5 : i = 5 := by omega
      subst hi5
      refine j_iload_n hc dX5_init_136 rfl ?_
      refine j_iconst hc (v := 5) dX5_init_137 (by decide) ?_
      refine j_icmp_ge hc 154 dX5_init_138 (by decide) (fun _ => ?_) (fun h => absurd (by decide) h)
      refine j_aload_n hc dX5_init_154 rfl ?_
      refine j_iconst hc (v := 1) dX5_init_155 (by decide) ?_
      refine j_iconst hc (v := 3) dX5_init_156 (by decide) ?_
      refine j_iconst hc (v := 5) dX5_init_157 (by decide) ?_
      refine j_bipush hc (v := 7) dX5_init_158 (by decide) ?_
      refine j_callV' hc (c_X5_addGaps (r := 1) (f := 3) (s := 5) (t := 7) hl ⟨by decide, by decide⟩) vc_X5_59 rfl ⟨rfl, rfl, by decide, by decide⟩ 0 rfl rfl rfl (Nat.le_of_ble_eq_true rfl) ⟨by decide, by decide⟩ dX5_init_160 (fun _ h => by cases h) (fun _ => ?_)
      refine j_aload_n hc dX5_init_163 rfl ?_
      refine j_iconst hc (v := 2) dX5_init_164 (by decide) ?_
      refine j_bipush hc (v := 7) dX5_init_165 (by decide) ?_
      refine j_bipush hc (v := 7) dX5_init_167 (by decide) ?_
      refine j_iconst hc (v := 0) dX5_init_169 (by decide) ?_
      refine j_callV' hc (c_X5_addGaps (r := 2) (f := 7) (s := 7) (t := 0) hl ⟨by decide, by decide⟩) vc_X5_59 rfl ⟨rfl, rfl, by decide, by decide⟩ 0 rfl rfl rfl (Nat.le_of_ble_eq_true rfl) ⟨by decide, by decide⟩ dX5_init_170 (fun _ h => by cases h) (fun _ => ?_)
      refine j_aload_n hc dX5_init_173 rfl ?_
      refine j_iconst hc (v := 4) dX5_init_174 (by decide) ?_
      refine j_iconst hc (v := 1) dX5_init_175 (by decide) ?_
      refine j_iconst hc (v := 1) dX5_init_176 (by decide) ?_
      refine j_iconst hc (v := 1) dX5_init_177 (by decide) ?_
      refine j_callV' hc (c_X5_addGaps (r := 4) (f := 1) (s := 1) (t := 1) hl ⟨by decide, by decide⟩) vc_X5_59 rfl ⟨rfl, rfl, by decide, by decide⟩ 0 rfl rfl rfl (Nat.le_of_ble_eq_true rfl) ⟨by decide, by decide⟩ dX5_init_178 (fun _ h => by cases h) (fun _ => ?_)
      refine j_aload_n hc dX5_init_181 rfl ?_
      refine gm_17 hc dX5_init_182 ?_
      refine j_bipush hc (v := 27) dX5_init_185 (by decide) ?_
      refine j_iconst hc (v := 1) dX5_init_187 (by decide) ?_
      refine am_4 hc (vp_in_nI (n := 27) (N := 30) (by decide) (by decide)) dX5_init_188 ?_
      refine j_aload_n hc dX5_init_189 rfl ?_
      refine gm_20 hc dX5_init_190 ?_
      refine j_iconst hc (v := 4) dX5_init_193 (by decide) ?_
      refine j_iconst hc (v := 4) dX5_init_194 (by decide) ?_
      refine am_5 hc (vp_in_nI (n := 4) (N := 5) (by decide) (by decide)) dX5_init_195 ?_
      refine j_aload_n hc dX5_init_196 rfl ?_
      refine j_bipush hc (v := 10) dX5_init_197 (by decide) ?_
      refine pm_63 hc dX5_init_199 ?_
      refine j_aload_n hc dX5_init_202 rfl ?_
      refine j_bipush hc (v := 30) dX5_init_203 (by decide) ?_
      refine pm_67 hc dX5_init_205 ?_
      exact j_ivret hc (⟨ad, rfl⟩ : (Subtype fun ad0 : Nat → Nat => ad0 15 = ad 15)) rfl (by decide) (by decide) rfl dX5_init_208
    | succ k ih =>
      intro i hi
      have hin : vp_in (nI i) 7 := vp_in_nI (by omega) (by decide)
      refine j_iload_n hc dX5_init_136 rfl ?_
      refine j_iconst hc (v := 5) dX5_init_137 (by decide) ?_
      refine j_icmp_ge hc 154 dX5_init_138 (by decide) (fun h => absurd h (nI_ge (b := 5) (by omega) (by omega))) (fun _ => ?_)
      refine j_aload_n hc dX5_init_141 rfl ?_
      refine gm_7 hc dX5_init_142 ?_
      refine j_iload_n hc dX5_init_145 rfl ?_
      refine j_iconst hc (v := 1) dX5_init_146 (by decide) ?_
      refine am_1 hc hin dX5_init_147 ?_
      rw [nI_clamp (show i < 2 ^ 31 by omega), SW_s]
      refine j_inc hc dX5_init_148 rfl (z := 1) (by decide) rfl ?_
      refine j_goto hc 136 dX5_init_151 (by decide) ?_
      refine j_lv [(0, .ref (ad 15)), (1, .int (nI i + 1))] ⟨rfl, rfl, trivial⟩ ?_
      rw [nI_1]
      exact ih (i + 1) (by omega)
  exact loop 5 0 rfl
