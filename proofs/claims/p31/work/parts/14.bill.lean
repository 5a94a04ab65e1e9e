def adB (ad : Nat → Nat) (n q1 q2 : Nat) : Nat → Nat := va_up (va_up ad (24 + 2 * n) q1) (25 + 2 * n) q2
def bfv (n : Nat) (x v : Int32) : Nat → Int32 := fun k => match k with | 0 => nI n | 1 => x | 3 => v | _ => 0
def e_bill0 (E : ES) (n : Nat) (x v : Int32) : ES := (E.1, fun k => if k = 40 + n then fun _ => 0 else if k ≤ 10 then upd (E.2.1 k) n (bfv n x v k) else E.2.1 k, E.2.2)
def e_bill1 (E : ES) (n : Nat) (x v : Int32) : ES :=
  let E1 := eG (e_bill0 E n x v) 4 (nI n + 1)
  eG E1 8 (E1.1 8 + v)
def e_billE (E : ES) (n : Nat) (x v : Int32) : ES := e_enter (e_bill1 E n x v) n 0 (e_fcf (e_bill1 E n x v) 1000 ((e_bill1 E n x v).1 5 + 1))
def e_billT (E : ES) (x v : Int32) : Option String := match e_acc x with
  | some t => some t
  | none => match e_rng v 1 9999 with
    | some t => some t
    | none => if E.1 4 < 0 then some xIS else if E.1 4 < 30 then none else some xIS
theorem adB_old (ad : Nat → Nat) (n q1 q2 k : Nat) (h : k < 24 + 2 * n) : adB ad n q1 q2 k = ad k := by
  unfold adB va_up
  rw [if_neg (by omega), if_neg (by omega)]
theorem adB_1 (ad : Nat → Nat) (n q1 q2 : Nat) : adB ad n q1 q2 (24 + 2 * n) = q1 := by
  unfold adB va_up
  rw [if_neg (by omega), if_pos rfl]
theorem adB_2 (ad : Nat → Nat) (n q1 q2 : Nat) : adB ad n q1 q2 (25 + 2 * n) = q2 := by
  unfold adB va_up
  rw [if_pos rfl]
theorem brf_s (ad : Nat → Nat) (n q1 q2 : Nat) : brf (adB ad n q1 q2) (n + 1) = va_up (brf ad n) n (some q1) := funext fun i => by
  unfold brf va_up
  by_cases h : i = n
  · subst h; rw [if_pos (Nat.lt_succ_self i), if_pos rfl, adB_1]
  · rw [if_neg h]
    by_cases h2 : i < n
    · simp only [if_pos h2, if_pos (show i < n + 1 by omega)]; rw [adB_old _ _ _ _ _ (by omega)]
    · simp only [if_neg h2, if_neg (show ¬ i < n + 1 by omega)]
theorem gpf_s (ad : Nat → Nat) (n q1 q2 : Nat) : gpf (adB ad n q1 q2) = gpf ad := funext fun i => by
  unfold gpf
  by_cases h : i < 4
  · rw [if_pos h, if_pos h, adB_old _ _ _ _ _ (by omega)]
  · rw [if_neg h, if_neg h]
theorem e_bill0_hi (E : ES) (n : Nat) (x v : Int32) (k : Nat) (h1 : 10 < k) (h2 : k ≠ 40 + n) : (e_bill0 E n x v).2.1 k = E.2.1 k := by
  unfold e_bill0
  simp only []
  rw [if_neg h2, if_neg (by omega)]
theorem e_bill0_lo (E : ES) (n : Nat) (x v : Int32) (k b : Nat) (h1 : k ≤ 10) (h2 : b ≠ n) : (e_bill0 E n x v).2.1 k b = E.2.1 k b := by
  unfold e_bill0
  simp only []
  rw [if_neg (by omega), if_pos h1, upd, if_neg h2]
theorem e_bill0_n (E : ES) (n : Nat) (x v : Int32) (k : Nat) (h1 : k ≤ 10) : (e_bill0 E n x v).2.1 k n = bfv n x v k := by
  unfold e_bill0
  simp only []
  rw [if_neg (by omega), if_pos h1, upd, if_pos rfl]
theorem e_bill0_f (E : ES) (n : Nat) (x v : Int32) : (e_bill0 E n x v).2.1 (40 + n) = fun _ => 0 := by
  unfold e_bill0
  simp only [if_true]
theorem fx_bill (ad : Nat → Nat) (cs : Nat → ClassId) (n : Nat) (E : ES) (S : MS) (o : Nat → Int64) (q1 q2 : Nat) (x v : Int32) : FX (adB ad n q1 q2) cs (n + 1) (e_bill0 E n x v) S o = (FX ad cs n E S o).set 12 (ad 12, .inl (cs 3, 30, .inr (.inr (.inr (.inr (va_up (brf ad n) n (some q1))))))) := by
  have e20 := e_bill0_hi E n x v 20 (by decide) (by omega)
  have e21 := e_bill0_hi E n x v 21 (by decide) (by omega)
  have e22 := e_bill0_hi E n x v 22 (by decide) (by omega)
  have e23 := e_bill0_hi E n x v 23 (by decide) (by omega)
  have e30 := e_bill0_hi E n x v 30 (by decide) (by omega)
  have eA : ∀ k, k < 24 → adB ad n q1 q2 k = ad k := fun k hk => adB_old _ _ _ _ _ (by omega)
  unfold FX
  rw [brf_s, gpf_s, e20, e21, e22, e23, e30, eA 0 (by decide), eA 1 (by decide), eA 2 (by decide), eA 3 (by decide), eA 4 (by decide), eA 5 (by decide), eA 6 (by decide), eA 7 (by decide), eA 8 (by decide), eA 9 (by decide), eA 10 (by decide), eA 11 (by decide), eA 12 (by decide), eA 13 (by decide), eA 14 (by decide), eA 15 (by decide), eA 16 (by decide), eA 17 (by decide), eA 18 (by decide), eA 19 (by decide), eA 20 (by decide), eA 21 (by decide), eA 22 (by decide), eA 23 (by decide)]
  rfl
theorem wd_billE (ad : Nat → Nat) (cs : Nat → ClassId) (n : Nat) (E : ES) (S : MS) (o : Nat → Int64) (q1 q2 : Nat) (x v : Int32) (hn : n < 30) : (WD ad cs n E S o ++ ([(q1, .inr (0, [.int (nI n), .int x, .ref q2, .int v, .int 0, .int 0, .int 0, .int 0, .int 0, .int 0, .int 0])), (q2, .inl (cs 0, 4, .inl (fun _ => 0)))] : va_W)).set 12 (ad 12, .inl (cs 3, 30, .inr (.inr (.inr (.inr (va_up (brf ad n) (nI n).toNatClampNeg (some q1))))))) = WD (adB ad n q1 q2) cs (n + 1) (e_bill0 E n x v) S o := by
  rw [nI_clamp (show n < 2 ^ 31 by omega)]
  have e1 : PL (en1 ad E) (en2 ad cs E) n = PL (en1 (adB ad n q1 q2) (e_bill0 E n x v)) (en2 (adB ad n q1 q2) cs (e_bill0 E n x v)) n := by
    refine pl_congr n fun b hb => ⟨?_, ?_⟩
    · have q : ∀ k, k ≤ 10 → (e_bill0 E n x v).2.1 k b = E.2.1 k b := fun k hk => e_bill0_lo E n x v k b hk (by omega)
      rw [en1, en1, blf, blf, adB_old ad n q1 q2 (24 + 2 * b) (by omega), adB_old ad n q1 q2 (25 + 2 * b) (by omega), q 0 (by decide), q 1 (by decide), q 3 (by decide), q 4 (by decide), q 5 (by decide), q 6 (by decide), q 7 (by decide), q 8 (by decide), q 9 (by decide), q 10 (by decide)]
    · rw [en2, en2, adB_old ad n q1 q2 (25 + 2 * b) (by omega), e_bill0_hi E n x v (40 + b) (by omega) (by omega)]
  have e2 : en1 (adB ad n q1 q2) (e_bill0 E n x v) n = (q1, .inr (0, [.int (nI n), .int x, .ref q2, .int v, .int 0, .int 0, .int 0, .int 0, .int 0, .int 0, .int 0])) := by
    have q := fun k hk => e_bill0_n E n x v k hk
    rw [en1, blf, adB_1, adB_2, q 0 (by decide), q 1 (by decide), q 3 (by decide), q 4 (by decide), q 5 (by decide), q 6 (by decide), q 7 (by decide), q 8 (by decide), q 9 (by decide), q 10 (by decide)]
    rfl
  have e3 : en2 (adB ad n q1 q2) cs (e_bill0 E n x v) n = (q2, .inl (cs 0, 4, .inl (fun _ => 0))) := by
    rw [en2, adB_2, e_bill0_f]
  unfold WD
  rw [fx_bill, PL, e2, e3, ← e1, ← List.append_assoc]
  rfl
theorem wd_pos (ad : Nat → Nat) (cs : Nat → ClassId) (n : Nat) (E : ES) (S : MS) (o : Nat → Int64) (z1 z2 : Nat × va_E) : (WD ad cs n E S o ++ [z1, z2])[24 + 2 * n]? = some z1 := by
  have hl : (WD ad cs n E S o).length = 24 + 2 * n := by
    unfold WD
    rw [List.length_append, pl_len]; rfl
  rw [List.getElem?_append_right (by omega), hl, Nat.sub_self]; rfl
section R14
variable {p : Program} {l : Launch} {e : Env} {R : Room} {s : State} {m : MethodId} {args : Array Value} {below : List Frame} {meth : Method} {c : Code} {D : va_G} {cs : Nat → ClassId} {sa : Nat → Nat} {A : Nat → Prop} {cc : ByteArray} {nL : Nat} {own : String} {ret : Option FieldType} {cells slots : Nat} {Q : State → Prop} {w : va_W} {pc : Nat} {lv : List (Nat × Value)} {st : List Value}
theorem j_throwY (hc : CX p l e R s m args below meth c D cs sa A cc nL RX4 ret) {mc0 ms0 : Nat} {w0 : va_W} {X : Type} {t0 : Option String} {r : X → Option Value × va_W} (ho : ∀ x ∈ c.exceptionTable.toList, False) {cls tx : String} {ik is ic : Nat} (hfit : Bundle.fit cls = true) (hs : (is, tx) ∈ strs) (hk : Cond.classLink RX4 ik cls ∈ WT) (hini : Cond.initialized cls ∈ WT)
    (hg : ∀ w ∈ (vx_atS RX4 ic cls exN).filter goodWord, w ∈ WT) (hb : ∀ w ∈ (vx_atS RX4 ic cls exN).filter (fun w => !goodWord w), w ∈ exB) (hot : ∀ w ∈ Cond.classLink RX4 ik cls :: Cond.initialized cls :: vx_atS RX4 ic cls exN, vx_ot w = true)
    (d0 : decode cc pc = .ok (.new ik, 3)) (d3 : decode cc (pc + 3) = .ok (.dup, 1)) (d4 : decode cc (pc + 4) = .ok (.ldc is, 2)) (d6 : decode cc (pc + 6) = .ok (.invokespecial ic, 3)) (d9 : decode cc (pc + 9) = .ok (.athrow, 1))
    (hf : 5 < R.frames) (hlo : (st.map fun v => v.category).sum + 82 ≤ R.locals) (hrc : cells + 1 ≤ R.cells) (hrs : slots + 6 ≤ R.slots) (h1 : cells + 1 ≤ mc0) (h2 : slots + 6 ≤ ms0) (hr : t0 = some cls ∧ w = w0) : J p l e R s m args below meth c D A nL cells slots (QY below args s D A mc0 ms0 w0 t0 r) w pc lv st := fun H locs ls hP hD hS hl => by
  obtain ⟨hr, rfl⟩ := hr
  obtain ⟨z1, z2, z3, z4, z5, z6⟩ := hc.2.2.2.2.2.1
  have hB : ∀ w ∈ exB, w.before args s = true := fun w hw => by
    rcases List.mem_append.mp hw with h | h
    · obtain ⟨x, hx, rfl⟩ := List.mem_map.mp h
      exact va_Nw.use rfl (z3 x hx)
    · obtain ⟨x, hx, rfl⟩ := List.mem_map.mp h
      exact va_Nw.use rfl (z4 x hx)
  refine vx_throwS (names := exN) hc.1.1 hc.1.2.1 hc.2.2.2.2.2.2 hc.1.2.2.2.1 hfit (by decide) (hc.1.2.2.2.2 _ hk) (hc.1.2.2.2.2 _ hini) (z5 _ hs) (vx_hat (fun w h => hc.1.2.2.2.2 _ (hg w h)) hb hB) hot z1 z2 hS (hl.1.trans hc.1.2.2.1.symm) d0 d3 d4 d6 d9 (fun x hx => (ho x hx).elim) hf hlo hrc hrs hc.2.2.1 (fun t ht hz hk2 => ?_) hS.2.2 h1 h2
  have hP2 : va_P D vwCl w t.heap := hP.kept fun k q hq => hk2 _ (vx_lt hP hq)
  exact ⟨⟨hr, hP2, hD⟩, Nat.le_trans hS.1 hz, fun q h1 h2 => (hk2 q (Nat.lt_of_lt_of_le h1 hS.1)).trans (hS.2.1 q h1 h2)⟩
end R14
set_option maxRecDepth 100000 in
set_option maxHeartbeats 4000000 in
theorem c_X4_bill {l : Launch} {D : va_G} {cs : Nat → ClassId} {sa : Nat → Nat} (hl : l.stackTraces = false)  {ad : Nat → Nat} {n : Nat} {E : ES} {S : MS} {o : Nat → Int64} {x v : Int32} (hE : E.1 4 = nI n) (hn30 : n ≤ 30) : EX l D cs sa yX4_bill cX4_bill 5 (Option.some Jvm.ClassFile.FieldType.int) (RM 7 8 64) 8 64 [.ref (ad 0), .int x, .int v] (WD ad cs n E S o) (e_billT E x v) (fun t : Nat × Nat => (some (.int (nI n)), WD (adB ad n t.1 t.2) cs (n + 1) (e_billE E n x v) S o)) := by
  refine EX.of RX4 hl (by decide +kernel) rfl (Nat.le_of_ble_eq_true rfl) ?_
  intro p e s m args below meth c A hc ho
  refine j_iload_n hc dX4_bill_0 rfl ?_
  refine j_callS' hc (c_X4_checkAccount hl) sc_X4_109 rfl ⟨rfl, rfl, by decide, by decide⟩ rfl (Nat.le_of_ble_eq_true rfl) ⟨by decide, by decide⟩ dX4_bill_1 (fun E9 h9 => jx_outY ho hc.2.2.1 (by decide) (by decide) ⟨by simp only [e_billT, show e_acc x = some E9 from h9], rfl⟩) (fun h1 => ?_)
  have h1 : e_acc x = none := h1
  refine j_iload_n hc dX4_bill_4 rfl ?_
  refine j_iconst hc (v := 1) dX4_bill_5 (by decide) ?_
  refine j_sipush hc (v := 9999) dX4_bill_6 (by decide) ?_
  refine j_callS' hc (c_X4_checkRange hl) sc_X4_86 rfl ⟨rfl, rfl, by decide, by decide⟩ rfl (Nat.le_of_ble_eq_true rfl) ⟨by decide, by decide⟩ dX4_bill_9 (fun E9 h9 => jx_outY ho hc.2.2.1 (by decide) (by decide) ⟨by simp only [e_billT, h1, show e_rng v 1 9999 = some E9 from h9], rfl⟩) (fun h2 => ?_)
  have h2 : e_rng v 1 9999 = none := h2
  refine j_aload_n hc dX4_bill_12 rfl ?_
  refine gf_X4_112 hc dX4_bill_13 ?_
  refine j_istore_n hc dX4_bill_16 rfl ?_
  refine j_iload_n hc dX4_bill_17 rfl ?_
  refine j_if_lt hc 30 dX4_bill_18 (by decide) (fun h3 => ?_) (fun h3 => ?_)
  · exact j_throwY hc ho (by decide) (is := 115) (tx := "there are as many bills as there can be") (by decide) wt_232 wt_11 xg_73 xb_73 xo_73 dX4_bill_30 dX4_bill_33 dX4_bill_34 dX4_bill_36 dX4_bill_39 (by decide) (Nat.le_of_ble_eq_true rfl) (by decide) (by decide) (by decide) (by decide) ⟨by simp only [e_billT, h1, h2, if_pos h3] <;> rfl, rfl⟩
  refine j_iload_n hc dX4_bill_21 rfl ?_
  refine j_aload_n hc dX4_bill_22 rfl ?_
  refine gf_X4_40 hc dX4_bill_23 ?_
  refine ln_row hc dX4_bill_26 ?_
  refine j_icmp_lt hc 40 dX4_bill_27 (by decide) (fun h4 => ?_) (fun h4 => ?_)
  rotate_left
  · exact j_throwY hc ho (by decide) (is := 115) (tx := "there are as many bills as there can be") (by decide) wt_232 wt_11 xg_73 xb_73 xo_73 dX4_bill_30 dX4_bill_33 dX4_bill_34 dX4_bill_36 dX4_bill_39 (by decide) (Nat.le_of_ble_eq_true rfl) (by decide) (by decide) (by decide) (by decide) ⟨by simp only [e_billT, h1, h2, if_neg h3, if_neg h4] <;> rfl, rfl⟩
  have hn : n < 30 := by
    by_cases z : n < 30
    · exact z
    · rw [hE] at h4
      have h5 : (30 : Int32) ≤ nI n := nI_le (a := 30) (by omega) (by omega)
      simp only [i32_lt, i32_le] at h4 h5
      omega
  have ht0 : e_billT E x v = none := by simp only [e_billT, h1, h2, if_neg h3, if_pos h4]
  refine j_new hc (K := RX0) (T := TX0) (N := 11) (ci := 0) uw0 tyX0 tyX0_ok wt_61 wt_248 wt_12 rfl (fs := [.int 0, .int 0, .null, .int 0, .int 0, .int 0, .int 0, .int 0, .int 0, .int 0, .int 0]) (fun j hj => by match j, hj with | 0, _ => rfl | 1, _ => rfl | 2, _ => rfl | 3, _ => rfl | 4, _ => rfl | 5, _ => rfl | 6, _ => rfl | 7, _ => rfl | 8, _ => rfl | 9, _ => rfl | 10, _ => rfl | j + 11, h => exact absurd h (by omega)) (Nat.le_of_ble_eq_true rfl) (Nat.le_of_ble_eq_true rfl) dX4_bill_40 (fun q => ?_)
  refine j_dup hc dX4_bill_43 rfl ?_
  refine j_iload_n hc dX4_bill_44 rfl ?_
  refine j_iload_n hc dX4_bill_45 rfl ?_
  refine j_iload_n hc dX4_bill_46 rfl ?_
  refine j_callI hc (WD ad cs n E S o) (c_X0_init hl) ic_X4_117 P2n_ok trivial rfl ⟨rfl, rfl, by decide, by decide⟩ rfl rfl (Nat.le_of_ble_eq_true rfl) ⟨by decide, by decide⟩ dX4_bill_47 (fun z => ?_)
  refine j_astore hc dX4_bill_50 rfl ?_
  refine j_aload_n hc dX4_bill_52 rfl ?_
  refine j_getf hc (K := RX4) (T := TX4) (N := 12) uw4 0 rfl rfl 2 (by decide) wt_79 rfl rfl dX4_bill_53 ?_
  refine j_iload_n hc dX4_bill_56 rfl ?_
  refine j_aload hc dX4_bill_57 rfl ?_
  rw [hE]
  refine j_aastore hc (w' := WD (adB ad n q z) cs (n + 1) (e_bill0 E n x v) S o) 12 3 (24 + 2 * n) 0 rfl rfl (wd_pos ad cs n E S o _ _) rfl (n := 30) (vp_in_nI hn (by decide)) (wd_billE ad cs n E S o q z x v hn) dX4_bill_59 ?_
  have a0 : ad 0 = adB ad n q z 0 := (adB_old _ _ _ _ _ (by omega)).symm
  have aq : q = adB ad n q z (24 + 2 * n) := (adB_1 _ _ _ _).symm
  refine j_lv [(0, .ref (ad 0)), (2, .int v), (3, .int (nI n)), (4, .ref q)] ⟨rfl, rfl, rfl, rfl, trivial⟩ ?_
  have key : ∀ ad2 : Nat → Nat, ad2 0 = ad 0 → ad2 (24 + 2 * n) = q → ad2 = adB ad n q z → J p l e (RM 7 8 64) s m args below meth c D A 5 4 27 (QY below args s D A 8 64 (WD ad cs n E S o) (e_billT E x v) fun t : Nat × Nat => (some (.int (nI n)), WD (adB ad n t.1 t.2) cs (n + 1) (e_billE E n x v) S o)) (WD ad2 cs (n + 1) (e_bill0 E n x v) S o) 60 [(0, .ref (ad2 0)), (2, .int v), (3, .int (nI n)), (4, .ref (ad2 (24 + 2 * n)))] [] := by
    intro ad2 k0 k1 k2
    have hb : n < n + 1 := Nat.lt_succ_self n
    refine j_aload_n hc dX4_bill_60 rfl ?_
    refine j_iload_n hc dX4_bill_61 rfl ?_
    refine j_iconst hc (v := 1) dX4_bill_62 (by decide) ?_
    refine j_iadd hc dX4_bill_63 ?_
    refine pf_X4_112 hc dX4_bill_64 ?_
    refine j_aload_n hc dX4_bill_67 rfl ?_
    refine j_dup hc dX4_bill_68 rfl ?_
    refine gf_X4_119 hc dX4_bill_69 ?_
    refine j_iload_n hc dX4_bill_72 rfl ?_
    refine j_iadd hc dX4_bill_73 ?_
    refine pf_X4_119 hc dX4_bill_74 ?_
    refine j_aload_n hc dX4_bill_77 rfl ?_
    refine j_aload hc dX4_bill_78 rfl ?_
    refine j_iconst hc (v := 0) dX4_bill_80 (by decide) ?_
    refine j_aload_n hc dX4_bill_81 rfl ?_
    refine gf_X4_10 hc dX4_bill_82 ?_
    refine j_aload_n hc dX4_bill_85 rfl ?_
    refine gf_X4_83 hc dX4_bill_86 ?_
    refine j_iconst hc (v := 1) dX4_bill_89 (by decide) ?_
    refine j_iadd hc dX4_bill_90 ?_
    refine j_callV' hc (c_X1_firstChargingFrom hl) vc_X4_122 rfl ⟨rfl, rfl, by decide, by decide⟩ 1 rfl rfl rfl (Nat.le_of_ble_eq_true rfl) ⟨by decide, by decide⟩ dX4_bill_91 (fun E9 h9 => by cases h9) (fun _ => ?_)
    refine j_callV' hc (c_X4_enter hl hb) vc_X4_125 rfl ⟨rfl, rfl, by decide, by decide⟩ 0 rfl rfl rfl (Nat.le_of_ble_eq_true rfl) ⟨by decide, by decide⟩ dX4_bill_94 (fun E9 h9 => by cases h9) (fun _ => ?_)
    refine j_iload_n hc dX4_bill_97 rfl ?_
    exact j_xiret hc ((q, z) : Nat × Nat) rfl (by decide) (by decide) ht0 (by rw [k2]; rfl) dX4_bill_98
  have k := key (adB ad n q z) a0.symm aq.symm rfl
  rw [← a0, ← aq] at k
  exact k
