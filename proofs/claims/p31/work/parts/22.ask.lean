theorem k_isCharging {l : Launch} {D : va_G} {cs : Nat → ClassId} {sa : Nat → Nat} (hl : l.stackTraces = false)  {ad : Nat → Nat} {n : Nat} {E : ES} {S : MS} {o : Nat → Int64} {d : Int32} {v9 : Int32} {E9 : ES} (h9 : e_isCharging E d = (none, v9, E9)) : CM l D cs sa yX4_isCharging cX4_isCharging 2 (Option.some Jvm.ClassFile.FieldType.boolean) (RM 7 8 64) 8 64 [.ref (ad 0), .int d] (WD ad cs n E S o) (none, some (.int v9), WD ad cs n E9 S o) := by
  have t := c_X4_isCharging (D := D) (cs := cs) (sa := sa) (ad := ad) (n := n) (E := E) (S := S) (o := o) hl (d := d)
  rw [h9] at t
  exact t
theorem k_stateOf {l : Launch} {D : va_G} {cs : Nat → ClassId} {sa : Nat → Nat} (hl : l.stackTraces = false)  {ad : Nat → Nat} {n : Nat} {E : ES} {S : MS} {o : Nat → Int64} (hn30 : n ≤ 30) {p0 : Int32} {v9 : Int32} {E9 : ES} (h9 : e_bf n E 4 p0 = (none, v9, E9)) : CM l D cs sa yX4_stateOf cX4_stateOf 2 (Option.some Jvm.ClassFile.FieldType.int) (RM 7 8 64) 8 64 [.ref (ad 0), .int p0] (WD ad cs n E S o) (none, some (.int v9), WD ad cs n E9 S o) := by
  have t := c_X4_stateOf (D := D) (cs := cs) (sa := sa) (ad := ad) (n := n) (E := E) (S := S) (o := o) hl hn30 (p0 := p0)
  rw [h9] at t
  exact t
theorem k_left {l : Launch} {D : va_G} {cs : Nat → ClassId} {sa : Nat → Nat} (hl : l.stackTraces = false)  {ad : Nat → Nat} {n : Nat} {E : ES} {S : MS} {o : Nat → Int64} (hn30 : n ≤ 30) {p0 : Int32} {v9 : Int32} {E9 : ES} (h9 : e_bf n E 3 p0 = (none, v9, E9)) : CM l D cs sa yX4_left cX4_left 2 (Option.some Jvm.ClassFile.FieldType.int) (RM 7 8 64) 8 64 [.ref (ad 0), .int p0] (WD ad cs n E S o) (none, some (.int v9), WD ad cs n E9 S o) := by
  have t := c_X4_left (D := D) (cs := cs) (sa := sa) (ad := ad) (n := n) (E := E) (S := S) (o := o) hl hn30 (p0 := p0)
  rw [h9] at t
  exact t
theorem k_tries {l : Launch} {D : va_G} {cs : Nat → ClassId} {sa : Nat → Nat} (hl : l.stackTraces = false)  {ad : Nat → Nat} {n : Nat} {E : ES} {S : MS} {o : Nat → Int64} (hn30 : n ≤ 30) {p0 : Int32} {v9 : Int32} {E9 : ES} (h9 : e_bf n E 6 p0 = (none, v9, E9)) : CM l D cs sa yX4_tries cX4_tries 2 (Option.some Jvm.ClassFile.FieldType.int) (RM 7 8 64) 8 64 [.ref (ad 0), .int p0] (WD ad cs n E S o) (none, some (.int v9), WD ad cs n E9 S o) := by
  have t := c_X4_tries (D := D) (cs := cs) (sa := sa) (ad := ad) (n := n) (E := E) (S := S) (o := o) hl hn30 (p0 := p0)
  rw [h9] at t
  exact t
theorem k_waitsFor {l : Launch} {D : va_G} {cs : Nat → ClassId} {sa : Nat → Nat} (hl : l.stackTraces = false)  {ad : Nat → Nat} {n : Nat} {E : ES} {S : MS} {o : Nat → Int64} (hn30 : n ≤ 30) {p0 : Int32} {v9 : Int32} {E9 : ES} (h9 : e_bf n E 5 p0 = (none, v9, E9)) : CM l D cs sa yX4_waitsFor cX4_waitsFor 2 (Option.some Jvm.ClassFile.FieldType.int) (RM 7 8 64) 8 64 [.ref (ad 0), .int p0] (WD ad cs n E S o) (none, some (.int v9), WD ad cs n E9 S o) := by
  have t := c_X4_waitsFor (D := D) (cs := cs) (sa := sa) (ad := ad) (n := n) (E := E) (S := S) (o := o) hl hn30 (p0 := p0)
  rw [h9] at t
  exact t
theorem k_broken {l : Launch} {D : va_G} {cs : Nat → ClassId} {sa : Nat → Nat} (hl : l.stackTraces = false)  {ad : Nat → Nat} {n : Nat} {E : ES} {S : MS} {o : Nat → Int64} (hn30 : n ≤ 30) {p0 : Int32} {v9 : Int32} {E9 : ES} (h9 : e_bf n E 8 p0 = (none, v9, E9)) : CM l D cs sa yX4_broken cX4_broken 2 (Option.some Jvm.ClassFile.FieldType.int) (RM 7 8 64) 8 64 [.ref (ad 0), .int p0] (WD ad cs n E S o) (none, some (.int v9), WD ad cs n E9 S o) := by
  have t := c_X4_broken (D := D) (cs := cs) (sa := sa) (ad := ad) (n := n) (E := E) (S := S) (o := o) hl hn30 (p0 := p0)
  rw [h9] at t
  exact t
theorem k_failures {l : Launch} {D : va_G} {cs : Nat → ClassId} {sa : Nat → Nat} (hl : l.stackTraces = false)  {ad : Nat → Nat} {n : Nat} {E : ES} {S : MS} {o : Nat → Int64} (hn30 : n ≤ 30) {p0 r : Int32} {v9 : Int32} {E9 : ES} (h9 : e_failures n E p0 r = (none, v9, E9)) : CM l D cs sa yX4_failures cX4_failures 4 (Option.some Jvm.ClassFile.FieldType.int) (RM 7 8 64) 8 64 [.ref (ad 0), .int p0, .int r] (WD ad cs n E S o) (none, some (.int v9), WD ad cs n E9 S o) := by
  have t := c_X4_failures (D := D) (cs := cs) (sa := sa) (ad := ad) (n := n) (E := E) (S := S) (o := o) hl hn30 (p0 := p0) (r := r)
  rw [h9] at t
  exact t
theorem k_service {l : Launch} {D : va_G} {cs : Nat → ClassId} {sa : Nat → Nat} (hl : l.stackTraces = false)  {ad : Nat → Nat} {n : Nat} {E : ES} {S : MS} {o : Nat → Int64} (hn30 : n ≤ 30) {x : Int32} {v9 : Int32} {E9 : ES} (h9 : e_service n E x = (none, v9, E9)) : CM l D cs sa yX4_service cX4_service 5 (Option.some Jvm.ClassFile.FieldType.int) (RM 7 8 64) 8 64 [.ref (ad 0), .int x] (WD ad cs n E S o) (none, some (.int v9), WD ad cs n E9 S o) := by
  have t := c_X4_service (D := D) (cs := cs) (sa := sa) (ad := ad) (n := n) (E := E) (S := S) (o := o) hl hn30 (x := x)
  rw [h9] at t
  exact t
theorem k_leftIn {l : Launch} {D : va_G} {cs : Nat → ClassId} {sa : Nat → Nat} (hl : l.stackTraces = false)  {ad : Nat → Nat} {n : Nat} {E : ES} {S : MS} {o : Nat → Int64} (hn30 : n ≤ 30) {x y : Int32} {v9 : Int32} {E9 : ES} (h9 : e_leftIn n E x y = (none, v9, E9)) : CM l D cs sa yX4_leftIn cX4_leftIn 6 (Option.some Jvm.ClassFile.FieldType.int) (RM 7 8 64) 8 64 [.ref (ad 0), .int x, .int y] (WD ad cs n E S o) (none, some (.int v9), WD ad cs n E9 S o) := by
  have t := c_X4_leftIn (D := D) (cs := cs) (sa := sa) (ad := ad) (n := n) (E := E) (S := S) (o := o) hl hn30 (x := x) (y := y)
  rw [h9] at t
  exact t
theorem k_event {l : Launch} {D : va_G} {cs : Nat → ClassId} {sa : Nat → Nat} (hl : l.stackTraces = false)  {ad : Nat → Nat} {n : Nat} {E : ES} {S : MS} {o : Nat → Int64} {k : Int32} {v9 : Int32} {E9 : ES} (h9 : e_event E k = (none, v9, E9)) : CM l D cs sa yX4_event cX4_event 2 (Option.some Jvm.ClassFile.FieldType.int) (RM 7 8 64) 8 64 [.ref (ad 0), .int k] (WD ad cs n E S o) (none, some (.int v9), WD ad cs n E9 S o) := by
  have t := c_X4_event (D := D) (cs := cs) (sa := sa) (ad := ad) (n := n) (E := E) (S := S) (o := o) hl (k := k)
  rw [h9] at t
  exact t
theorem k_stateAt {l : Launch} {D : va_G} {cs : Nat → ClassId} {sa : Nat → Nat} (hl : l.stackTraces = false)  {ad : Nat → Nat} {n : Nat} {E : ES} {S : MS} {o : Nat → Int64} (hn30 : n ≤ 30) {p0 d : Int32} (hE : 0 ≤ (e_told E).toInt) {v9 : Int32} {E9 : ES} (h9 : e_stateAt n E p0 d = (none, v9, E9)) : CM l D cs sa yX4_stateAt cX4_stateAt 3 (Option.some Jvm.ClassFile.FieldType.int) (RM 7 8 64) 8 64 [.ref (ad 0), .int p0, .int d] (WD ad cs n E S o) (none, some (.int v9), WD ad cs n E9 S o) := by
  have t := c_X4_stateAt (D := D) (cs := cs) (sa := sa) (ad := ad) (n := n) (E := E) (S := S) (o := o) hl hn30 hE (p0 := p0) (d := d)
  rw [h9] at t
  exact t
theorem k_addHoliday {l : Launch} {D : va_G} {cs : Nat → ClassId} {sa : Nat → Nat} (hl : l.stackTraces = false)  {ad : Nat → Nat} {n : Nat} {E : ES} {S : MS} {o : Nat → Int64} {d : Int32} {v9 : Int32} {E9 : ES} (h9 : e_addHoliday E d = (none, v9, E9)) : CM l D cs sa yX4_addHoliday cX4_addHoliday 3 (Option.some Jvm.ClassFile.FieldType.boolean) (RM 7 8 64) 8 64 [.ref (ad 0), .int d] (WD ad cs n E S o) (none, some (.int v9), WD ad cs n E9 S o) := by
  have t := c_X4_addHoliday (D := D) (cs := cs) (sa := sa) (ad := ad) (n := n) (E := E) (S := S) (o := o) hl (d := d)
  rw [h9] at t
  exact t
theorem k_clearGaps {l : Launch} {D : va_G} {cs : Nat → ClassId} {sa : Nat → Nat} (hl : l.stackTraces = false)  {ad : Nat → Nat} {n : Nat} {E : ES} {S : MS} {o : Nat → Int64} {r : Int32} {v9 : Int32} {E9 : ES} (h9 : e_clearGaps E r = (none, v9, E9)) : CM l D cs sa yX4_clearGaps cX4_clearGaps 4 (Option.some Jvm.ClassFile.FieldType.int) (RM 7 8 64) 8 64 [.ref (ad 0), .int r] (WD ad cs n E S o) (none, some (.int v9), WD ad cs n E9 S o) := by
  have t := c_X4_clearGaps (D := D) (cs := cs) (sa := sa) (ad := ad) (n := n) (E := E) (S := S) (o := o) hl (r := r)
  rw [h9] at t
  exact t
theorem k_setTimes {l : Launch} {D : va_G} {cs : Nat → ClassId} {sa : Nat → Nat} (hl : l.stackTraces = false)  {ad : Nat → Nat} {n : Nat} {E : ES} {S : MS} {o : Nat → Int64} {x y : Int32} {v9 : Int32} {E9 : ES} (h9 : e_setTimes E x y = (none, v9, E9)) : CM l D cs sa yX4_setTimes cX4_setTimes 4 (Option.some Jvm.ClassFile.FieldType.int) (RM 7 8 64) 8 64 [.ref (ad 0), .int x, .int y] (WD ad cs n E S o) (none, some (.int v9), WD ad cs n E9 S o) := by
  have t := c_X4_setTimes (D := D) (cs := cs) (sa := sa) (ad := ad) (n := n) (E := E) (S := S) (o := o) hl (x := x) (y := y)
  rw [h9] at t
  exact t
theorem k_pass {l : Launch} {D : va_G} {cs : Nat → ClassId} {sa : Nat → Nat} (hl : l.stackTraces = false)  {ad : Nat → Nat} {n : Nat} {E : ES} {S : MS} {o : Nat → Int64} (hn30 : n ≤ 30) {p0 : Int32} {v9 : Int32} {E9 : ES} (h9 : e_pass n E p0 = (none, v9, E9)) : CM l D cs sa yX4_pass cX4_pass 4 (Option.some Jvm.ClassFile.FieldType.int) (RM 7 8 64) 8 64 [.ref (ad 0), .int p0] (WD ad cs n E S o) (none, some (.int v9), WD ad cs n E9 S o) := by
  have t := c_X4_pass (D := D) (cs := cs) (sa := sa) (ad := ad) (n := n) (E := E) (S := S) (o := o) hl hn30 (p0 := p0)
  rw [h9] at t
  exact t
section ASK
variable {h n N Y b : Nat} {E : ES} {S : MS}
theorem ic_eq (H : Rel h n N Y E S) {x : Nat} (hx : x ≤ 1000000) : e_isCharging E (nI x) = (none, m_chg (S 0 1) (S 1) h x, E) := by
  have r := rng_ok (k := x) (x := 0) (y := 1000000) (Nat.zero_le _) hx (by decide)
  have r' : e_rng (nI x) 0 1000000 = none := r
  unfold e_isCharging
  rw [ck_none r', sim_chg H.1 (by omega)]
theorem bf_eq (H : Rel h n N Y E S) (hb : b < n) (k : Nat) : e_bf n E k (nI b) = (none, E.2.1 k b, E) := by
  unfold e_bf
  rw [ck_none (fb_ok hb H.1.n12), nI_clamp (by have := H.1.n12; omega)]
theorem fl_eq (H : Rel h n N Y E S) (hb : b < n) {t : Nat} (ht : t < 4) : e_failures n E (nI b) (nI (t + 1)) = (none, S 6 (5 * b + (t + 1)), E) := by
  unfold e_failures
  have n12 := H.1.n12
  rw [ck_none (fb_ok hb n12), ck_none (rsn_ok ht), nI_clamp (by omega), nI_pred, nI_clamp (by omega), ((H.2.1 b hb).1.2.2.2.2.2.2.2.2.1 t ht).1, bv_f S b t ht]
theorem sw_eq (H : Rel h n N Y E S) (hb : b < n) : e_sw E b = if S 5 b = nI 3 then nI 0 else if S 5 b = nI 5 then nI 0 else if S 5 b = nI 2 then nI 1 else if S 5 b = nI 4 then (if S 7 b ≤ 0 then nI 2 else nI 1) else nI 2 := by
  have q9 : E.2.1 9 b = S 7 b := (H.2.1 b hb).1.2.2.2.2.2.2.1
  have qj : S 7 b = nI 0 ∨ S 7 b = nI 2 ∨ S 7 b = nI 3 := (H.2.1 b hb).1.2.2.2.2.2.2.2.2.2.2
  have ez : S 7 b = 0 ↔ S 7 b ≤ 0 := by
    rcases qj with z | z | z
    · rw [z]; exact ⟨fun _ => by decide, fun _ => rfl⟩
    · rw [z]; exact ⟨fun w => absurd w (by decide), fun w => absurd w (by decide)⟩
    · rw [z]; exact ⟨fun w => absurd w (by decide), fun w => absurd w (by decide)⟩
  unfold e_sw
  rw [H.st hb, q9]
  by_cases z3 : S 5 b = nI 3
  · rw [if_pos z3, if_pos (show S 5 b = 3 from z3)]; rfl
  · rw [if_neg z3, if_neg (show ¬ S 5 b = 3 from z3)]
    by_cases z5 : S 5 b = nI 5
    · rw [if_pos z5, if_pos (show S 5 b = 5 from z5)]; rfl
    · rw [if_neg z5, if_neg (show ¬ S 5 b = 5 from z5)]
      by_cases z2 : S 5 b = nI 2
      · have z4 : ¬ S 5 b = 4 := by rw [z2]; decide
        rw [if_pos z2, if_neg z4, if_pos (show S 5 b = 2 from z2)]; rfl
      · rw [if_neg z2]
        by_cases z4 : S 5 b = nI 4
        · rw [if_pos z4, if_pos (show S 5 b = 4 from z4), if_neg (show ¬ S 5 b = 2 from z2)]
          by_cases z7 : S 7 b ≤ 0
          · rw [if_pos z7, if_pos (ez.mpr z7)]; rfl
          · rw [if_neg z7, if_neg (fun w => z7 (ez.mp w))]; rfl
        · rw [if_neg z4, if_neg (show ¬ S 5 b = 4 from z4), if_neg (show ¬ S 5 b = 2 from z2)]; rfl
theorem svc_hi {x : Int32} : ∀ (K i : Nat) (c : Int32), n ≤ i → e_svc n E x K i c = c
  | 0, _, _, _ => rfl
  | K + 1, i, c, hi => by
    unfold e_svc
    rw [if_neg (by omega)]
    exact svc_hi K (i + 1) c (by omega)
theorem lin_hi {x y : Int32} : ∀ (K i : Nat) (c : Int32), n ≤ i → e_lin n E x y K i c = c
  | 0, _, _, _ => rfl
  | K + 1, i, c, hi => by
    unfold e_lin
    rw [if_neg (by omega)]
    exact lin_hi K (i + 1) c (by omega)
theorem svc_1 {K i : Nat} {x c : Int32} (hi : i < n) (ha : E.2.1 1 i = x) : e_svc n E x (K + 1) i c = e_svc n E x K (i + 1) (if e_sw E i < c then e_sw E i else c) := by
  rw [e_svc, if_pos hi, if_pos ha]
theorem svc_0 {K i : Nat} {x c : Int32} (hi : i < n) (ha : ¬ E.2.1 1 i = x) : e_svc n E x (K + 1) i c = e_svc n E x K (i + 1) c := by
  rw [e_svc, if_pos hi, if_neg ha]
theorem lin_2 {K i : Nat} {x y c : Int32} (hi : i < n) (ha : E.2.1 1 i = x) (hs : E.2.1 4 i = y) : e_lin n E x y (K + 1) i c = e_lin n E x y K (i + 1) (c + E.2.1 3 i) := by
  rw [e_lin, if_pos hi, if_pos ha, if_pos hs]
theorem lin_1 {K i : Nat} {x y c : Int32} (hi : i < n) (ha : E.2.1 1 i = x) (hs : ¬ E.2.1 4 i = y) : e_lin n E x y (K + 1) i c = e_lin n E x y K (i + 1) (c + nI 0) := by
  rw [e_lin, if_pos hi, if_pos ha, if_neg hs, show c + nI 0 = c from Int32.add_zero c]
theorem lin_0 {K i : Nat} {x y c : Int32} (hi : i < n) (ha : ¬ E.2.1 1 i = x) : e_lin n E x y (K + 1) i c = e_lin n E x y K (i + 1) (c + nI 0) := by
  rw [e_lin, if_pos hi, if_neg ha, show c + nI 0 = c from Int32.add_zero c]
theorem sv_eq {x : Nat} (hx : x < 8) : e_service n E (nI x) = (none, e_svc n E (nI x) 30 0 2, E) := by
  unfold e_service
  rw [ck_none (acc_ok hx)]
theorem li_eq {x y : Nat} (hx : x < 8) (hy : y < 7) : e_leftIn n E (nI x) (nI y) = (none, e_lin n E (nI x) (nI y) 30 0 0, E) := by
  have r := rng_ok (k := y) (x := 0) (y := 6) (Nat.zero_le _) (by omega) (by decide)
  have r' : e_rng (nI y) 0 6 = none := r
  unfold e_leftIn
  rw [ck_none (acc_ok hx), ck_none r']
def tol (N : Nat) : Nat := if 400 < N then 400 else N
theorem told_eq (G : RG h n N Y E S) (hN : N ≤ 200000) : e_told E = nI (tol N) := by
  unfold e_told tol
  rw [G.t13]
  by_cases z : 400 < N
  · have z1 : (400 : Int32) < nI N := nI_lt (a := 400) z (by omega)
    rw [if_pos z, if_pos z1]; rfl
  · have z1 : ¬ (400 : Int32) < nI N := nI_nlt (a := 400) (by omega) (by omega)
    rw [if_neg z, if_neg z1]
theorem told_nn (G : RG h n N Y E S) (hN : N ≤ 200000) : 0 ≤ (e_told E).toInt := by
  rw [told_eq G hN, nI_toInt (by unfold tol; split <;> omega)]; omega
theorem cda_eq (G : RG h n N Y E S) (hN : N ≤ 200000) {t : Nat} (ht : t < N) (h6 : t < 60) : e_cda E (nI t) = S 8 ((N - 1 - t) % 60) := by
  have e1 : nI N - 1 = nI (N - 1) := pk_sub (b := 1) (by omega)
  have e2 : nI (N - 1) - nI t = nI (N - 1 - t) := pk_sub (by omega)
  have e3 : nI (N - 1 - t) - nI (N - 1 - t) / 400 * 400 = nI ((N - 1 - t) % 400) := pk_rem (d := 400) (by omega) (by decide) (by decide)
  unfold e_cda
  rw [G.t13, e1, e2, fm_nn (by rw [nI_toInt (by omega)]; omega) (by decide), e3, nI_clamp (by omega)]
  exact (G.ring (N - 1 - t) (by omega) (by omega)).symm
theorem ev_eq (G : RG h n N Y E S) (hN : N ≤ 200000) {t : Nat} (ht : t < N) (h6 : t < 60) : e_event E (nI t) = (none, S 8 ((N - 1 - t) % 60), E) := by
  have z : nI t < nI (tol N) := nI_lt (by unfold tol; split <;> omega) (by unfold tol; split <;> omega)
  unfold e_event
  rw [if_neg (nI_pos (by omega)), told_eq G hN, if_pos z, cda_eq G hN ht h6]
theorem sa_eq (H : Rel h n N Y E S) (hN : N ≤ 200000) (hb : b < n) {d : Nat} (hY : Y ≤ 8000) (hd : d ≤ Y) : e_stateAt n E (nI b) (nI d) = (none, e_lso E (nI b) (nI d) (tol N) (nI 0), E) := by
  have G := H.1
  have r := rng_ok (k := d) (x := 0) (y := Y) (Nat.zero_le _) hd (by omega)
  have r' : e_rng (nI d) 0 (nI Y) = none := r
  unfold e_stateAt
  rw [ck_none (fb_ok hb G.n12), G.d5, ck_none r', told_eq G hN, nI_clamp (by unfold tol; split <;> omega)]
  rfl
theorem lso_go (G : RG h n N Y E S) (hN : N ≤ 200000) {t K c d : Nat} (ht : t < N) (h6 : t < 60) (hc : c < 2 ^ 31) (ec : S 8 ((N - 1 - t) % 60) = nI c) (hb : b < 12) (hd : d < 2 ^ 31) : (c / 1000 ≤ d → c / 10 % 100 = b → e_lso E (nI b) (nI d) (K + 1) (nI t) = nI (c % 10)) ∧ (¬ (c / 1000 ≤ d ∧ c / 10 % 100 = b) → e_lso E (nI b) (nI d) (K + 1) (nI t) = e_lso E (nI b) (nI d) K (nI (t + 1))) := by
  have ea := (cda_eq G hN ht h6).trans ec
  have e1 : nI c - nI c / 1000 * 1000 = nI (c % 1000) := pk_rem (d := 1000) hc (by decide) (by decide)
  have e2 : nI (c % 1000) / 10 = nI (c % 1000 / 10) := pk_div (d := 10) (by omega) (by decide) (by decide)
  have e3 : nI c / 1000 = nI (c / 1000) := pk_div (d := 1000) hc (by decide) (by decide)
  have e4 : nI c - nI c / 10 * 10 = nI (c % 10) := pk_rem (d := 10) hc (by decide) (by decide)
  have e5 : c % 1000 / 10 = c / 10 % 100 := by omega
  have hx : e_lso E (nI b) (nI d) (K + 1) (nI t) = if nI (c / 10 % 100) = nI b then (if nI d < nI (c / 1000) then e_lso E (nI b) (nI d) K (nI (t + 1)) else nI (c % 10)) else e_lso E (nI b) (nI d) K (nI (t + 1)) := by
    rw [e_lso, ea, e1, e2, e3, e4, e5, nI_1]
  rw [hx]
  constructor
  · intro z1 z2
    rw [if_pos (by rw [z2]), if_neg (nI_nlt z1 hd)]
  · intro z
    by_cases y : c / 10 % 100 = b
    · rw [if_pos (by rw [y]), if_pos (nI_lt (by omega) (by omega))]
    · rw [if_neg (fun w => y ((nI_eq (by omega) (by omega)).mp w))]
theorem wt_eq (H : Rel h n N Y E S) (hb : b < n) {σ : Nat} (hσ : σ ≤ 6) (es : S 5 b = nI σ) : E.2.1 5 b = if σ = 1 ∨ σ = 5 ∨ σ = 6 then -1 else S 5 (12 + b) := by
  obtain ⟨-, σ', w1, w2, w3, w4⟩ := H.2.1 b hb
  have : σ' = σ := (nI_eq (by omega) (by omega)).mp ((show S 5 b = nI σ' from w2).symm.trans es)
  subst this
  exact w4
end ASK
