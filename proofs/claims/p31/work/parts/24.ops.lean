theorem d_0 {l : Launch} {D : va_G} {cs : Nat → ClassId} {sa : Nat → Nat} (hl : l.stackTraces = false)  {ad : Nat → Nat} {n : Nat} {E : ES} {S : MS} {o : Nat → Int64} {x y : Int32} (hn30 : n ≤ 30) {v9 : Int32} {E9 : ES} (h9 : e_outcome n E x y = (none, v9, E9)) : CH l D cs sa yL_does cL_does 5 (Option.some Jvm.ClassFile.FieldType.int) [((0 : Nat), (70 : Nat), (71 : Nat), (44 : Nat))] (RM 8 8 64) 8 64 [.ref (ad 0), .int (nI 0), .int x, .int y] (WD ad cs n E S o) (none, some (.int v9), WD ad cs n E9 S o) := by
  have t := c_L_does_0 (D := D) (cs := cs) (sa := sa) (ad := ad) (n := n) (E := E) (S := S) (o := o) hl hn30 (x := x) (y := y) (Or.inl (by rw [h9]))
  rw [h9] at t
  exact t
theorem dx_0 {l : Launch} {D : va_G} {cs : Nat → ClassId} {sa : Nat → Nat} (hl : l.stackTraces = false)  {ad : Nat → Nat} {n : Nat} {E : ES} {S : MS} {o : Nat → Int64} {x y : Int32} (hn30 : n ≤ 30) (h9 : e_outcome n E x y = (some xIS, 0, E)) : CH l D cs sa yL_does cL_does 5 (Option.some Jvm.ClassFile.FieldType.int) [((0 : Nat), (70 : Nat), (71 : Nat), (44 : Nat))] (RM 8 8 64) 8 64 [.ref (ad 0), .int (nI 0), .int x, .int y] (WD ad cs n E S o) (none, some (.int (-13)), WD ad cs n E S o) := by
  have t := c_L_does_0 (D := D) (cs := cs) (sa := sa) (ad := ad) (n := n) (E := E) (S := S) (o := o) hl hn30 (x := x) (y := y) (Or.inr h9)
  rw [h9] at t
  exact t
theorem d_1 {l : Launch} {D : va_G} {cs : Nat → ClassId} {sa : Nat → Nat} (hl : l.stackTraces = false)  {ad : Nat → Nat} {n : Nat} {E : ES} {S : MS} {o : Nat → Int64} {x y : Int32} (hn30 : n ≤ 30) {v9 : Int32} {E9 : ES} (h9 : e_pay n E x y = (none, v9, E9)) : CH l D cs sa yL_does cL_does 5 (Option.some Jvm.ClassFile.FieldType.int) [((0 : Nat), (70 : Nat), (71 : Nat), (44 : Nat))] (RM 8 8 64) 8 64 [.ref (ad 0), .int (nI 1), .int x, .int y] (WD ad cs n E S o) (none, some (.int v9), WD ad cs n E9 S o) := by
  have t := c_L_does_1 (D := D) (cs := cs) (sa := sa) (ad := ad) (n := n) (E := E) (S := S) (o := o) hl hn30 (x := x) (y := y) (Or.inl (by rw [h9]))
  rw [h9] at t
  exact t
theorem dx_1 {l : Launch} {D : va_G} {cs : Nat → ClassId} {sa : Nat → Nat} (hl : l.stackTraces = false)  {ad : Nat → Nat} {n : Nat} {E : ES} {S : MS} {o : Nat → Int64} {x y : Int32} (hn30 : n ≤ 30) (h9 : e_pay n E x y = (some xIS, 0, E)) : CH l D cs sa yL_does cL_does 5 (Option.some Jvm.ClassFile.FieldType.int) [((0 : Nat), (70 : Nat), (71 : Nat), (44 : Nat))] (RM 8 8 64) 8 64 [.ref (ad 0), .int (nI 1), .int x, .int y] (WD ad cs n E S o) (none, some (.int (-13)), WD ad cs n E S o) := by
  have t := c_L_does_1 (D := D) (cs := cs) (sa := sa) (ad := ad) (n := n) (E := E) (S := S) (o := o) hl hn30 (x := x) (y := y) (Or.inr h9)
  rw [h9] at t
  exact t
theorem d_2 {l : Launch} {D : va_G} {cs : Nat → ClassId} {sa : Nat → Nat} (hl : l.stackTraces = false)  {ad : Nat → Nat} {n : Nat} {E : ES} {S : MS} {o : Nat → Int64} {x y : Int32} (hn30 : n ≤ 30) {v9 : Int32} {E9 : ES} (h9 : e_promise n E x y = (none, v9, E9)) : CH l D cs sa yL_does cL_does 5 (Option.some Jvm.ClassFile.FieldType.int) [((0 : Nat), (70 : Nat), (71 : Nat), (44 : Nat))] (RM 8 8 64) 8 64 [.ref (ad 0), .int (nI 2), .int x, .int y] (WD ad cs n E S o) (none, some (.int v9), WD ad cs n E9 S o) := by
  have t := c_L_does_2 (D := D) (cs := cs) (sa := sa) (ad := ad) (n := n) (E := E) (S := S) (o := o) hl hn30 (x := x) (y := y) (Or.inl (by rw [h9]))
  rw [h9] at t
  exact t
theorem dx_2 {l : Launch} {D : va_G} {cs : Nat → ClassId} {sa : Nat → Nat} (hl : l.stackTraces = false)  {ad : Nat → Nat} {n : Nat} {E : ES} {S : MS} {o : Nat → Int64} {x y : Int32} (hn30 : n ≤ 30) (h9 : e_promise n E x y = (some xIS, 0, E)) : CH l D cs sa yL_does cL_does 5 (Option.some Jvm.ClassFile.FieldType.int) [((0 : Nat), (70 : Nat), (71 : Nat), (44 : Nat))] (RM 8 8 64) 8 64 [.ref (ad 0), .int (nI 2), .int x, .int y] (WD ad cs n E S o) (none, some (.int (-13)), WD ad cs n E S o) := by
  have t := c_L_does_2 (D := D) (cs := cs) (sa := sa) (ad := ad) (n := n) (E := E) (S := S) (o := o) hl hn30 (x := x) (y := y) (Or.inr h9)
  rw [h9] at t
  exact t
theorem d_3 {l : Launch} {D : va_G} {cs : Nat → ClassId} {sa : Nat → Nat} (hl : l.stackTraces = false)  {ad : Nat → Nat} {n : Nat} {E : ES} {S : MS} {o : Nat → Int64} {x y : Int32} {v9 : Int32} {E9 : ES} (h9 : e_addGap E x y = (none, v9, E9)) : CH l D cs sa yL_does cL_does 5 (Option.some Jvm.ClassFile.FieldType.int) [((0 : Nat), (70 : Nat), (71 : Nat), (44 : Nat))] (RM 8 8 64) 8 64 [.ref (ad 0), .int (nI 3), .int x, .int y] (WD ad cs n E S o) (none, some (.int v9), WD ad cs n E9 S o) := by
  have t := c_L_does_3 (D := D) (cs := cs) (sa := sa) (ad := ad) (n := n) (E := E) (S := S) (o := o) hl (x := x) (y := y) (Or.inl (by rw [h9]))
  rw [h9] at t
  exact t
theorem dx_3 {l : Launch} {D : va_G} {cs : Nat → ClassId} {sa : Nat → Nat} (hl : l.stackTraces = false)  {ad : Nat → Nat} {n : Nat} {E : ES} {S : MS} {o : Nat → Int64} {x y : Int32} (h9 : e_addGap E x y = (some xIS, 0, E)) : CH l D cs sa yL_does cL_does 5 (Option.some Jvm.ClassFile.FieldType.int) [((0 : Nat), (70 : Nat), (71 : Nat), (44 : Nat))] (RM 8 8 64) 8 64 [.ref (ad 0), .int (nI 3), .int x, .int y] (WD ad cs n E S o) (none, some (.int (-13)), WD ad cs n E S o) := by
  have t := c_L_does_3 (D := D) (cs := cs) (sa := sa) (ad := ad) (n := n) (E := E) (S := S) (o := o) hl (x := x) (y := y) (Or.inr h9)
  rw [h9] at t
  exact t
theorem d_4 {l : Launch} {D : va_G} {cs : Nat → ClassId} {sa : Nat → Nat} (hl : l.stackTraces = false)  {ad : Nat → Nat} {n : Nat} {E : ES} {S : MS} {o : Nat → Int64} {x : Int32} {v9 : Int32} {E9 : ES} (h9 : e_setWeekday E x (nI 0) = (none, v9, E9)) : CH l D cs sa yL_does cL_does 5 (Option.some Jvm.ClassFile.FieldType.int) [((0 : Nat), (70 : Nat), (71 : Nat), (44 : Nat))] (RM 8 8 64) 8 64 [.ref (ad 0), .int (nI 4), .int x, .int (nI 0)] (WD ad cs n E S o) (none, some (.int v9), WD ad cs n E9 S o) := by
  have t := c_L_does_4 (D := D) (cs := cs) (sa := sa) (ad := ad) (n := n) (E := E) (S := S) (o := o) hl (x := x) (Or.inl (by rw [h9]))
  rw [h9] at t
  exact t
theorem dx_4 {l : Launch} {D : va_G} {cs : Nat → ClassId} {sa : Nat → Nat} (hl : l.stackTraces = false)  {ad : Nat → Nat} {n : Nat} {E : ES} {S : MS} {o : Nat → Int64} {x : Int32} (h9 : e_setWeekday E x (nI 0) = (some xIS, 0, E)) : CH l D cs sa yL_does cL_does 5 (Option.some Jvm.ClassFile.FieldType.int) [((0 : Nat), (70 : Nat), (71 : Nat), (44 : Nat))] (RM 8 8 64) 8 64 [.ref (ad 0), .int (nI 4), .int x, .int (nI 0)] (WD ad cs n E S o) (none, some (.int (-13)), WD ad cs n E S o) := by
  have t := c_L_does_4 (D := D) (cs := cs) (sa := sa) (ad := ad) (n := n) (E := E) (S := S) (o := o) hl (x := x) (Or.inr h9)
  rw [h9] at t
  exact t
theorem d_5 {l : Launch} {D : va_G} {cs : Nat → ClassId} {sa : Nat → Nat} (hl : l.stackTraces = false)  {ad : Nat → Nat} {n : Nat} {E : ES} {S : MS} {o : Nat → Int64} {x : Int32} {v9 : Int32} {E9 : ES} (h9 : e_setWeekday E x (nI 1) = (none, v9, E9)) : CH l D cs sa yL_does cL_does 5 (Option.some Jvm.ClassFile.FieldType.int) [((0 : Nat), (70 : Nat), (71 : Nat), (44 : Nat))] (RM 8 8 64) 8 64 [.ref (ad 0), .int (nI 4), .int x, .int (nI 1)] (WD ad cs n E S o) (none, some (.int v9), WD ad cs n E9 S o) := by
  have t := c_L_does_5 (D := D) (cs := cs) (sa := sa) (ad := ad) (n := n) (E := E) (S := S) (o := o) hl (x := x) (Or.inl (by rw [h9]))
  rw [h9] at t
  exact t
theorem dx_5 {l : Launch} {D : va_G} {cs : Nat → ClassId} {sa : Nat → Nat} (hl : l.stackTraces = false)  {ad : Nat → Nat} {n : Nat} {E : ES} {S : MS} {o : Nat → Int64} {x : Int32} (h9 : e_setWeekday E x (nI 1) = (some xIS, 0, E)) : CH l D cs sa yL_does cL_does 5 (Option.some Jvm.ClassFile.FieldType.int) [((0 : Nat), (70 : Nat), (71 : Nat), (44 : Nat))] (RM 8 8 64) 8 64 [.ref (ad 0), .int (nI 4), .int x, .int (nI 1)] (WD ad cs n E S o) (none, some (.int (-13)), WD ad cs n E S o) := by
  have t := c_L_does_5 (D := D) (cs := cs) (sa := sa) (ad := ad) (n := n) (E := E) (S := S) (o := o) hl (x := x) (Or.inr h9)
  rw [h9] at t
  exact t
set_option maxRecDepth 100000 in
set_option maxHeartbeats 4000000 in
theorem op_bill {p : Program} {l : Launch} {e : Env} {s : State} {m : MethodId} {below : List Frame} {meth : Method} {c : Code} {D : va_G} {cs : Nat → ClassId} {sa : Nat → Nat} {A : Nat → Prop} {Q : State → Prop} {bb t y : Nat} {ad : Nat → Nat} {n h N Y : Nat} {E : ES} {S : MS} {o : Nat → Int64} (hc : CX p l e room_1 s m #[Value.ref bb] below meth c D cs sa A code 21 RL ret) (H : Rel h n N Y E S) (hN : N ≤ 1500 * t) (hY : Y ≤ 60 * t) (ht : t < 110) (hy : y < 134217728) (next : ∀ (ad : Nat → Nat) (n h N Y : Nat) (E : ES) (S : MS), Rel h n N Y E S → N ≤ 1500 * (t + 1) → Y ≤ 60 * (t + 1) → J p l e room_1 s m #[Value.ref bb] below meth c D A 21 (2000 + 1700 * t + 8) (16000 + 14000 * t + 64) Q (WD ad cs n E S o) 1425 [(0, .ref bb), (1, .ref (ad 0)), (2, .ref (ad 15)), (3, .ref (ad 16)), (4, .ref (ad 17)), (5, .ref (ad 18)), (6, .ref (ad 19)), (7, .ref (ad 20)), (8, .ref (ad 21)), (9, .ref (ad 22)), (10, .ref (ad 23)), (11, .int (nI 1)), (12, .int (nI t)), (15, .int (nI y))] []) (hn12 : n < 12) : J p l e room_1 s m #[Value.ref bb] below meth c D A 21 (2000 + 1700 * t) (16000 + 14000 * t) Q (WD ad cs n E S o) 268 [(0, .ref bb), (1, .ref (ad 0)), (2, .ref (ad 15)), (3, .ref (ad 16)), (4, .ref (ad 17)), (5, .ref (ad 18)), (6, .ref (ad 19)), (7, .ref (ad 20)), (8, .ref (ad 21)), (9, .ref (ad 22)), (10, .ref (ad 23)), (11, .int (nI 1)), (12, .int (nI t)), (15, .int (nI y))] [] := by
  have hl := hc.2.2.2.2.2.2
  have G := H.1
  have n12 := G.n12
  have hn30 : n ≤ 30 := by omega
  have h60 := G.h60
  have r9 := rng_ok (k := (1 + ((y / 8) % 9999))) (x := 1) (y := 9999) (by omega) (by omega) (by decide)
  have r9' : e_rng (nI (1 + ((y / 8) % 9999))) 1 9999 = none := r9
  have bt : e_billT E (nI (y % 8)) (nI (1 + ((y / 8) % 9999))) = none := by
    have z : nI n < 30 := nI_lt (b := 30) (by omega) (by decide)
    unfold e_billT
    rw [acc_ok (show y % 8 < 8 by omega)]
    dsimp only
    rw [r9']
    dsimp only
    rw [G.n4, if_neg (nI_pos (by omega)), if_pos z]
  refine j_aload_n hc dL_law_268 rfl ?_
  refine j_iconst hc (v := nI 2) dL_law_269 (by decide) ?_
  refine xl_0 hc (i := 2) (by omega) (v := (nI n)) (G.n2) dL_law_270 ?_
  refine j_istore hc dL_law_271 rfl ?_
  refine j_aload hc dL_law_273 rfl ?_
  refine j_iload hc dL_law_275 rfl ?_
  refine j_iload hc dL_law_277 rfl ?_
  refine j_bipush hc (v := nI 8) dL_law_279 (by decide) ?_
  refine j_iremE hc (by decide) (z := nI (y % 8)) (pk_rem (by omega) (by omega) (by omega)) dL_law_281 ?_
  refine xs_4 hc (i := n) (by omega) dL_law_282 ?_
  refine j_aload hc dL_law_283 rfl ?_
  refine j_bipush hc (v := nI 12) dL_law_285 (by decide) ?_
  refine j_iload hc dL_law_287 rfl ?_
  refine j_iaddE hc (z := nI (12 + n)) (nI_add _ _) dL_law_289 ?_
  refine j_iconst hc (v := nI 1) dL_law_290 (by decide) ?_
  refine j_iload hc dL_law_291 rfl ?_
  refine j_bipush hc (v := nI 8) dL_law_293 (by decide) ?_
  refine j_idivE hc (by decide) (z := nI (y / 8)) (pk_div (by omega) (by omega) (by omega)) dL_law_295 ?_
  refine j_sipush hc (v := nI 9999) dL_law_296 (by decide) ?_
  refine j_iremE hc (by decide) (z := nI ((y / 8) % 9999)) (pk_rem (by omega) (by omega) (by omega)) dL_law_299 ?_
  refine j_iaddE hc (z := nI (1 + ((y / 8) % 9999))) (nI_add _ _) dL_law_300 ?_
  refine xs_4 hc (i := (12 + n)) (by omega) dL_law_301 ?_
  refine j_aload hc dL_law_302 rfl ?_
  refine j_bipush hc (v := nI 24) dL_law_304 (by decide) ?_
  refine j_iload hc dL_law_306 rfl ?_
  refine j_iaddE hc (z := nI (24 + n)) (nI_add _ _) dL_law_308 ?_
  refine j_aload hc dL_law_309 rfl ?_
  refine j_bipush hc (v := nI 12) dL_law_311 (by decide) ?_
  refine j_iload hc dL_law_313 rfl ?_
  refine j_iaddE hc (z := nI (12 + n)) (nI_add _ _) dL_law_315 ?_
  refine xl_4 hc (i := (12 + n)) (by omega) (v := (nI (1 + ((y / 8) % 9999)))) (mA_s) dL_law_316 ?_
  refine xs_4 hc (i := (24 + n)) (by omega) dL_law_317 ?_
  refine j_aload hc dL_law_318 rfl ?_
  refine j_bipush hc (v := nI 12) dL_law_320 (by decide) ?_
  refine j_iload hc dL_law_322 rfl ?_
  refine j_iaddE hc (z := nI (12 + n)) (nI_add _ _) dL_law_324 ?_
  refine j_aload_n hc dL_law_325 rfl ?_
  refine j_aload_n hc dL_law_326 rfl ?_
  refine j_aload_n hc dL_law_327 rfl ?_
  refine j_iconst hc (v := nI 0) dL_law_328 (by decide) ?_
  refine xl_0 hc (i := 0) (by omega) (v := (nI Y)) (Eq.trans (mA_ro (by decide)) (Eq.trans (mA_ro (by decide)) (Eq.trans (mA_ro (by decide)) (G.d0)))) dL_law_329 ?_
  refine j_iconst hc (v := nI 1) dL_law_330 (by decide) ?_
  refine j_iaddE hc (z := nI (Y + 1)) (nI_add _ _) dL_law_331 ?_
  refine j_callS' hc (c_L_from hl (S := (mA (mA (mA S 4 n (nI (y % 8))) 4 (12 + n) (nI (1 + ((y / 8) % 9999)))) 4 (24 + n) (nI (1 + ((y / 8) % 9999))))) (x := Y + 1) (by omega) G.w63 h60 (from_ok G (by omega) (by omega))) sc_L_13 rfl ⟨rfl, rfl, by decide, by decide⟩ rfl (Nat.le_of_ble_eq_true rfl) ⟨by show _ ≤ 600172; omega, by show _ ≤ 7300668; omega⟩ dL_law_332 (fun _ h9 => by cases h9) (fun _ => ?_)
  refine xs_5 hc (i := (12 + n)) (by omega) dL_law_335 ?_
  refine j_aload_n hc dL_law_336 rfl ?_
  refine j_iconst hc (v := nI 2) dL_law_337 (by decide) ?_
  refine j_dup2 hc dL_law_338 rfl rfl ?_
  refine xl_0 hc (i := 2) (by omega) (v := (nI n)) (Eq.trans (mA_ro (by decide)) (Eq.trans (mA_ro (by decide)) (Eq.trans (mA_ro (by decide)) (Eq.trans (mA_ro (by decide)) (G.n2))))) dL_law_339 ?_
  refine j_iconst hc (v := nI 1) dL_law_340 (by decide) ?_
  refine j_iaddE hc (z := nI (n + 1)) (nI_add _ _) dL_law_341 ?_
  refine xs_0 hc (i := 2) (by omega) dL_law_342 ?_
  refine j_aload_n hc dL_law_343 rfl ?_
  refine j_aload hc dL_law_344 rfl ?_
  refine j_aload hc dL_law_346 rfl ?_
  refine j_iload hc dL_law_348 rfl ?_
  refine j_iconst hc (v := nI 0) dL_law_350 (by decide) ?_
  refine j_callS' hc (c_L_enters hl (S := (mA (mA (mA (mA (mA S 4 n (nI (y % 8))) 4 (12 + n) (nI (1 + ((y / 8) % 9999)))) 4 (24 + n) (nI (1 + ((y / 8) % 9999)))) 5 (12 + n) (nI (m_cf (S 0 1) (S 1) h 1000 (Y + 1)))) 0 2 (nI (n + 1)))) (Y := Y) (N := N) (b := n) (σ := 0) (by omega) G.d0 G.t8 (by omega)) sc_L_17 rfl ⟨rfl, rfl, by decide, by decide⟩ rfl (Nat.le_of_ble_eq_true rfl) ⟨by show _ ≤ 600172; omega, by show _ ≤ 7300668; omega⟩ dL_law_351 (fun _ h9 => by cases h9) (fun _ => ?_)
  refine j_aload_n hc dL_law_354 rfl ?_
  refine j_iload hc dL_law_355 rfl ?_
  refine j_bipush hc (v := nI 8) dL_law_357 (by decide) ?_
  refine j_iremE hc (by decide) (z := nI (y % 8)) (pk_rem (by omega) (by omega) (by omega)) dL_law_359 ?_
  refine j_iconst hc (v := nI 1) dL_law_360 (by decide) ?_
  refine j_iload hc dL_law_361 rfl ?_
  refine j_bipush hc (v := nI 8) dL_law_363 (by decide) ?_
  refine j_idivE hc (by decide) (z := nI (y / 8)) (pk_div (by omega) (by omega) (by omega)) dL_law_365 ?_
  refine j_sipush hc (v := nI 9999) dL_law_366 (by decide) ?_
  refine j_iremE hc (by decide) (z := nI ((y / 8) % 9999)) (pk_rem (by omega) (by omega) (by omega)) dL_law_369 ?_
  refine j_iaddE hc (z := nI (1 + ((y / 8) % 9999))) (nI_add _ _) dL_law_370 ?_
  refine j_callX' hc (c_X4_bill hl G.n4 hn30) vc_L_109 rfl ⟨rfl, rfl, by decide, by decide⟩ 0 rfl rfl rfl (Nat.le_of_ble_eq_true rfl) ⟨by show _ ≤ 600172; omega, by show _ ≤ 7300668; omega⟩ dL_law_371 (fun E9 h9 => by rw [bt] at h9; cases h9) (fun _ z => ?_)
  refine j_iload hc dL_law_374 rfl ?_
  refine j_icmp_ne hc 383 dL_law_376 (by decide) (fun h376 => by exact absurd rfl h376) (fun h376 => ?_)
  refine j_iconst hc (v := nI 1) dL_law_379 (by decide) ?_
  refine j_goto hc 384 dL_law_380 (by decide) ?_
  refine j_istore hc dL_law_384 rfl ?_
  refine j_goto hc 1425 dL_law_386 (by decide) ?_
  refine j_lv [(0, .ref bb), (1, .ref (adB ad n z.1 z.2 0)), (2, .ref (adB ad n z.1 z.2 15)), (3, .ref (adB ad n z.1 z.2 16)), (4, .ref (adB ad n z.1 z.2 17)), (5, .ref (adB ad n z.1 z.2 18)), (6, .ref (adB ad n z.1 z.2 19)), (7, .ref (adB ad n z.1 z.2 20)), (8, .ref (adB ad n z.1 z.2 21)), (9, .ref (adB ad n z.1 z.2 22)), (10, .ref (adB ad n z.1 z.2 23)), (11, .int (nI 1)), (12, .int (nI t)), (15, .int (nI y))] ⟨rfl, congrArg (fun q => some (Value.ref q)) (adB_old ad n z.1 z.2 0 (by omega)).symm, congrArg (fun q => some (Value.ref q)) (adB_old ad n z.1 z.2 15 (by omega)).symm, congrArg (fun q => some (Value.ref q)) (adB_old ad n z.1 z.2 16 (by omega)).symm, congrArg (fun q => some (Value.ref q)) (adB_old ad n z.1 z.2 17 (by omega)).symm, congrArg (fun q => some (Value.ref q)) (adB_old ad n z.1 z.2 18 (by omega)).symm, congrArg (fun q => some (Value.ref q)) (adB_old ad n z.1 z.2 19 (by omega)).symm, congrArg (fun q => some (Value.ref q)) (adB_old ad n z.1 z.2 20 (by omega)).symm, congrArg (fun q => some (Value.ref q)) (adB_old ad n z.1 z.2 21 (by omega)).symm, congrArg (fun q => some (Value.ref q)) (adB_old ad n z.1 z.2 22 (by omega)).symm, congrArg (fun q => some (Value.ref q)) (adB_old ad n z.1 z.2 23 (by omega)).symm, rfl, rfl, rfl, trivial⟩ ?_
  refine j_widen (k := 2000 + 1700 * t + 8) (n := 16000 + 14000 * t + 64) (by omega) (by omega) ?_
  exact next (adB ad n z.1 z.2) (n + 1) h (N + 1) Y _ (mA (mA (mA (mA (mA (mA (mA (mA S 4 n (nI (y % 8))) 4 (12 + n) (nI (1 + ((y / 8) % 9999)))) 4 (24 + n) (nI (1 + ((y / 8) % 9999)))) 5 (12 + n) (nI (m_cf (S 0 1) (S 1) h 1000 (Y + 1)))) 0 2 (nI (n + 1))) 5 n (nI 0)) 8 (N % 60) (nI (((Y * 100) + n) * 10 + 0))) 0 8 (nI (N + 1))) (sim_bill H hn12 (by omega) (by omega) (by omega)) (by omega) (by omega)
set_option maxRecDepth 100000 in
set_option maxHeartbeats 4000000 in
theorem op_out {p : Program} {l : Launch} {e : Env} {s : State} {m : MethodId} {below : List Frame} {meth : Method} {c : Code} {D : va_G} {cs : Nat → ClassId} {sa : Nat → Nat} {A : Nat → Prop} {Q : State → Prop} {bb t y : Nat} {ad : Nat → Nat} {n h N Y : Nat} {E : ES} {S : MS} {o : Nat → Int64} (hc : CX p l e room_1 s m #[Value.ref bb] below meth c D cs sa A code 21 RL ret) (H : Rel h n N Y E S) (hN : N ≤ 1500 * t) (hY : Y ≤ 60 * t) (ht : t < 110) (hy : y < 134217728) (next : ∀ (ad : Nat → Nat) (n h N Y : Nat) (E : ES) (S : MS), Rel h n N Y E S → N ≤ 1500 * (t + 1) → Y ≤ 60 * (t + 1) → J p l e room_1 s m #[Value.ref bb] below meth c D A 21 (2000 + 1700 * t + 8) (16000 + 14000 * t + 64) Q (WD ad cs n E S o) 1425 [(0, .ref bb), (1, .ref (ad 0)), (2, .ref (ad 15)), (3, .ref (ad 16)), (4, .ref (ad 17)), (5, .ref (ad 18)), (6, .ref (ad 19)), (7, .ref (ad 20)), (8, .ref (ad 21)), (9, .ref (ad 22)), (10, .ref (ad 23)), (11, .int (nI 1)), (12, .int (nI t)), (15, .int (nI y))] []) {β : Nat} (hβ : β < n) : J p l e room_1 s m #[Value.ref bb] below meth c D A 21 (2000 + 1700 * t) (16000 + 14000 * t) Q (WD ad cs n E S o) 402 [(0, .ref bb), (1, .ref (ad 0)), (2, .ref (ad 15)), (3, .ref (ad 16)), (4, .ref (ad 17)), (5, .ref (ad 18)), (6, .ref (ad 19)), (7, .ref (ad 20)), (8, .ref (ad 21)), (9, .ref (ad 22)), (10, .ref (ad 23)), (11, .int (nI 1)), (12, .int (nI t)), (15, .int (nI y)), (16, .int (nI β))] [] := by
  have hl := hc.2.2.2.2.2.2
  have G := H.1
  have n12 := G.n12
  have hn30 : n ≤ 30 := by omega
  have h60 := G.h60
  have hn9 : 0 < n := by omega
  have k452 : ∀ χ β, χ < 5 → β < n → J p l e room_1 s m #[Value.ref bb] below meth c D A 21 (2000 + 1700 * t) (16000 + 14000 * t) Q (WD ad cs n E S o) 452 [(0, .ref bb), (1, .ref (ad 0)), (2, .ref (ad 15)), (3, .ref (ad 16)), (4, .ref (ad 17)), (5, .ref (ad 18)), (6, .ref (ad 19)), (7, .ref (ad 20)), (8, .ref (ad 21)), (9, .ref (ad 22)), (10, .ref (ad 23)), (11, .int (nI 1)), (12, .int (nI t)), (15, .int (nI y)), (16, .int (nI β))] [.int (nI χ)] := by
    intro χ β hχ hβ
    obtain ⟨l9, hl9, el⟩ := H.lv hβ
    match χ, hχ with
    | 0, _ =>
      refine j_istore hc dL_law_452 rfl ?_
      refine j_bipush hc (v := -13) dL_law_454 (by decide) ?_
      refine j_istore hc dL_law_456 rfl ?_
      refine j_aload hc dL_law_458 rfl ?_
      refine j_iload hc dL_law_460 rfl ?_
      refine xl_5 hc (i := β) (by omega) (v := (S 5 β)) (rfl) dL_law_462 ?_
      refine j_iconst hc (v := nI 1) dL_law_463 (by decide) ?_
      refine j_icmp_ne hc 514 dL_law_464 (by decide) (fun h464 => ?_) (fun h464 => ?_)
      · -- taken
        refine j_aload hc dL_law_514 rfl ?_
        refine j_iload hc dL_law_516 rfl ?_
        refine xl_5 hc (i := β) (by omega) (v := (S 5 β)) (rfl) dL_law_518 ?_
        refine j_iconst hc (v := nI 1) dL_law_519 (by decide) ?_
        refine j_icmp_ne hc 549 dL_law_520 (by decide) (fun h520 => ?_) (fun h520 => by exact absurd h520 h464)
        refine j_aload_n hc dL_law_549 rfl ?_
        refine j_iconst hc (v := nI 0) dL_law_550 (by decide) ?_
        refine j_iload hc dL_law_551 rfl ?_
        refine j_iload hc dL_law_553 rfl ?_
        refine j_callSH hc (r := (some (Value.int (-13)), WD ad cs n E S o)) (dx_0 hl hn30 ((out_eq H hβ (x := 0) (by decide)).trans (if_neg h464))) sh_L_112 rfl ⟨rfl, rfl, by decide, by decide⟩ rfl (Nat.le_of_ble_eq_true rfl) ⟨by show _ ≤ 600172; omega, by show _ ≤ 7300668; omega⟩ dL_law_555 ?_
        refine j_iload hc dL_law_558 rfl ?_
        refine j_icmp_ne hc 567 dL_law_560 (by decide) (fun h560 => by exact absurd rfl h560) (fun h560 => ?_)
        refine j_iconst hc (v := nI 1) dL_law_563 (by decide) ?_
        refine j_goto hc 568 dL_law_564 (by decide) ?_
        refine j_istore hc dL_law_568 rfl ?_
        refine j_goto hc 1425 dL_law_570 (by decide) ?_
        refine j_lv [(0, .ref bb), (1, .ref (ad 0)), (2, .ref (ad 15)), (3, .ref (ad 16)), (4, .ref (ad 17)), (5, .ref (ad 18)), (6, .ref (ad 19)), (7, .ref (ad 20)), (8, .ref (ad 21)), (9, .ref (ad 22)), (10, .ref (ad 23)), (11, .int (nI 1)), (12, .int (nI t)), (15, .int (nI y))] ⟨rfl, rfl, rfl, rfl, rfl, rfl, rfl, rfl, rfl, rfl, rfl, rfl, rfl, rfl, trivial⟩ ?_
        refine j_widen (k := 2000 + 1700 * t + 8) (n := 16000 + 14000 * t + 64) (by omega) (by omega) ?_
        exact next ad n h (N) (Y) _ S (H) (by omega) (by omega)
      · -- not taken
        refine j_iload hc dL_law_467 rfl ?_
        refine j_if_ne hc 514 dL_law_469 (by decide) (fun h469 => by exact absurd (show ¬ (nI 0) = (0 : Int32) from h469) (by decide)) (fun h469 => ?_)
        refine j_aload_n hc dL_law_472 rfl ?_
        refine j_iconst hc (v := nI 5) dL_law_473 (by decide) ?_
        refine j_dup2 hc dL_law_474 rfl rfl ?_
        refine xl_0 hc (i := 5) (by omega) (v := (S 0 5)) (rfl) dL_law_475 ?_
        refine j_aload hc dL_law_476 rfl ?_
        refine j_bipush hc (v := nI 24) dL_law_478 (by decide) ?_
        refine j_iload hc dL_law_480 rfl ?_
        refine j_iaddE hc (z := nI (24 + β)) (nI_add _ _) dL_law_482 ?_
        refine xl_4 hc (i := (24 + β)) (by omega) (v := (nI l9)) (el) dL_law_483 ?_
        refine j_iadd hc dL_law_484 ?_
        refine xs_0 hc (i := 5) (by omega) dL_law_485 ?_
        refine j_aload hc dL_law_486 rfl ?_
        refine j_bipush hc (v := nI 24) dL_law_488 (by decide) ?_
        refine j_iload hc dL_law_490 rfl ?_
        refine j_iaddE hc (z := nI (24 + β)) (nI_add _ _) dL_law_492 ?_
        refine j_iconst hc (v := nI 0) dL_law_493 (by decide) ?_
        refine xs_4 hc (i := (24 + β)) (by omega) dL_law_494 ?_
        refine j_aload_n hc dL_law_495 rfl ?_
        refine j_aload hc dL_law_496 rfl ?_
        refine j_aload hc dL_law_498 rfl ?_
        refine j_iload hc dL_law_500 rfl ?_
        refine j_bipush hc (v := nI 6) dL_law_502 (by decide) ?_
        refine j_callS' hc (c_L_enters hl (S := (mA (mA S 0 5 ((S 0 5) + (nI l9))) 4 (24 + β) (nI 0))) (Y := Y) (N := N) (b := β) (σ := 6) (by omega) G.d0 G.t8 (by omega)) sc_L_17 rfl ⟨rfl, rfl, by decide, by decide⟩ rfl (Nat.le_of_ble_eq_true rfl) ⟨by show _ ≤ 600172; omega, by show _ ≤ 7300668; omega⟩ dL_law_504 (fun _ h9 => by cases h9) (fun _ => ?_)
        refine j_bipush hc (v := nI 6) dL_law_507 (by decide) ?_
        refine j_istore hc dL_law_509 rfl ?_
        refine j_goto hc 549 dL_law_511 (by decide) ?_
        refine j_aload_n hc dL_law_549 rfl ?_
        refine j_iconst hc (v := nI 0) dL_law_550 (by decide) ?_
        refine j_iload hc dL_law_551 rfl ?_
        refine j_iload hc dL_law_553 rfl ?_
        obtain ⟨S9, hS9⟩ : ∃ S9, S9 = (mA (mA S 0 5 (S 0 5 + nI l9)) 4 (24 + β) (nI 0)) := ⟨_, rfl⟩
        have T9 := sim_take H hβ (by omega) (by omega) el hl9 (Nat.le_refl l9) (S1 := S9) (fun j j5 j7 => by rw [hS9]; exact (mA_ro (by decide)).trans (mA_c j5)) (by rw [hS9]; exact (mA_ro (by decide)).trans mA_s) (by rw [hS9, if_neg (by rw [h464]; decide)]; exact (mA_ro (by decide)).trans (mA_c (by decide))) (by rw [hS9, Nat.sub_self]; rfl) (fun a a0 a4 => by rw [hS9]; exact (mA_r a4).trans (mA_r a0))
        have R9 := T9.1 (Nat.sub_self l9)
        have ev9 : (e_take E β (nI l9)).2.1 4 β = nI 6 := (R9.st hβ).trans ((mA_ro (by decide)).trans ((mA_ro (by decide)).trans mA_s))
        have oe : e_outcome n E (nI β) (nI 0) = (none, nI 6, e_take E β (nI l9)) := by rw [out_eq H hβ (x := 0) (by decide), if_pos h464, if_pos rfl, el, ev9]
        rw [hS9] at R9
        refine j_callSH hc (r := (some (Value.int (nI 6)), WD ad cs n (e_take E β (nI l9)) (mA (mA (mA (mA (mA S 0 5 ((S 0 5) + (nI l9))) 4 (24 + β) (nI 0)) 5 β (nI 6)) 8 (N % 60) (nI (((Y * 100) + β) * 10 + 6))) 0 8 (nI (N + 1))) o)) (d_0 hl hn30 (oe)) sh_L_112 rfl ⟨rfl, rfl, by decide, by decide⟩ rfl (Nat.le_of_ble_eq_true rfl) ⟨by show _ ≤ 600172; omega, by show _ ≤ 7300668; omega⟩ dL_law_555 ?_
        refine j_iload hc dL_law_558 rfl ?_
        refine j_icmp_ne hc 567 dL_law_560 (by decide) (fun h560 => by exact absurd rfl h560) (fun h560 => ?_)
        refine j_iconst hc (v := nI 1) dL_law_563 (by decide) ?_
        refine j_goto hc 568 dL_law_564 (by decide) ?_
        refine j_istore hc dL_law_568 rfl ?_
        refine j_goto hc 1425 dL_law_570 (by decide) ?_
        refine j_lv [(0, .ref bb), (1, .ref (ad 0)), (2, .ref (ad 15)), (3, .ref (ad 16)), (4, .ref (ad 17)), (5, .ref (ad 18)), (6, .ref (ad 19)), (7, .ref (ad 20)), (8, .ref (ad 21)), (9, .ref (ad 22)), (10, .ref (ad 23)), (11, .int (nI 1)), (12, .int (nI t)), (15, .int (nI y))] ⟨rfl, rfl, rfl, rfl, rfl, rfl, rfl, rfl, rfl, rfl, rfl, rfl, rfl, rfl, trivial⟩ ?_
        refine j_widen (k := 2000 + 1700 * t + 8) (n := 16000 + 14000 * t + 64) (by omega) (by omega) ?_
        exact next ad n h (N + 1) (Y) _ (mA (mA (mA (mA (mA S 0 5 ((S 0 5) + (nI l9))) 4 (24 + β) (nI 0)) 5 β (nI 6)) 8 (N % 60) (nI (((Y * 100) + β) * 10 + 6))) 0 8 (nI (N + 1))) (R9) (by omega) (by omega)
    | i + 1, hχ =>
      refine j_istore hc dL_law_452 rfl ?_
      refine j_bipush hc (v := -13) dL_law_454 (by decide) ?_
      refine j_istore hc dL_law_456 rfl ?_
      refine j_aload hc dL_law_458 rfl ?_
      refine j_iload hc dL_law_460 rfl ?_
      refine xl_5 hc (i := β) (by omega) (v := (S 5 β)) (rfl) dL_law_462 ?_
      refine j_iconst hc (v := nI 1) dL_law_463 (by decide) ?_
      refine j_icmp_ne hc 514 dL_law_464 (by decide) (fun h464 => ?_) (fun h464 => ?_)
      · -- taken
        refine j_aload hc dL_law_514 rfl ?_
        refine j_iload hc dL_law_516 rfl ?_
        refine xl_5 hc (i := β) (by omega) (v := (S 5 β)) (rfl) dL_law_518 ?_
        refine j_iconst hc (v := nI 1) dL_law_519 (by decide) ?_
        refine j_icmp_ne hc 549 dL_law_520 (by decide) (fun h520 => ?_) (fun h520 => by exact absurd h520 h464)
        refine j_aload_n hc dL_law_549 rfl ?_
        refine j_iconst hc (v := nI 0) dL_law_550 (by decide) ?_
        refine j_iload hc dL_law_551 rfl ?_
        refine j_iload hc dL_law_553 rfl ?_
        refine j_callSH hc (r := (some (Value.int (-13)), WD ad cs n E S o)) (dx_0 hl hn30 ((out_eq H hβ (x := i + 1) (by omega)).trans (if_neg h464))) sh_L_112 rfl ⟨rfl, rfl, by decide, by decide⟩ rfl (Nat.le_of_ble_eq_true rfl) ⟨by show _ ≤ 600172; omega, by show _ ≤ 7300668; omega⟩ dL_law_555 ?_
        refine j_iload hc dL_law_558 rfl ?_
        refine j_icmp_ne hc 567 dL_law_560 (by decide) (fun h560 => by exact absurd rfl h560) (fun h560 => ?_)
        refine j_iconst hc (v := nI 1) dL_law_563 (by decide) ?_
        refine j_goto hc 568 dL_law_564 (by decide) ?_
        refine j_istore hc dL_law_568 rfl ?_
        refine j_goto hc 1425 dL_law_570 (by decide) ?_
        refine j_lv [(0, .ref bb), (1, .ref (ad 0)), (2, .ref (ad 15)), (3, .ref (ad 16)), (4, .ref (ad 17)), (5, .ref (ad 18)), (6, .ref (ad 19)), (7, .ref (ad 20)), (8, .ref (ad 21)), (9, .ref (ad 22)), (10, .ref (ad 23)), (11, .int (nI 1)), (12, .int (nI t)), (15, .int (nI y))] ⟨rfl, rfl, rfl, rfl, rfl, rfl, rfl, rfl, rfl, rfl, rfl, rfl, rfl, rfl, trivial⟩ ?_
        refine j_widen (k := 2000 + 1700 * t + 8) (n := 16000 + 14000 * t + 64) (by omega) (by omega) ?_
        exact next ad n h (N) (Y) _ S (H) (by omega) (by omega)
      · -- not taken
        refine j_iload hc dL_law_467 rfl ?_
        refine j_if_ne hc 514 dL_law_469 (by decide) (fun h469 => ?_) (fun h469 => by exact absurd h469 (nI_n0 (by omega) (by omega)))
        refine j_aload hc dL_law_514 rfl ?_
        refine j_iload hc dL_law_516 rfl ?_
        refine xl_5 hc (i := β) (by omega) (v := (S 5 β)) (rfl) dL_law_518 ?_
        refine j_iconst hc (v := nI 1) dL_law_519 (by decide) ?_
        refine j_icmp_ne hc 549 dL_law_520 (by decide) (fun h520 => by exact absurd h464 h520) (fun h520 => ?_)
        refine j_aload_n hc dL_law_523 rfl ?_
        refine j_aload_n hc dL_law_524 rfl ?_
        refine j_aload hc dL_law_525 rfl ?_
        refine j_aload hc dL_law_527 rfl ?_
        refine j_aload hc dL_law_529 rfl ?_
        refine j_aload hc dL_law_531 rfl ?_
        refine j_aload hc dL_law_533 rfl ?_
        refine j_iload hc dL_law_535 rfl ?_
        refine j_iload hc dL_law_537 rfl ?_
        refine j_callXS hc (c_L_fails hl H hβ (by omega) (by omega) (i := i) (by omega)) sc_L_21 rfl ⟨rfl, rfl, by decide, by decide⟩ rfl (Nat.le_of_ble_eq_true rfl) ⟨by show _ ≤ 600172; omega, by show _ ≤ 7300668; omega⟩ dL_law_539 (fun x9 => ?_)
        obtain ⟨S9, R9⟩ := x9
        refine j_w (w' := WD ad cs n E S9 o) rfl ?_
        refine j_aload hc dL_law_542 rfl ?_
        refine j_iload hc dL_law_544 rfl ?_
        refine xl_5 hc (i := β) (by omega) (v := (S9 5 β)) (rfl) dL_law_546 ?_
        refine j_istore hc dL_law_547 rfl ?_
        refine j_aload_n hc dL_law_549 rfl ?_
        refine j_iconst hc (v := nI 0) dL_law_550 (by decide) ?_
        refine j_iload hc dL_law_551 rfl ?_
        refine j_iload hc dL_law_553 rfl ?_
        have oe : e_outcome n E (nI β) (nI (i + 1)) = (none, S9 5 β, e_fail E β (nI (i + 1))) := by rw [out_eq H hβ (x := i + 1) (by omega), if_pos h464, if_neg (show ¬ nI (i + 1) = nI 0 from nI_n0 (by omega) (by omega)), R9.st hβ]
        refine j_callSH hc (r := (some (Value.int (S9 5 β)), WD ad cs n (e_fail E β (nI (i + 1))) S9 o)) (d_0 hl hn30 (oe)) sh_L_112 rfl ⟨rfl, rfl, by decide, by decide⟩ rfl (Nat.le_of_ble_eq_true rfl) ⟨by show _ ≤ 600172; omega, by show _ ≤ 7300668; omega⟩ dL_law_555 ?_
        refine j_iload hc dL_law_558 rfl ?_
        refine j_icmp_ne hc 567 dL_law_560 (by decide) (fun h560 => by exact absurd rfl h560) (fun h560 => ?_)
        refine j_iconst hc (v := nI 1) dL_law_563 (by decide) ?_
        refine j_goto hc 568 dL_law_564 (by decide) ?_
        refine j_istore hc dL_law_568 rfl ?_
        refine j_goto hc 1425 dL_law_570 (by decide) ?_
        refine j_lv [(0, .ref bb), (1, .ref (ad 0)), (2, .ref (ad 15)), (3, .ref (ad 16)), (4, .ref (ad 17)), (5, .ref (ad 18)), (6, .ref (ad 19)), (7, .ref (ad 20)), (8, .ref (ad 21)), (9, .ref (ad 22)), (10, .ref (ad 23)), (11, .int (nI 1)), (12, .int (nI t)), (15, .int (nI y))] ⟨rfl, rfl, rfl, rfl, rfl, rfl, rfl, rfl, rfl, rfl, rfl, rfl, rfl, rfl, trivial⟩ ?_
        refine j_widen (k := 2000 + 1700 * t + 8) (n := 16000 + 14000 * t + 64) (by omega) (by omega) ?_
        exact next ad n h (N + 1) (Y) _ S9 (R9) (by omega) (by omega)
  have loop : ∀ (k j β : Nat), j + k = n → β < n → J p l e room_1 s m #[Value.ref bb] below meth c D A 21 (2000 + 1700 * t) (16000 + 14000 * t) Q (WD ad cs n E S o) 405 [(0, .ref bb), (1, .ref (ad 0)), (2, .ref (ad 15)), (3, .ref (ad 16)), (4, .ref (ad 17)), (5, .ref (ad 18)), (6, .ref (ad 19)), (7, .ref (ad 20)), (8, .ref (ad 21)), (9, .ref (ad 22)), (10, .ref (ad 23)), (11, .int (nI 1)), (12, .int (nI t)), (15, .int (nI y)), (16, .int (nI β)), (17, .int (nI j))] [] := by
    intro k
    induction k with
    | zero =>
      intro j β hj hβ
      refine j_iload hc dL_law_405 rfl ?_
      refine j_aload_n hc dL_law_407 rfl ?_
      refine j_iconst hc (v := nI 2) dL_law_408 (by decide) ?_
      refine xl_0 hc (i := 2) (by omega) (v := (nI n)) (G.n2) dL_law_409 ?_
      refine j_icmp_ge hc 445 dL_law_410 (by decide) (fun h410 => ?_) (fun h410 => by exact absurd (nI_le (by omega) (by omega)) h410)
      refine j_iload hc dL_law_445 rfl ?_
      refine j_bipush hc (v := nI 60) dL_law_447 (by decide) ?_
      refine j_idivE hc (by decide) (z := nI (y / 60)) (pk_div (by omega) (by omega) (by omega)) dL_law_449 ?_
      refine j_iconst hc (v := nI 5) dL_law_450 (by decide) ?_
      refine j_iremE hc (by decide) (z := nI ((y / 60) % 5)) (pk_rem (by omega) (by omega) (by omega)) dL_law_451 ?_
      refine j_lv [(0, .ref bb), (1, .ref (ad 0)), (2, .ref (ad 15)), (3, .ref (ad 16)), (4, .ref (ad 17)), (5, .ref (ad 18)), (6, .ref (ad 19)), (7, .ref (ad 20)), (8, .ref (ad 21)), (9, .ref (ad 22)), (10, .ref (ad 23)), (11, .int (nI 1)), (12, .int (nI t)), (15, .int (nI y)), (16, .int (nI β))] ⟨rfl, rfl, rfl, rfl, rfl, rfl, rfl, rfl, rfl, rfl, rfl, rfl, rfl, rfl, rfl, trivial⟩ ?_
      exact k452 _ β (by omega) hβ
    | succ k ih =>
      intro j β hj hβ
      refine j_iload hc dL_law_405 rfl ?_
      refine j_aload_n hc dL_law_407 rfl ?_
      refine j_iconst hc (v := nI 2) dL_law_408 (by decide) ?_
      refine xl_0 hc (i := 2) (by omega) (v := (nI n)) (G.n2) dL_law_409 ?_
      refine j_icmp_ge hc 445 dL_law_410 (by decide) (fun h410 => by exact absurd h410 (nI_ge (by omega) (by omega))) (fun h410 => ?_)
      refine j_iload hc dL_law_413 rfl ?_
      refine j_iconst hc (v := nI 5) dL_law_415 (by decide) ?_
      refine j_iremE hc (by decide) (z := nI (y % 5)) (pk_rem (by omega) (by omega) (by omega)) dL_law_416 ?_
      refine j_if_le hc 445 dL_law_417 (by decide) (fun h417 => ?_) (fun h417 => ?_)
      · -- taken
        refine j_iload hc dL_law_445 rfl ?_
        refine j_bipush hc (v := nI 60) dL_law_447 (by decide) ?_
        refine j_idivE hc (by decide) (z := nI (y / 60)) (pk_div (by omega) (by omega) (by omega)) dL_law_449 ?_
        refine j_iconst hc (v := nI 5) dL_law_450 (by decide) ?_
        refine j_iremE hc (by decide) (z := nI ((y / 60) % 5)) (pk_rem (by omega) (by omega) (by omega)) dL_law_451 ?_
        refine j_lv [(0, .ref bb), (1, .ref (ad 0)), (2, .ref (ad 15)), (3, .ref (ad 16)), (4, .ref (ad 17)), (5, .ref (ad 18)), (6, .ref (ad 19)), (7, .ref (ad 20)), (8, .ref (ad 21)), (9, .ref (ad 22)), (10, .ref (ad 23)), (11, .int (nI 1)), (12, .int (nI t)), (15, .int (nI y)), (16, .int (nI β))] ⟨rfl, rfl, rfl, rfl, rfl, rfl, rfl, rfl, rfl, rfl, rfl, rfl, rfl, rfl, rfl, trivial⟩ ?_
        exact k452 _ β (by omega) hβ
      · -- not taken
        refine j_aload hc dL_law_420 rfl ?_
        refine j_iload hc dL_law_422 rfl ?_
        refine xl_5 hc (i := β) (by omega) (v := (S 5 β)) (rfl) dL_law_424 ?_
        refine j_iconst hc (v := nI 1) dL_law_425 (by decide) ?_
        refine j_icmp_eq hc 445 dL_law_426 (by decide) (fun h426 => ?_) (fun h426 => ?_)
        · -- taken
          refine j_iload hc dL_law_445 rfl ?_
          refine j_bipush hc (v := nI 60) dL_law_447 (by decide) ?_
          refine j_idivE hc (by decide) (z := nI (y / 60)) (pk_div (by omega) (by omega) (by omega)) dL_law_449 ?_
          refine j_iconst hc (v := nI 5) dL_law_450 (by decide) ?_
          refine j_iremE hc (by decide) (z := nI ((y / 60) % 5)) (pk_rem (by omega) (by omega) (by omega)) dL_law_451 ?_
          refine j_lv [(0, .ref bb), (1, .ref (ad 0)), (2, .ref (ad 15)), (3, .ref (ad 16)), (4, .ref (ad 17)), (5, .ref (ad 18)), (6, .ref (ad 19)), (7, .ref (ad 20)), (8, .ref (ad 21)), (9, .ref (ad 22)), (10, .ref (ad 23)), (11, .int (nI 1)), (12, .int (nI t)), (15, .int (nI y)), (16, .int (nI β))] ⟨rfl, rfl, rfl, rfl, rfl, rfl, rfl, rfl, rfl, rfl, rfl, rfl, rfl, rfl, rfl, trivial⟩ ?_
          exact k452 _ β (by omega) hβ
        · -- not taken
          refine j_iload hc dL_law_429 rfl ?_
          refine j_iconst hc (v := nI 1) dL_law_431 (by decide) ?_
          refine j_iaddE hc (z := nI (β + 1)) (nI_add _ _) dL_law_432 ?_
          refine j_aload_n hc dL_law_433 rfl ?_
          refine j_iconst hc (v := nI 2) dL_law_434 (by decide) ?_
          refine xl_0 hc (i := 2) (by omega) (v := (nI n)) (G.n2) dL_law_435 ?_
          refine j_iremE hc (nI_n0 (by omega) (by omega)) (z := nI ((β + 1) % n)) (pk_rem (by omega) (by omega) (by omega)) dL_law_436 ?_
          refine j_istore hc dL_law_437 rfl ?_
          refine j_incE hc dL_law_439 rfl (v := nI (j + 1)) (nI_1 _) rfl ?_
          refine j_goto hc 405 dL_law_442 (by decide) ?_
          refine j_lv [(0, .ref bb), (1, .ref (ad 0)), (2, .ref (ad 15)), (3, .ref (ad 16)), (4, .ref (ad 17)), (5, .ref (ad 18)), (6, .ref (ad 19)), (7, .ref (ad 20)), (8, .ref (ad 21)), (9, .ref (ad 22)), (10, .ref (ad 23)), (11, .int (nI 1)), (12, .int (nI t)), (15, .int (nI y)), (16, .int (nI ((β + 1) % n))), (17, .int (nI (j + 1)))] ⟨rfl, rfl, rfl, rfl, rfl, rfl, rfl, rfl, rfl, rfl, rfl, rfl, rfl, rfl, rfl, rfl, trivial⟩ ?_
          exact ih (j + 1) _ (by omega) (Nat.mod_lt _ hn9)
  refine j_iconst hc (v := nI 0) dL_law_402 (by decide) ?_
  refine j_istore hc dL_law_403 rfl ?_
  refine j_lv [(0, .ref bb), (1, .ref (ad 0)), (2, .ref (ad 15)), (3, .ref (ad 16)), (4, .ref (ad 17)), (5, .ref (ad 18)), (6, .ref (ad 19)), (7, .ref (ad 20)), (8, .ref (ad 21)), (9, .ref (ad 22)), (10, .ref (ad 23)), (11, .int (nI 1)), (12, .int (nI t)), (15, .int (nI y)), (16, .int (nI β)), (17, .int (nI 0))] ⟨rfl, rfl, rfl, rfl, rfl, rfl, rfl, rfl, rfl, rfl, rfl, rfl, rfl, rfl, rfl, rfl, trivial⟩ ?_
  exact loop n 0 β (by omega) hβ
set_option maxRecDepth 100000 in
set_option maxHeartbeats 4000000 in
theorem op_pay {p : Program} {l : Launch} {e : Env} {s : State} {m : MethodId} {below : List Frame} {meth : Method} {c : Code} {D : va_G} {cs : Nat → ClassId} {sa : Nat → Nat} {A : Nat → Prop} {Q : State → Prop} {bb t y : Nat} {ad : Nat → Nat} {n h N Y : Nat} {E : ES} {S : MS} {o : Nat → Int64} (hc : CX p l e room_1 s m #[Value.ref bb] below meth c D cs sa A code 21 RL ret) (H : Rel h n N Y E S) (hN : N ≤ 1500 * t) (hY : Y ≤ 60 * t) (ht : t < 110) (hy : y < 134217728) (next : ∀ (ad : Nat → Nat) (n h N Y : Nat) (E : ES) (S : MS), Rel h n N Y E S → N ≤ 1500 * (t + 1) → Y ≤ 60 * (t + 1) → J p l e room_1 s m #[Value.ref bb] below meth c D A 21 (2000 + 1700 * t + 8) (16000 + 14000 * t + 64) Q (WD ad cs n E S o) 1425 [(0, .ref bb), (1, .ref (ad 0)), (2, .ref (ad 15)), (3, .ref (ad 16)), (4, .ref (ad 17)), (5, .ref (ad 18)), (6, .ref (ad 19)), (7, .ref (ad 20)), (8, .ref (ad 21)), (9, .ref (ad 22)), (10, .ref (ad 23)), (11, .int (nI 1)), (12, .int (nI t)), (15, .int (nI y))] []) {β : Nat} (hβ : β < n) : J p l e room_1 s m #[Value.ref bb] below meth c D A 21 (2000 + 1700 * t) (16000 + 14000 * t) Q (WD ad cs n E S o) 586 [(0, .ref bb), (1, .ref (ad 0)), (2, .ref (ad 15)), (3, .ref (ad 16)), (4, .ref (ad 17)), (5, .ref (ad 18)), (6, .ref (ad 19)), (7, .ref (ad 20)), (8, .ref (ad 21)), (9, .ref (ad 22)), (10, .ref (ad 23)), (11, .int (nI 1)), (12, .int (nI t)), (15, .int (nI y)), (16, .int (nI β))] [] := by
  have hl := hc.2.2.2.2.2.2
  have G := H.1
  have n12 := G.n12
  have hn30 : n ≤ 30 := by omega
  have h60 := G.h60
  obtain ⟨l9, hl9, el⟩ := H.lv hβ
  have k645 : ∀ v, 1 ≤ v → v ≤ 9999 → J p l e room_1 s m #[Value.ref bb] below meth c D A 21 (2000 + 1700 * t) (16000 + 14000 * t) Q (WD ad cs n E S o) 645 [(0, .ref bb), (1, .ref (ad 0)), (2, .ref (ad 15)), (3, .ref (ad 16)), (4, .ref (ad 17)), (5, .ref (ad 18)), (6, .ref (ad 19)), (7, .ref (ad 20)), (8, .ref (ad 21)), (9, .ref (ad 22)), (10, .ref (ad 23)), (11, .int (nI 1)), (12, .int (nI t)), (15, .int (nI y)), (16, .int (nI β))] [.int (nI v)] := by
    intro v v1 v9
    have pe := pay_eq H hβ v1 v9
    have ht9 : (e_pay n E (nI β) (nI v)).1 = none ∨ e_pay n E (nI β) (nI v) = (some xIS, 0, E) := by
      rw [pe]
      split
      · exact Or.inr rfl
      · split
        · exact Or.inr rfl
        · split
          · exact Or.inl rfl
          · exact Or.inr rfl
    refine j_istore hc dL_law_645 rfl ?_
    refine j_aload_n hc dL_law_647 rfl ?_
    refine j_iconst hc (v := nI 1) dL_law_648 (by decide) ?_
    refine j_iload hc dL_law_649 rfl ?_
    refine j_iload hc dL_law_651 rfl ?_
    refine j_callSH hc (r := (some (Value.int (dval (e_pay n E (nI β) (nI v)))), WD ad cs n (e_pay n E (nI β) (nI v)).2.2 S o)) (c_L_does_1 hl hn30 ht9) sh_L_112 rfl ⟨rfl, rfl, by decide, by decide⟩ rfl (Nat.le_of_ble_eq_true rfl) ⟨by show _ ≤ 600172; omega, by show _ ≤ 7300668; omega⟩ dL_law_653 ?_
    refine j_aload_n hc dL_law_656 rfl ?_
    refine j_aload hc dL_law_657 rfl ?_
    refine j_aload hc dL_law_659 rfl ?_
    refine j_aload hc dL_law_661 rfl ?_
    refine j_iload hc dL_law_663 rfl ?_
    refine j_iload hc dL_law_665 rfl ?_
    refine j_callXS hc (c_L_pays hl H hβ (by omega) (by omega) v1 v9) sc_L_116 rfl ⟨rfl, rfl, by decide, by decide⟩ rfl (Nat.le_of_ble_eq_true rfl) ⟨by show _ ≤ 600172; omega, by show _ ≤ 7300668; omega⟩ dL_law_667 (fun x9 => ?_)
    obtain ⟨⟨S9, N9⟩, hN9, R9⟩ := x9
    refine j_w (w' := WD ad cs n (e_pay n E (nI β) (nI v)).2.2 S9 o) rfl ?_
    refine j_icmp_ne hc 677 dL_law_670 (by decide) (fun h670 => by exact absurd rfl h670) (fun h670 => ?_)
    refine j_iconst hc (v := nI 1) dL_law_673 (by decide) ?_
    refine j_goto hc 678 dL_law_674 (by decide) ?_
    refine j_istore hc dL_law_678 rfl ?_
    refine j_goto hc 1425 dL_law_680 (by decide) ?_
    have hN9 : N9 ≤ N + 1 := hN9
    refine j_lv [(0, .ref bb), (1, .ref (ad 0)), (2, .ref (ad 15)), (3, .ref (ad 16)), (4, .ref (ad 17)), (5, .ref (ad 18)), (6, .ref (ad 19)), (7, .ref (ad 20)), (8, .ref (ad 21)), (9, .ref (ad 22)), (10, .ref (ad 23)), (11, .int (nI 1)), (12, .int (nI t)), (15, .int (nI y))] ⟨rfl, rfl, rfl, rfl, rfl, rfl, rfl, rfl, rfl, rfl, rfl, rfl, rfl, rfl, trivial⟩ ?_
    refine j_widen (k := 2000 + 1700 * t + 8) (n := 16000 + 14000 * t + 64) (by omega) (by omega) ?_
    exact next ad n h (N9) (Y) _ S9 (R9) (by omega) (by omega)
  refine j_iload hc dL_law_586 rfl ?_
  refine j_bipush hc (v := nI 12) dL_law_588 (by decide) ?_
  refine j_idivE hc (by decide) (z := nI (y / 12)) (pk_div (by omega) (by omega) (by omega)) dL_law_590 ?_
  refine j_iconst hc (v := nI 4) dL_law_591 (by decide) ?_
  refine j_iremE hc (by decide) (z := nI ((y / 12) % 4)) (pk_rem (by omega) (by omega) (by omega)) dL_law_592 ?_
  refine j_if_ne hc 618 dL_law_593 (by decide) (fun h593 => ?_) (fun h593 => ?_)
  · -- taken
    refine j_iconst hc (v := nI 1) dL_law_618 (by decide) ?_
    refine j_iload hc dL_law_619 rfl ?_
    refine j_bipush hc (v := nI 48) dL_law_621 (by decide) ?_
    refine j_idivE hc (by decide) (z := nI (y / 48)) (pk_div (by omega) (by omega) (by omega)) dL_law_623 ?_
    refine j_sipush hc (v := nI 9999) dL_law_624 (by decide) ?_
    refine j_iremE hc (by decide) (z := nI ((y / 48) % 9999)) (pk_rem (by omega) (by omega) (by omega)) dL_law_627 ?_
    refine j_iload hc dL_law_628 rfl ?_
    refine j_iconst hc (v := nI 3) dL_law_630 (by decide) ?_
    refine j_iremE hc (by decide) (z := nI (y % 3)) (pk_rem (by omega) (by omega) (by omega)) dL_law_631 ?_
    refine j_if_ne hc 641 dL_law_632 (by decide) (fun h632 => ?_) (fun h632 => ?_)
    · -- taken
      refine j_bipush hc (v := nI 60) dL_law_641 (by decide) ?_
      refine j_iremE hc (by decide) (z := nI (((y / 48) % 9999) % 60)) (pk_rem (by omega) (by omega) (by omega)) dL_law_643 ?_
      refine j_iaddE hc (z := nI (1 + (((y / 48) % 9999) % 60))) (nI_add _ _) dL_law_644 ?_
      refine j_lv [(0, .ref bb), (1, .ref (ad 0)), (2, .ref (ad 15)), (3, .ref (ad 16)), (4, .ref (ad 17)), (5, .ref (ad 18)), (6, .ref (ad 19)), (7, .ref (ad 20)), (8, .ref (ad 21)), (9, .ref (ad 22)), (10, .ref (ad 23)), (11, .int (nI 1)), (12, .int (nI t)), (15, .int (nI y)), (16, .int (nI β))] ⟨rfl, rfl, rfl, rfl, rfl, rfl, rfl, rfl, rfl, rfl, rfl, rfl, rfl, rfl, rfl, trivial⟩ ?_
      exact k645 (1 + (((y / 48) % 9999) % 60)) (by omega) (by omega)
    · -- not taken
      refine j_sipush hc (v := nI 9999) dL_law_635 (by decide) ?_
      refine j_goto hc 643 dL_law_638 (by decide) ?_
      refine j_iremE hc (by decide) (z := nI (((y / 48) % 9999) % 9999)) (pk_rem (by omega) (by omega) (by omega)) dL_law_643 ?_
      refine j_iaddE hc (z := nI (1 + (((y / 48) % 9999) % 9999))) (nI_add _ _) dL_law_644 ?_
      refine j_lv [(0, .ref bb), (1, .ref (ad 0)), (2, .ref (ad 15)), (3, .ref (ad 16)), (4, .ref (ad 17)), (5, .ref (ad 18)), (6, .ref (ad 19)), (7, .ref (ad 20)), (8, .ref (ad 21)), (9, .ref (ad 22)), (10, .ref (ad 23)), (11, .int (nI 1)), (12, .int (nI t)), (15, .int (nI y)), (16, .int (nI β))] ⟨rfl, rfl, rfl, rfl, rfl, rfl, rfl, rfl, rfl, rfl, rfl, rfl, rfl, rfl, rfl, trivial⟩ ?_
      exact k645 (1 + (((y / 48) % 9999) % 9999)) (by omega) (by omega)
  · -- not taken
    refine j_aload hc dL_law_596 rfl ?_
    refine j_bipush hc (v := nI 24) dL_law_598 (by decide) ?_
    refine j_iload hc dL_law_600 rfl ?_
    refine j_iaddE hc (z := nI (24 + β)) (nI_add _ _) dL_law_602 ?_
    refine xl_4 hc (i := (24 + β)) (by omega) (v := (nI l9)) (el) dL_law_603 ?_
    refine j_if_le hc 618 dL_law_604 (by decide) (fun h604 => ?_) (fun h604 => ?_)
    · -- taken
      refine j_iconst hc (v := nI 1) dL_law_618 (by decide) ?_
      refine j_iload hc dL_law_619 rfl ?_
      refine j_bipush hc (v := nI 48) dL_law_621 (by decide) ?_
      refine j_idivE hc (by decide) (z := nI (y / 48)) (pk_div (by omega) (by omega) (by omega)) dL_law_623 ?_
      refine j_sipush hc (v := nI 9999) dL_law_624 (by decide) ?_
      refine j_iremE hc (by decide) (z := nI ((y / 48) % 9999)) (pk_rem (by omega) (by omega) (by omega)) dL_law_627 ?_
      refine j_iload hc dL_law_628 rfl ?_
      refine j_iconst hc (v := nI 3) dL_law_630 (by decide) ?_
      refine j_iremE hc (by decide) (z := nI (y % 3)) (pk_rem (by omega) (by omega) (by omega)) dL_law_631 ?_
      refine j_if_ne hc 641 dL_law_632 (by decide) (fun h632 => ?_) (fun h632 => ?_)
      · -- taken
        refine j_bipush hc (v := nI 60) dL_law_641 (by decide) ?_
        refine j_iremE hc (by decide) (z := nI (((y / 48) % 9999) % 60)) (pk_rem (by omega) (by omega) (by omega)) dL_law_643 ?_
        refine j_iaddE hc (z := nI (1 + (((y / 48) % 9999) % 60))) (nI_add _ _) dL_law_644 ?_
        refine j_lv [(0, .ref bb), (1, .ref (ad 0)), (2, .ref (ad 15)), (3, .ref (ad 16)), (4, .ref (ad 17)), (5, .ref (ad 18)), (6, .ref (ad 19)), (7, .ref (ad 20)), (8, .ref (ad 21)), (9, .ref (ad 22)), (10, .ref (ad 23)), (11, .int (nI 1)), (12, .int (nI t)), (15, .int (nI y)), (16, .int (nI β))] ⟨rfl, rfl, rfl, rfl, rfl, rfl, rfl, rfl, rfl, rfl, rfl, rfl, rfl, rfl, rfl, trivial⟩ ?_
        exact k645 (1 + (((y / 48) % 9999) % 60)) (by omega) (by omega)
      · -- not taken
        refine j_sipush hc (v := nI 9999) dL_law_635 (by decide) ?_
        refine j_goto hc 643 dL_law_638 (by decide) ?_
        refine j_iremE hc (by decide) (z := nI (((y / 48) % 9999) % 9999)) (pk_rem (by omega) (by omega) (by omega)) dL_law_643 ?_
        refine j_iaddE hc (z := nI (1 + (((y / 48) % 9999) % 9999))) (nI_add _ _) dL_law_644 ?_
        refine j_lv [(0, .ref bb), (1, .ref (ad 0)), (2, .ref (ad 15)), (3, .ref (ad 16)), (4, .ref (ad 17)), (5, .ref (ad 18)), (6, .ref (ad 19)), (7, .ref (ad 20)), (8, .ref (ad 21)), (9, .ref (ad 22)), (10, .ref (ad 23)), (11, .int (nI 1)), (12, .int (nI t)), (15, .int (nI y)), (16, .int (nI β))] ⟨rfl, rfl, rfl, rfl, rfl, rfl, rfl, rfl, rfl, rfl, rfl, rfl, rfl, rfl, rfl, trivial⟩ ?_
        exact k645 (1 + (((y / 48) % 9999) % 9999)) (by omega) (by omega)
    · -- not taken
      have hl0 : 0 < l9 := by
        by_cases z : l9 = 0
        · exact absurd (by rw [z]; decide) h604
        · omega
      refine j_aload hc dL_law_607 rfl ?_
      refine j_bipush hc (v := nI 24) dL_law_609 (by decide) ?_
      refine j_iload hc dL_law_611 rfl ?_
      refine j_iaddE hc (z := nI (24 + β)) (nI_add _ _) dL_law_613 ?_
      refine xl_4 hc (i := (24 + β)) (by omega) (v := (nI l9)) (el) dL_law_614 ?_
      refine j_goto hc 645 dL_law_615 (by decide) ?_
      refine j_lv [(0, .ref bb), (1, .ref (ad 0)), (2, .ref (ad 15)), (3, .ref (ad 16)), (4, .ref (ad 17)), (5, .ref (ad 18)), (6, .ref (ad 19)), (7, .ref (ad 20)), (8, .ref (ad 21)), (9, .ref (ad 22)), (10, .ref (ad 23)), (11, .int (nI 1)), (12, .int (nI t)), (15, .int (nI y)), (16, .int (nI β))] ⟨rfl, rfl, rfl, rfl, rfl, rfl, rfl, rfl, rfl, rfl, rfl, rfl, rfl, rfl, rfl, trivial⟩ ?_
      exact k645 l9 (by omega) (by omega)
set_option maxRecDepth 100000 in
set_option maxHeartbeats 4000000 in
theorem op_prom {p : Program} {l : Launch} {e : Env} {s : State} {m : MethodId} {below : List Frame} {meth : Method} {c : Code} {D : va_G} {cs : Nat → ClassId} {sa : Nat → Nat} {A : Nat → Prop} {Q : State → Prop} {bb t y : Nat} {ad : Nat → Nat} {n h N Y : Nat} {E : ES} {S : MS} {o : Nat → Int64} (hc : CX p l e room_1 s m #[Value.ref bb] below meth c D cs sa A code 21 RL ret) (H : Rel h n N Y E S) (hN : N ≤ 1500 * t) (hY : Y ≤ 60 * t) (ht : t < 110) (hy : y < 134217728) (next : ∀ (ad : Nat → Nat) (n h N Y : Nat) (E : ES) (S : MS), Rel h n N Y E S → N ≤ 1500 * (t + 1) → Y ≤ 60 * (t + 1) → J p l e room_1 s m #[Value.ref bb] below meth c D A 21 (2000 + 1700 * t + 8) (16000 + 14000 * t + 64) Q (WD ad cs n E S o) 1425 [(0, .ref bb), (1, .ref (ad 0)), (2, .ref (ad 15)), (3, .ref (ad 16)), (4, .ref (ad 17)), (5, .ref (ad 18)), (6, .ref (ad 19)), (7, .ref (ad 20)), (8, .ref (ad 21)), (9, .ref (ad 22)), (10, .ref (ad 23)), (11, .int (nI 1)), (12, .int (nI t)), (15, .int (nI y))] []) {β : Nat} (hβ : β < n) : J p l e room_1 s m #[Value.ref bb] below meth c D A 21 (2000 + 1700 * t) (16000 + 14000 * t) Q (WD ad cs n E S o) 696 [(0, .ref bb), (1, .ref (ad 0)), (2, .ref (ad 15)), (3, .ref (ad 16)), (4, .ref (ad 17)), (5, .ref (ad 18)), (6, .ref (ad 19)), (7, .ref (ad 20)), (8, .ref (ad 21)), (9, .ref (ad 22)), (10, .ref (ad 23)), (11, .int (nI 1)), (12, .int (nI t)), (15, .int (nI y)), (16, .int (nI β))] [] := by
  have hl := hc.2.2.2.2.2.2
  have G := H.1
  have n12 := G.n12
  have hn30 : n ≤ 30 := by omega
  have h60 := G.h60
  have k718 : ∀ d, 1 ≤ d → d ≤ 30 → J p l e room_1 s m #[Value.ref bb] below meth c D A 21 (2000 + 1700 * t) (16000 + 14000 * t) Q (WD ad cs n E S o) 718 [(0, .ref bb), (1, .ref (ad 0)), (2, .ref (ad 15)), (3, .ref (ad 16)), (4, .ref (ad 17)), (5, .ref (ad 18)), (6, .ref (ad 19)), (7, .ref (ad 20)), (8, .ref (ad 21)), (9, .ref (ad 22)), (10, .ref (ad 23)), (11, .int (nI 1)), (12, .int (nI t)), (15, .int (nI y)), (16, .int (nI β))] [.int (nI d)] := by
    intro d d1 d30
    have pe := prom_eq H hβ d1 d30
    refine j_istore hc dL_law_718 rfl ?_
    refine j_bipush hc (v := -13) dL_law_720 (by decide) ?_
    refine j_istore hc dL_law_722 rfl ?_
    refine j_aload hc dL_law_724 rfl ?_
    refine j_iload hc dL_law_726 rfl ?_
    refine xl_5 hc (i := β) (by omega) (v := (S 5 β)) (rfl) dL_law_728 ?_
    refine j_if_eq hc 750 dL_law_729 (by decide) (fun h729 => ?_) (fun h729 => ?_)
    · -- taken
      refine j_aload hc dL_law_750 rfl ?_
      refine j_bipush hc (v := nI 36) dL_law_752 (by decide) ?_
      refine j_iload hc dL_law_754 rfl ?_
      refine j_iaddE hc (z := nI (36 + β)) (nI_add _ _) dL_law_756 ?_
      refine xl_5 hc (i := (36 + β)) (by omega) (v := (S 5 (36 + β))) (rfl) dL_law_757 ?_
      refine j_iconst hc (v := nI 2) dL_law_758 (by decide) ?_
      refine j_icmp_ge hc 833 dL_law_759 (by decide) (fun h759 => ?_) (fun h759 => ?_)
      · -- taken
        refine j_aload_n hc dL_law_833 rfl ?_
        refine j_iconst hc (v := nI 2) dL_law_834 (by decide) ?_
        refine j_iload hc dL_law_835 rfl ?_
        refine j_iload hc dL_law_837 rfl ?_
        refine j_callSH hc (r := (some (Value.int (-13)), WD ad cs n E S o)) (dx_2 hl hn30 (pe.trans (if_neg (fun w9 => absurd h759 (fun z9 => by have t9 := w9.2; rw [i32_lt] at t9; rw [i32_le] at z9; omega))))) sh_L_112 rfl ⟨rfl, rfl, by decide, by decide⟩ rfl (Nat.le_of_ble_eq_true rfl) ⟨by show _ ≤ 600172; omega, by show _ ≤ 7300668; omega⟩ dL_law_839 ?_
        refine j_iload hc dL_law_842 rfl ?_
        refine j_icmp_ne hc 851 dL_law_844 (by decide) (fun h844 => by exact absurd rfl h844) (fun h844 => ?_)
        refine j_iconst hc (v := nI 1) dL_law_847 (by decide) ?_
        refine j_goto hc 852 dL_law_848 (by decide) ?_
        refine j_istore hc dL_law_852 rfl ?_
        refine j_goto hc 1425 dL_law_854 (by decide) ?_
        refine j_lv [(0, .ref bb), (1, .ref (ad 0)), (2, .ref (ad 15)), (3, .ref (ad 16)), (4, .ref (ad 17)), (5, .ref (ad 18)), (6, .ref (ad 19)), (7, .ref (ad 20)), (8, .ref (ad 21)), (9, .ref (ad 22)), (10, .ref (ad 23)), (11, .int (nI 1)), (12, .int (nI t)), (15, .int (nI y))] ⟨rfl, rfl, rfl, rfl, rfl, rfl, rfl, rfl, rfl, rfl, rfl, rfl, rfl, rfl, trivial⟩ ?_
        refine j_widen (k := 2000 + 1700 * t + 8) (n := 16000 + 14000 * t + 64) (by omega) (by omega) ?_
        exact next ad n h (N) (Y) _ S (H) (by omega) (by omega)
      · -- not taken
        refine j_aload hc dL_law_762 rfl ?_
        refine j_bipush hc (v := nI 36) dL_law_764 (by decide) ?_
        refine j_iload hc dL_law_766 rfl ?_
        refine j_iaddE hc (z := nI (36 + β)) (nI_add _ _) dL_law_768 ?_
        refine j_dup2 hc dL_law_769 rfl rfl ?_
        refine xl_5 hc (i := (36 + β)) (by omega) (v := (S 5 (36 + β))) (rfl) dL_law_770 ?_
        refine j_iconst hc (v := nI 1) dL_law_771 (by decide) ?_
        refine j_iadd hc dL_law_772 ?_
        refine xs_5 hc (i := (36 + β)) (by omega) dL_law_773 ?_
        refine j_aload hc dL_law_774 rfl ?_
        refine j_iload hc dL_law_776 rfl ?_
        refine j_aload hc dL_law_778 rfl ?_
        refine j_iload hc dL_law_780 rfl ?_
        refine xl_5 hc (i := β) (by omega) (v := (S 5 β)) (Eq.trans (mA_c (by omega)) (rfl)) dL_law_782 ?_
        refine xs_7 hc (i := β) (by omega) dL_law_783 ?_
        refine j_aload hc dL_law_784 rfl ?_
        refine j_bipush hc (v := nI 12) dL_law_786 (by decide) ?_
        refine j_iload hc dL_law_788 rfl ?_
        refine j_iaddE hc (z := nI (12 + β)) (nI_add _ _) dL_law_790 ?_
        refine j_aload hc dL_law_791 rfl ?_
        refine j_bipush hc (v := nI 12) dL_law_793 (by decide) ?_
        refine j_iload hc dL_law_795 rfl ?_
        refine j_iaddE hc (z := nI (12 + β)) (nI_add _ _) dL_law_797 ?_
        refine xl_5 hc (i := (12 + β)) (by omega) (v := (S 5 (12 + β))) (Eq.trans (mA_ro (by decide)) (Eq.trans (mA_c (by omega)) (rfl))) dL_law_798 ?_
        refine j_aload_n hc dL_law_799 rfl ?_
        refine j_iconst hc (v := nI 0) dL_law_800 (by decide) ?_
        refine xl_0 hc (i := 0) (by omega) (v := (nI Y)) (Eq.trans (mA_ro (by decide)) (Eq.trans (mA_ro (by decide)) (G.d0))) dL_law_801 ?_
        refine j_isub hc dL_law_802 ?_
        refine xs_7 hc (i := (12 + β)) (by omega) dL_law_803 ?_
        refine j_aload_n hc dL_law_804 rfl ?_
        refine j_iconst hc (v := nI 0) dL_law_805 (by decide) ?_
        refine xl_0 hc (i := 0) (by omega) (v := (nI Y)) (Eq.trans (mA_ro (by decide)) (Eq.trans (mA_ro (by decide)) (Eq.trans (mA_ro (by decide)) (G.d0)))) dL_law_806 ?_
        refine j_iload hc dL_law_807 rfl ?_
        refine j_iaddE hc (z := nI (Y + d)) (nI_add _ _) dL_law_809 ?_
        refine j_istore hc dL_law_810 rfl ?_
        refine j_aload hc dL_law_812 rfl ?_
        refine j_bipush hc (v := nI 12) dL_law_814 (by decide) ?_
        refine j_iload hc dL_law_816 rfl ?_
        refine j_iaddE hc (z := nI (12 + β)) (nI_add _ _) dL_law_818 ?_
        refine j_iload hc dL_law_819 rfl ?_
        refine xs_5 hc (i := (12 + β)) (by omega) dL_law_821 ?_
        refine j_aload_n hc dL_law_822 rfl ?_
        refine j_aload hc dL_law_823 rfl ?_
        refine j_aload hc dL_law_825 rfl ?_
        refine j_iload hc dL_law_827 rfl ?_
        refine j_iconst hc (v := nI 4) dL_law_829 (by decide) ?_
        refine j_callS' hc (c_L_enters hl (S := (mA (mA (mA (mA S 5 (36 + β) ((S 5 (36 + β)) + (nI 1))) 7 β (S 5 β)) 7 (12 + β) ((S 5 (12 + β)) - (nI Y))) 5 (12 + β) (nI (Y + d)))) (Y := Y) (N := N) (b := β) (σ := 4) (by omega) G.d0 G.t8 (by omega)) sc_L_17 rfl ⟨rfl, rfl, by decide, by decide⟩ rfl (Nat.le_of_ble_eq_true rfl) ⟨by show _ ≤ 600172; omega, by show _ ≤ 7300668; omega⟩ dL_law_830 (fun _ h9 => by cases h9) (fun _ => ?_)
        refine j_aload_n hc dL_law_833 rfl ?_
        refine j_iconst hc (v := nI 2) dL_law_834 (by decide) ?_
        refine j_iload hc dL_law_835 rfl ?_
        refine j_iload hc dL_law_837 rfl ?_
        have hs9 : S 5 β = nI 0 ∨ S 5 β = nI 2 ∨ S 5 β = nI 3 := Or.inl h729
        have hp9 : S 5 (36 + β) < nI 2 := by
          rw [i32_lt]
          have z9 := h759
          rw [i32_le] at z9
          omega
        have R9 := sim_prom H hβ (by omega) (by omega) (d := d) hs9
        refine j_callSH hc (r := (some (Value.int (nI (Y + d))), WD ad cs n (e_prom1 E β (nI d)) (mA (mA (mA (mA (mA (mA (mA S 5 (36 + β) ((S 5 (36 + β)) + (nI 1))) 7 β (S 5 β)) 7 (12 + β) ((S 5 (12 + β)) - (nI Y))) 5 (12 + β) (nI (Y + d))) 5 β (nI 4)) 8 (N % 60) (nI (((Y * 100) + β) * 10 + 4))) 0 8 (nI (N + 1))) o)) (d_2 hl hn30 ((pe.trans (if_pos ⟨hs9, hp9⟩)).trans (by rw [R9.2]))) sh_L_112 rfl ⟨rfl, rfl, by decide, by decide⟩ rfl (Nat.le_of_ble_eq_true rfl) ⟨by show _ ≤ 600172; omega, by show _ ≤ 7300668; omega⟩ dL_law_839 ?_
        refine j_iload hc dL_law_842 rfl ?_
        refine j_icmp_ne hc 851 dL_law_844 (by decide) (fun h844 => by exact absurd rfl h844) (fun h844 => ?_)
        refine j_iconst hc (v := nI 1) dL_law_847 (by decide) ?_
        refine j_goto hc 852 dL_law_848 (by decide) ?_
        refine j_istore hc dL_law_852 rfl ?_
        refine j_goto hc 1425 dL_law_854 (by decide) ?_
        refine j_lv [(0, .ref bb), (1, .ref (ad 0)), (2, .ref (ad 15)), (3, .ref (ad 16)), (4, .ref (ad 17)), (5, .ref (ad 18)), (6, .ref (ad 19)), (7, .ref (ad 20)), (8, .ref (ad 21)), (9, .ref (ad 22)), (10, .ref (ad 23)), (11, .int (nI 1)), (12, .int (nI t)), (15, .int (nI y))] ⟨rfl, rfl, rfl, rfl, rfl, rfl, rfl, rfl, rfl, rfl, rfl, rfl, rfl, rfl, trivial⟩ ?_
        refine j_widen (k := 2000 + 1700 * t + 8) (n := 16000 + 14000 * t + 64) (by omega) (by omega) ?_
        exact next ad n h (N + 1) (Y) _ (mA (mA (mA (mA (mA (mA (mA S 5 (36 + β) ((S 5 (36 + β)) + (nI 1))) 7 β (S 5 β)) 7 (12 + β) ((S 5 (12 + β)) - (nI Y))) 5 (12 + β) (nI (Y + d))) 5 β (nI 4)) 8 (N % 60) (nI (((Y * 100) + β) * 10 + 4))) 0 8 (nI (N + 1))) (R9.1) (by omega) (by omega)
    · -- not taken
      refine j_aload hc dL_law_732 rfl ?_
      refine j_iload hc dL_law_734 rfl ?_
      refine xl_5 hc (i := β) (by omega) (v := (S 5 β)) (rfl) dL_law_736 ?_
      refine j_iconst hc (v := nI 2) dL_law_737 (by decide) ?_
      refine j_icmp_eq hc 750 dL_law_738 (by decide) (fun h738 => ?_) (fun h738 => ?_)
      · -- taken
        refine j_aload hc dL_law_750 rfl ?_
        refine j_bipush hc (v := nI 36) dL_law_752 (by decide) ?_
        refine j_iload hc dL_law_754 rfl ?_
        refine j_iaddE hc (z := nI (36 + β)) (nI_add _ _) dL_law_756 ?_
        refine xl_5 hc (i := (36 + β)) (by omega) (v := (S 5 (36 + β))) (rfl) dL_law_757 ?_
        refine j_iconst hc (v := nI 2) dL_law_758 (by decide) ?_
        refine j_icmp_ge hc 833 dL_law_759 (by decide) (fun h759 => ?_) (fun h759 => ?_)
        · -- taken
          refine j_aload_n hc dL_law_833 rfl ?_
          refine j_iconst hc (v := nI 2) dL_law_834 (by decide) ?_
          refine j_iload hc dL_law_835 rfl ?_
          refine j_iload hc dL_law_837 rfl ?_
          refine j_callSH hc (r := (some (Value.int (-13)), WD ad cs n E S o)) (dx_2 hl hn30 (pe.trans (if_neg (fun w9 => absurd h759 (fun z9 => by have t9 := w9.2; rw [i32_lt] at t9; rw [i32_le] at z9; omega))))) sh_L_112 rfl ⟨rfl, rfl, by decide, by decide⟩ rfl (Nat.le_of_ble_eq_true rfl) ⟨by show _ ≤ 600172; omega, by show _ ≤ 7300668; omega⟩ dL_law_839 ?_
          refine j_iload hc dL_law_842 rfl ?_
          refine j_icmp_ne hc 851 dL_law_844 (by decide) (fun h844 => by exact absurd rfl h844) (fun h844 => ?_)
          refine j_iconst hc (v := nI 1) dL_law_847 (by decide) ?_
          refine j_goto hc 852 dL_law_848 (by decide) ?_
          refine j_istore hc dL_law_852 rfl ?_
          refine j_goto hc 1425 dL_law_854 (by decide) ?_
          refine j_lv [(0, .ref bb), (1, .ref (ad 0)), (2, .ref (ad 15)), (3, .ref (ad 16)), (4, .ref (ad 17)), (5, .ref (ad 18)), (6, .ref (ad 19)), (7, .ref (ad 20)), (8, .ref (ad 21)), (9, .ref (ad 22)), (10, .ref (ad 23)), (11, .int (nI 1)), (12, .int (nI t)), (15, .int (nI y))] ⟨rfl, rfl, rfl, rfl, rfl, rfl, rfl, rfl, rfl, rfl, rfl, rfl, rfl, rfl, trivial⟩ ?_
          refine j_widen (k := 2000 + 1700 * t + 8) (n := 16000 + 14000 * t + 64) (by omega) (by omega) ?_
          exact next ad n h (N) (Y) _ S (H) (by omega) (by omega)
        · -- not taken
          refine j_aload hc dL_law_762 rfl ?_
          refine j_bipush hc (v := nI 36) dL_law_764 (by decide) ?_
          refine j_iload hc dL_law_766 rfl ?_
          refine j_iaddE hc (z := nI (36 + β)) (nI_add _ _) dL_law_768 ?_
          refine j_dup2 hc dL_law_769 rfl rfl ?_
          refine xl_5 hc (i := (36 + β)) (by omega) (v := (S 5 (36 + β))) (rfl) dL_law_770 ?_
          refine j_iconst hc (v := nI 1) dL_law_771 (by decide) ?_
          refine j_iadd hc dL_law_772 ?_
          refine xs_5 hc (i := (36 + β)) (by omega) dL_law_773 ?_
          refine j_aload hc dL_law_774 rfl ?_
          refine j_iload hc dL_law_776 rfl ?_
          refine j_aload hc dL_law_778 rfl ?_
          refine j_iload hc dL_law_780 rfl ?_
          refine xl_5 hc (i := β) (by omega) (v := (S 5 β)) (Eq.trans (mA_c (by omega)) (rfl)) dL_law_782 ?_
          refine xs_7 hc (i := β) (by omega) dL_law_783 ?_
          refine j_aload hc dL_law_784 rfl ?_
          refine j_bipush hc (v := nI 12) dL_law_786 (by decide) ?_
          refine j_iload hc dL_law_788 rfl ?_
          refine j_iaddE hc (z := nI (12 + β)) (nI_add _ _) dL_law_790 ?_
          refine j_aload hc dL_law_791 rfl ?_
          refine j_bipush hc (v := nI 12) dL_law_793 (by decide) ?_
          refine j_iload hc dL_law_795 rfl ?_
          refine j_iaddE hc (z := nI (12 + β)) (nI_add _ _) dL_law_797 ?_
          refine xl_5 hc (i := (12 + β)) (by omega) (v := (S 5 (12 + β))) (Eq.trans (mA_ro (by decide)) (Eq.trans (mA_c (by omega)) (rfl))) dL_law_798 ?_
          refine j_aload_n hc dL_law_799 rfl ?_
          refine j_iconst hc (v := nI 0) dL_law_800 (by decide) ?_
          refine xl_0 hc (i := 0) (by omega) (v := (nI Y)) (Eq.trans (mA_ro (by decide)) (Eq.trans (mA_ro (by decide)) (G.d0))) dL_law_801 ?_
          refine j_isub hc dL_law_802 ?_
          refine xs_7 hc (i := (12 + β)) (by omega) dL_law_803 ?_
          refine j_aload_n hc dL_law_804 rfl ?_
          refine j_iconst hc (v := nI 0) dL_law_805 (by decide) ?_
          refine xl_0 hc (i := 0) (by omega) (v := (nI Y)) (Eq.trans (mA_ro (by decide)) (Eq.trans (mA_ro (by decide)) (Eq.trans (mA_ro (by decide)) (G.d0)))) dL_law_806 ?_
          refine j_iload hc dL_law_807 rfl ?_
          refine j_iaddE hc (z := nI (Y + d)) (nI_add _ _) dL_law_809 ?_
          refine j_istore hc dL_law_810 rfl ?_
          refine j_aload hc dL_law_812 rfl ?_
          refine j_bipush hc (v := nI 12) dL_law_814 (by decide) ?_
          refine j_iload hc dL_law_816 rfl ?_
          refine j_iaddE hc (z := nI (12 + β)) (nI_add _ _) dL_law_818 ?_
          refine j_iload hc dL_law_819 rfl ?_
          refine xs_5 hc (i := (12 + β)) (by omega) dL_law_821 ?_
          refine j_aload_n hc dL_law_822 rfl ?_
          refine j_aload hc dL_law_823 rfl ?_
          refine j_aload hc dL_law_825 rfl ?_
          refine j_iload hc dL_law_827 rfl ?_
          refine j_iconst hc (v := nI 4) dL_law_829 (by decide) ?_
          refine j_callS' hc (c_L_enters hl (S := (mA (mA (mA (mA S 5 (36 + β) ((S 5 (36 + β)) + (nI 1))) 7 β (S 5 β)) 7 (12 + β) ((S 5 (12 + β)) - (nI Y))) 5 (12 + β) (nI (Y + d)))) (Y := Y) (N := N) (b := β) (σ := 4) (by omega) G.d0 G.t8 (by omega)) sc_L_17 rfl ⟨rfl, rfl, by decide, by decide⟩ rfl (Nat.le_of_ble_eq_true rfl) ⟨by show _ ≤ 600172; omega, by show _ ≤ 7300668; omega⟩ dL_law_830 (fun _ h9 => by cases h9) (fun _ => ?_)
          refine j_aload_n hc dL_law_833 rfl ?_
          refine j_iconst hc (v := nI 2) dL_law_834 (by decide) ?_
          refine j_iload hc dL_law_835 rfl ?_
          refine j_iload hc dL_law_837 rfl ?_
          have hs9 : S 5 β = nI 0 ∨ S 5 β = nI 2 ∨ S 5 β = nI 3 := Or.inr (Or.inl h738)
          have hp9 : S 5 (36 + β) < nI 2 := by
            rw [i32_lt]
            have z9 := h759
            rw [i32_le] at z9
            omega
          have R9 := sim_prom H hβ (by omega) (by omega) (d := d) hs9
          refine j_callSH hc (r := (some (Value.int (nI (Y + d))), WD ad cs n (e_prom1 E β (nI d)) (mA (mA (mA (mA (mA (mA (mA S 5 (36 + β) ((S 5 (36 + β)) + (nI 1))) 7 β (S 5 β)) 7 (12 + β) ((S 5 (12 + β)) - (nI Y))) 5 (12 + β) (nI (Y + d))) 5 β (nI 4)) 8 (N % 60) (nI (((Y * 100) + β) * 10 + 4))) 0 8 (nI (N + 1))) o)) (d_2 hl hn30 ((pe.trans (if_pos ⟨hs9, hp9⟩)).trans (by rw [R9.2]))) sh_L_112 rfl ⟨rfl, rfl, by decide, by decide⟩ rfl (Nat.le_of_ble_eq_true rfl) ⟨by show _ ≤ 600172; omega, by show _ ≤ 7300668; omega⟩ dL_law_839 ?_
          refine j_iload hc dL_law_842 rfl ?_
          refine j_icmp_ne hc 851 dL_law_844 (by decide) (fun h844 => by exact absurd rfl h844) (fun h844 => ?_)
          refine j_iconst hc (v := nI 1) dL_law_847 (by decide) ?_
          refine j_goto hc 852 dL_law_848 (by decide) ?_
          refine j_istore hc dL_law_852 rfl ?_
          refine j_goto hc 1425 dL_law_854 (by decide) ?_
          refine j_lv [(0, .ref bb), (1, .ref (ad 0)), (2, .ref (ad 15)), (3, .ref (ad 16)), (4, .ref (ad 17)), (5, .ref (ad 18)), (6, .ref (ad 19)), (7, .ref (ad 20)), (8, .ref (ad 21)), (9, .ref (ad 22)), (10, .ref (ad 23)), (11, .int (nI 1)), (12, .int (nI t)), (15, .int (nI y))] ⟨rfl, rfl, rfl, rfl, rfl, rfl, rfl, rfl, rfl, rfl, rfl, rfl, rfl, rfl, trivial⟩ ?_
          refine j_widen (k := 2000 + 1700 * t + 8) (n := 16000 + 14000 * t + 64) (by omega) (by omega) ?_
          exact next ad n h (N + 1) (Y) _ (mA (mA (mA (mA (mA (mA (mA S 5 (36 + β) ((S 5 (36 + β)) + (nI 1))) 7 β (S 5 β)) 7 (12 + β) ((S 5 (12 + β)) - (nI Y))) 5 (12 + β) (nI (Y + d))) 5 β (nI 4)) 8 (N % 60) (nI (((Y * 100) + β) * 10 + 4))) 0 8 (nI (N + 1))) (R9.1) (by omega) (by omega)
      · -- not taken
        refine j_aload hc dL_law_741 rfl ?_
        refine j_iload hc dL_law_743 rfl ?_
        refine xl_5 hc (i := β) (by omega) (v := (S 5 β)) (rfl) dL_law_745 ?_
        refine j_iconst hc (v := nI 3) dL_law_746 (by decide) ?_
        refine j_icmp_ne hc 833 dL_law_747 (by decide) (fun h747 => ?_) (fun h747 => ?_)
        · -- taken
          refine j_aload_n hc dL_law_833 rfl ?_
          refine j_iconst hc (v := nI 2) dL_law_834 (by decide) ?_
          refine j_iload hc dL_law_835 rfl ?_
          refine j_iload hc dL_law_837 rfl ?_
          refine j_callSH hc (r := (some (Value.int (-13)), WD ad cs n E S o)) (dx_2 hl hn30 (pe.trans (if_neg (fun w9 => w9.1.elim h729 (fun w9 => w9.elim h738 h747))))) sh_L_112 rfl ⟨rfl, rfl, by decide, by decide⟩ rfl (Nat.le_of_ble_eq_true rfl) ⟨by show _ ≤ 600172; omega, by show _ ≤ 7300668; omega⟩ dL_law_839 ?_
          refine j_iload hc dL_law_842 rfl ?_
          refine j_icmp_ne hc 851 dL_law_844 (by decide) (fun h844 => by exact absurd rfl h844) (fun h844 => ?_)
          refine j_iconst hc (v := nI 1) dL_law_847 (by decide) ?_
          refine j_goto hc 852 dL_law_848 (by decide) ?_
          refine j_istore hc dL_law_852 rfl ?_
          refine j_goto hc 1425 dL_law_854 (by decide) ?_
          refine j_lv [(0, .ref bb), (1, .ref (ad 0)), (2, .ref (ad 15)), (3, .ref (ad 16)), (4, .ref (ad 17)), (5, .ref (ad 18)), (6, .ref (ad 19)), (7, .ref (ad 20)), (8, .ref (ad 21)), (9, .ref (ad 22)), (10, .ref (ad 23)), (11, .int (nI 1)), (12, .int (nI t)), (15, .int (nI y))] ⟨rfl, rfl, rfl, rfl, rfl, rfl, rfl, rfl, rfl, rfl, rfl, rfl, rfl, rfl, trivial⟩ ?_
          refine j_widen (k := 2000 + 1700 * t + 8) (n := 16000 + 14000 * t + 64) (by omega) (by omega) ?_
          exact next ad n h (N) (Y) _ S (H) (by omega) (by omega)
        · -- not taken
          refine j_aload hc dL_law_750 rfl ?_
          refine j_bipush hc (v := nI 36) dL_law_752 (by decide) ?_
          refine j_iload hc dL_law_754 rfl ?_
          refine j_iaddE hc (z := nI (36 + β)) (nI_add _ _) dL_law_756 ?_
          refine xl_5 hc (i := (36 + β)) (by omega) (v := (S 5 (36 + β))) (rfl) dL_law_757 ?_
          refine j_iconst hc (v := nI 2) dL_law_758 (by decide) ?_
          refine j_icmp_ge hc 833 dL_law_759 (by decide) (fun h759 => ?_) (fun h759 => ?_)
          · -- taken
            refine j_aload_n hc dL_law_833 rfl ?_
            refine j_iconst hc (v := nI 2) dL_law_834 (by decide) ?_
            refine j_iload hc dL_law_835 rfl ?_
            refine j_iload hc dL_law_837 rfl ?_
            refine j_callSH hc (r := (some (Value.int (-13)), WD ad cs n E S o)) (dx_2 hl hn30 (pe.trans (if_neg (fun w9 => absurd h759 (fun z9 => by have t9 := w9.2; rw [i32_lt] at t9; rw [i32_le] at z9; omega))))) sh_L_112 rfl ⟨rfl, rfl, by decide, by decide⟩ rfl (Nat.le_of_ble_eq_true rfl) ⟨by show _ ≤ 600172; omega, by show _ ≤ 7300668; omega⟩ dL_law_839 ?_
            refine j_iload hc dL_law_842 rfl ?_
            refine j_icmp_ne hc 851 dL_law_844 (by decide) (fun h844 => by exact absurd rfl h844) (fun h844 => ?_)
            refine j_iconst hc (v := nI 1) dL_law_847 (by decide) ?_
            refine j_goto hc 852 dL_law_848 (by decide) ?_
            refine j_istore hc dL_law_852 rfl ?_
            refine j_goto hc 1425 dL_law_854 (by decide) ?_
            refine j_lv [(0, .ref bb), (1, .ref (ad 0)), (2, .ref (ad 15)), (3, .ref (ad 16)), (4, .ref (ad 17)), (5, .ref (ad 18)), (6, .ref (ad 19)), (7, .ref (ad 20)), (8, .ref (ad 21)), (9, .ref (ad 22)), (10, .ref (ad 23)), (11, .int (nI 1)), (12, .int (nI t)), (15, .int (nI y))] ⟨rfl, rfl, rfl, rfl, rfl, rfl, rfl, rfl, rfl, rfl, rfl, rfl, rfl, rfl, trivial⟩ ?_
            refine j_widen (k := 2000 + 1700 * t + 8) (n := 16000 + 14000 * t + 64) (by omega) (by omega) ?_
            exact next ad n h (N) (Y) _ S (H) (by omega) (by omega)
          · -- not taken
            refine j_aload hc dL_law_762 rfl ?_
            refine j_bipush hc (v := nI 36) dL_law_764 (by decide) ?_
            refine j_iload hc dL_law_766 rfl ?_
            refine j_iaddE hc (z := nI (36 + β)) (nI_add _ _) dL_law_768 ?_
            refine j_dup2 hc dL_law_769 rfl rfl ?_
            refine xl_5 hc (i := (36 + β)) (by omega) (v := (S 5 (36 + β))) (rfl) dL_law_770 ?_
            refine j_iconst hc (v := nI 1) dL_law_771 (by decide) ?_
            refine j_iadd hc dL_law_772 ?_
            refine xs_5 hc (i := (36 + β)) (by omega) dL_law_773 ?_
            refine j_aload hc dL_law_774 rfl ?_
            refine j_iload hc dL_law_776 rfl ?_
            refine j_aload hc dL_law_778 rfl ?_
            refine j_iload hc dL_law_780 rfl ?_
            refine xl_5 hc (i := β) (by omega) (v := (S 5 β)) (Eq.trans (mA_c (by omega)) (rfl)) dL_law_782 ?_
            refine xs_7 hc (i := β) (by omega) dL_law_783 ?_
            refine j_aload hc dL_law_784 rfl ?_
            refine j_bipush hc (v := nI 12) dL_law_786 (by decide) ?_
            refine j_iload hc dL_law_788 rfl ?_
            refine j_iaddE hc (z := nI (12 + β)) (nI_add _ _) dL_law_790 ?_
            refine j_aload hc dL_law_791 rfl ?_
            refine j_bipush hc (v := nI 12) dL_law_793 (by decide) ?_
            refine j_iload hc dL_law_795 rfl ?_
            refine j_iaddE hc (z := nI (12 + β)) (nI_add _ _) dL_law_797 ?_
            refine xl_5 hc (i := (12 + β)) (by omega) (v := (S 5 (12 + β))) (Eq.trans (mA_ro (by decide)) (Eq.trans (mA_c (by omega)) (rfl))) dL_law_798 ?_
            refine j_aload_n hc dL_law_799 rfl ?_
            refine j_iconst hc (v := nI 0) dL_law_800 (by decide) ?_
            refine xl_0 hc (i := 0) (by omega) (v := (nI Y)) (Eq.trans (mA_ro (by decide)) (Eq.trans (mA_ro (by decide)) (G.d0))) dL_law_801 ?_
            refine j_isub hc dL_law_802 ?_
            refine xs_7 hc (i := (12 + β)) (by omega) dL_law_803 ?_
            refine j_aload_n hc dL_law_804 rfl ?_
            refine j_iconst hc (v := nI 0) dL_law_805 (by decide) ?_
            refine xl_0 hc (i := 0) (by omega) (v := (nI Y)) (Eq.trans (mA_ro (by decide)) (Eq.trans (mA_ro (by decide)) (Eq.trans (mA_ro (by decide)) (G.d0)))) dL_law_806 ?_
            refine j_iload hc dL_law_807 rfl ?_
            refine j_iaddE hc (z := nI (Y + d)) (nI_add _ _) dL_law_809 ?_
            refine j_istore hc dL_law_810 rfl ?_
            refine j_aload hc dL_law_812 rfl ?_
            refine j_bipush hc (v := nI 12) dL_law_814 (by decide) ?_
            refine j_iload hc dL_law_816 rfl ?_
            refine j_iaddE hc (z := nI (12 + β)) (nI_add _ _) dL_law_818 ?_
            refine j_iload hc dL_law_819 rfl ?_
            refine xs_5 hc (i := (12 + β)) (by omega) dL_law_821 ?_
            refine j_aload_n hc dL_law_822 rfl ?_
            refine j_aload hc dL_law_823 rfl ?_
            refine j_aload hc dL_law_825 rfl ?_
            refine j_iload hc dL_law_827 rfl ?_
            refine j_iconst hc (v := nI 4) dL_law_829 (by decide) ?_
            refine j_callS' hc (c_L_enters hl (S := (mA (mA (mA (mA S 5 (36 + β) ((S 5 (36 + β)) + (nI 1))) 7 β (S 5 β)) 7 (12 + β) ((S 5 (12 + β)) - (nI Y))) 5 (12 + β) (nI (Y + d)))) (Y := Y) (N := N) (b := β) (σ := 4) (by omega) G.d0 G.t8 (by omega)) sc_L_17 rfl ⟨rfl, rfl, by decide, by decide⟩ rfl (Nat.le_of_ble_eq_true rfl) ⟨by show _ ≤ 600172; omega, by show _ ≤ 7300668; omega⟩ dL_law_830 (fun _ h9 => by cases h9) (fun _ => ?_)
            refine j_aload_n hc dL_law_833 rfl ?_
            refine j_iconst hc (v := nI 2) dL_law_834 (by decide) ?_
            refine j_iload hc dL_law_835 rfl ?_
            refine j_iload hc dL_law_837 rfl ?_
            have hs9 : S 5 β = nI 0 ∨ S 5 β = nI 2 ∨ S 5 β = nI 3 := Or.inr (Or.inr h747)
            have hp9 : S 5 (36 + β) < nI 2 := by
              rw [i32_lt]
              have z9 := h759
              rw [i32_le] at z9
              omega
            have R9 := sim_prom H hβ (by omega) (by omega) (d := d) hs9
            refine j_callSH hc (r := (some (Value.int (nI (Y + d))), WD ad cs n (e_prom1 E β (nI d)) (mA (mA (mA (mA (mA (mA (mA S 5 (36 + β) ((S 5 (36 + β)) + (nI 1))) 7 β (S 5 β)) 7 (12 + β) ((S 5 (12 + β)) - (nI Y))) 5 (12 + β) (nI (Y + d))) 5 β (nI 4)) 8 (N % 60) (nI (((Y * 100) + β) * 10 + 4))) 0 8 (nI (N + 1))) o)) (d_2 hl hn30 ((pe.trans (if_pos ⟨hs9, hp9⟩)).trans (by rw [R9.2]))) sh_L_112 rfl ⟨rfl, rfl, by decide, by decide⟩ rfl (Nat.le_of_ble_eq_true rfl) ⟨by show _ ≤ 600172; omega, by show _ ≤ 7300668; omega⟩ dL_law_839 ?_
            refine j_iload hc dL_law_842 rfl ?_
            refine j_icmp_ne hc 851 dL_law_844 (by decide) (fun h844 => by exact absurd rfl h844) (fun h844 => ?_)
            refine j_iconst hc (v := nI 1) dL_law_847 (by decide) ?_
            refine j_goto hc 852 dL_law_848 (by decide) ?_
            refine j_istore hc dL_law_852 rfl ?_
            refine j_goto hc 1425 dL_law_854 (by decide) ?_
            refine j_lv [(0, .ref bb), (1, .ref (ad 0)), (2, .ref (ad 15)), (3, .ref (ad 16)), (4, .ref (ad 17)), (5, .ref (ad 18)), (6, .ref (ad 19)), (7, .ref (ad 20)), (8, .ref (ad 21)), (9, .ref (ad 22)), (10, .ref (ad 23)), (11, .int (nI 1)), (12, .int (nI t)), (15, .int (nI y))] ⟨rfl, rfl, rfl, rfl, rfl, rfl, rfl, rfl, rfl, rfl, rfl, rfl, rfl, rfl, trivial⟩ ?_
            refine j_widen (k := 2000 + 1700 * t + 8) (n := 16000 + 14000 * t + 64) (by omega) (by omega) ?_
            exact next ad n h (N + 1) (Y) _ (mA (mA (mA (mA (mA (mA (mA S 5 (36 + β) ((S 5 (36 + β)) + (nI 1))) 7 β (S 5 β)) 7 (12 + β) ((S 5 (12 + β)) - (nI Y))) 5 (12 + β) (nI (Y + d))) 5 β (nI 4)) 8 (N % 60) (nI (((Y * 100) + β) * 10 + 4))) 0 8 (nI (N + 1))) (R9.1) (by omega) (by omega)
  refine j_iconst hc (v := nI 1) dL_law_696 (by decide) ?_
  refine j_iload hc dL_law_697 rfl ?_
  refine j_bipush hc (v := nI 12) dL_law_699 (by decide) ?_
  refine j_idivE hc (by decide) (z := nI (y / 12)) (pk_div (by omega) (by omega) (by omega)) dL_law_701 ?_
  refine j_iload hc dL_law_702 rfl ?_
  refine j_iconst hc (v := nI 3) dL_law_704 (by decide) ?_
  refine j_iremE hc (by decide) (z := nI (y % 3)) (pk_rem (by omega) (by omega) (by omega)) dL_law_705 ?_
  refine j_if_ne hc 714 dL_law_706 (by decide) (fun h706 => ?_) (fun h706 => ?_)
  · -- taken
    refine j_bipush hc (v := nI 8) dL_law_714 (by decide) ?_
    refine j_iremE hc (by decide) (z := nI ((y / 12) % 8)) (pk_rem (by omega) (by omega) (by omega)) dL_law_716 ?_
    refine j_iaddE hc (z := nI (1 + ((y / 12) % 8))) (nI_add _ _) dL_law_717 ?_
    refine j_lv [(0, .ref bb), (1, .ref (ad 0)), (2, .ref (ad 15)), (3, .ref (ad 16)), (4, .ref (ad 17)), (5, .ref (ad 18)), (6, .ref (ad 19)), (7, .ref (ad 20)), (8, .ref (ad 21)), (9, .ref (ad 22)), (10, .ref (ad 23)), (11, .int (nI 1)), (12, .int (nI t)), (15, .int (nI y)), (16, .int (nI β))] ⟨rfl, rfl, rfl, rfl, rfl, rfl, rfl, rfl, rfl, rfl, rfl, rfl, rfl, rfl, rfl, trivial⟩ ?_
    exact k718 (1 + ((y / 12) % 8)) (by omega) (by omega)
  · -- not taken
    refine j_bipush hc (v := nI 30) dL_law_709 (by decide) ?_
    refine j_goto hc 716 dL_law_711 (by decide) ?_
    refine j_iremE hc (by decide) (z := nI ((y / 12) % 30)) (pk_rem (by omega) (by omega) (by omega)) dL_law_716 ?_
    refine j_iaddE hc (z := nI (1 + ((y / 12) % 30))) (nI_add _ _) dL_law_717 ?_
    refine j_lv [(0, .ref bb), (1, .ref (ad 0)), (2, .ref (ad 15)), (3, .ref (ad 16)), (4, .ref (ad 17)), (5, .ref (ad 18)), (6, .ref (ad 19)), (7, .ref (ad 20)), (8, .ref (ad 21)), (9, .ref (ad 22)), (10, .ref (ad 23)), (11, .int (nI 1)), (12, .int (nI t)), (15, .int (nI y)), (16, .int (nI β))] ⟨rfl, rfl, rfl, rfl, rfl, rfl, rfl, rfl, rfl, rfl, rfl, rfl, rfl, rfl, rfl, trivial⟩ ?_
    exact k718 (1 + ((y / 12) % 30)) (by omega) (by omega)
set_option maxRecDepth 100000 in
set_option maxHeartbeats 4000000 in
theorem op_hol {p : Program} {l : Launch} {e : Env} {s : State} {m : MethodId} {below : List Frame} {meth : Method} {c : Code} {D : va_G} {cs : Nat → ClassId} {sa : Nat → Nat} {A : Nat → Prop} {Q : State → Prop} {bb t y : Nat} {ad : Nat → Nat} {n h N Y : Nat} {E : ES} {S : MS} {o : Nat → Int64} (hc : CX p l e room_1 s m #[Value.ref bb] below meth c D cs sa A code 21 RL ret) (H : Rel h n N Y E S) (hN : N ≤ 1500 * t) (hY : Y ≤ 60 * t) (ht : t < 110) (hy : y < 134217728) (next : ∀ (ad : Nat → Nat) (n h N Y : Nat) (E : ES) (S : MS), Rel h n N Y E S → N ≤ 1500 * (t + 1) → Y ≤ 60 * (t + 1) → J p l e room_1 s m #[Value.ref bb] below meth c D A 21 (2000 + 1700 * t + 8) (16000 + 14000 * t + 64) Q (WD ad cs n E S o) 1425 [(0, .ref bb), (1, .ref (ad 0)), (2, .ref (ad 15)), (3, .ref (ad 16)), (4, .ref (ad 17)), (5, .ref (ad 18)), (6, .ref (ad 19)), (7, .ref (ad 20)), (8, .ref (ad 21)), (9, .ref (ad 22)), (10, .ref (ad 23)), (11, .int (nI 1)), (12, .int (nI t)), (15, .int (nI y))] []) (hh60 : h < 60) : J p l e room_1 s m #[Value.ref bb] below meth c D A 21 (2000 + 1700 * t) (16000 + 14000 * t) Q (WD ad cs n E S o) 873 [(0, .ref bb), (1, .ref (ad 0)), (2, .ref (ad 15)), (3, .ref (ad 16)), (4, .ref (ad 17)), (5, .ref (ad 18)), (6, .ref (ad 19)), (7, .ref (ad 20)), (8, .ref (ad 21)), (9, .ref (ad 22)), (10, .ref (ad 23)), (11, .int (nI 1)), (12, .int (nI t)), (15, .int (nI y))] [] := by
  have hl := hc.2.2.2.2.2.2
  have G := H.1
  have n12 := G.n12
  have hn30 : n ≤ 30 := by omega
  have h60 := G.h60
  have k899 : ∀ x, Y + 1 ≤ x → x ≤ Y + 60 → J p l e room_1 s m #[Value.ref bb] below meth c D A 21 (2000 + 1700 * t) (16000 + 14000 * t) Q (WD ad cs n E S o) 899 [(0, .ref bb), (1, .ref (ad 0)), (2, .ref (ad 15)), (3, .ref (ad 16)), (4, .ref (ad 17)), (5, .ref (ad 18)), (6, .ref (ad 19)), (7, .ref (ad 20)), (8, .ref (ad 21)), (9, .ref (ad 22)), (10, .ref (ad 23)), (11, .int (nI 1)), (12, .int (nI t)), (15, .int (nI y))] [.int (nI x)] := by
    intro x x1 x60
    have ea : e_addHoliday E (nI x) = (none, m_wl (S 1) (nI x) h 0 1, e_khol E (nI x)) := by
      have r := rng_ok (k := x) (x := Y + 1) (y := Y + 60) x1 x60 (by omega)
      have e60 : nI Y + 60 = nI (Y + 60) := nI_add Y 60
      unfold e_addHoliday
      rw [G.d5, nI_1, e60, ck_none r, hol_eq G (by omega)]
    have loop : ∀ (k j : Nat) (c0 : Int32), j + k = h → m_wl (S 1) (nI x) h 0 1 = m_wl (S 1) (nI x) k j c0 → J p l e room_1 s m #[Value.ref bb] below meth c D A 21 (2000 + 1700 * t) (16000 + 14000 * t) Q (WD ad cs n E S o) 907 [(0, .ref bb), (1, .ref (ad 0)), (2, .ref (ad 15)), (3, .ref (ad 16)), (4, .ref (ad 17)), (5, .ref (ad 18)), (6, .ref (ad 19)), (7, .ref (ad 20)), (8, .ref (ad 21)), (9, .ref (ad 22)), (10, .ref (ad 23)), (11, .int (nI 1)), (12, .int (nI t)), (15, .int (nI y)), (17, .int (nI x)), (18, .int c0), (19, .int (nI j))] [] := by
      intro k
      induction k with
      | zero =>
        intro j c0 hj hd
        have hd0 : m_wl (S 1) (nI x) h 0 1 = c0 := hd
        have sh := sim_hol H (x := x) (by omega) (by omega)
        refine j_iload hc dL_law_907 rfl ?_
        refine j_aload_n hc dL_law_909 rfl ?_
        refine j_bipush hc (v := nI 63) dL_law_910 (by decide) ?_
        refine xl_1 hc (i := 63) (by omega) (v := (nI h)) (G.w63) dL_law_912 ?_
        refine j_icmp_ge hc 943 dL_law_913 (by decide) (fun h913 => ?_) (fun h913 => by exact absurd (nI_le (by omega) (by omega)) h913)
        refine j_aload_n hc dL_law_943 rfl ?_
        refine j_iload hc dL_law_944 rfl ?_
        refine j_callV' hc (k_addHoliday hl ea) vc_L_120 rfl ⟨rfl, rfl, by decide, by decide⟩ 0 rfl rfl rfl (Nat.le_of_ble_eq_true rfl) ⟨by show _ ≤ 600172; omega, by show _ ≤ 7300668; omega⟩ dL_law_946 (fun _ h9 => by cases h9) (fun _ => ?_)
        refine j_iload hc dL_law_949 rfl ?_
        refine j_icmp_ne hc 958 dL_law_951 (by decide) (fun h951 => by exact absurd hd0 h951) (fun h951 => ?_)
        refine j_iconst hc (v := nI 1) dL_law_954 (by decide) ?_
        refine j_goto hc 959 dL_law_955 (by decide) ?_
        refine j_istore hc dL_law_959 rfl ?_
        refine j_iload hc dL_law_961 rfl ?_
        refine j_if_eq hc 982 dL_law_963 (by decide) (fun h963 => ?_) (fun h963 => ?_)
        · -- taken
          refine j_goto hc 1425 dL_law_982 (by decide) ?_
          have R9 := sh.2 (by rw [hd0, h963]; decide)
          refine j_lv [(0, .ref bb), (1, .ref (ad 0)), (2, .ref (ad 15)), (3, .ref (ad 16)), (4, .ref (ad 17)), (5, .ref (ad 18)), (6, .ref (ad 19)), (7, .ref (ad 20)), (8, .ref (ad 21)), (9, .ref (ad 22)), (10, .ref (ad 23)), (11, .int (nI 1)), (12, .int (nI t)), (15, .int (nI y))] ⟨rfl, rfl, rfl, rfl, rfl, rfl, rfl, rfl, rfl, rfl, rfl, rfl, rfl, rfl, trivial⟩ ?_
          refine j_widen (k := 2000 + 1700 * t + 8) (n := 16000 + 14000 * t + 64) (by omega) (by omega) ?_
          exact next ad n h (N) (Y) _ S (R9) (by omega) (by omega)
        · -- not taken
          refine j_aload_n hc dL_law_966 rfl ?_
          refine j_aload_n hc dL_law_967 rfl ?_
          refine j_bipush hc (v := nI 63) dL_law_968 (by decide) ?_
          refine xl_1 hc (i := 63) (by omega) (v := (nI h)) (G.w63) dL_law_970 ?_
          refine j_iload hc dL_law_971 rfl ?_
          refine xs_1 hc (i := h) (by omega) dL_law_973 ?_
          refine j_aload_n hc dL_law_974 rfl ?_
          refine j_bipush hc (v := nI 63) dL_law_975 (by decide) ?_
          refine j_dup2 hc dL_law_977 rfl rfl ?_
          refine xl_1 hc (i := 63) (by omega) (v := (nI h)) (Eq.trans (mA_c (by omega)) (G.w63)) dL_law_978 ?_
          refine j_iconst hc (v := nI 1) dL_law_979 (by decide) ?_
          refine j_iaddE hc (z := nI (h + 1)) (nI_add _ _) dL_law_980 ?_
          refine xs_1 hc (i := 63) (by omega) dL_law_981 ?_
          refine j_goto hc 1425 dL_law_982 (by decide) ?_
          have R9 := sh.1 (by
            rcases wl_1 (w := S 1) (d := nI x) h 0 with w9 | w9
            · exact w9.1
            · exact absurd (hd0.symm.trans w9.1) h963) hh60
          refine j_lv [(0, .ref bb), (1, .ref (ad 0)), (2, .ref (ad 15)), (3, .ref (ad 16)), (4, .ref (ad 17)), (5, .ref (ad 18)), (6, .ref (ad 19)), (7, .ref (ad 20)), (8, .ref (ad 21)), (9, .ref (ad 22)), (10, .ref (ad 23)), (11, .int (nI 1)), (12, .int (nI t)), (15, .int (nI y))] ⟨rfl, rfl, rfl, rfl, rfl, rfl, rfl, rfl, rfl, rfl, rfl, rfl, rfl, rfl, trivial⟩ ?_
          refine j_widen (k := 2000 + 1700 * t + 8) (n := 16000 + 14000 * t + 64) (by omega) (by omega) ?_
          exact next ad n (h + 1) (N) (Y) _ (mA (mA S 1 h (nI x)) 1 63 (nI (h + 1))) (R9) (by omega) (by omega)
      | succ k ih =>
        intro j c0 hj hd
        refine j_iload hc dL_law_907 rfl ?_
        refine j_aload_n hc dL_law_909 rfl ?_
        refine j_bipush hc (v := nI 63) dL_law_910 (by decide) ?_
        refine xl_1 hc (i := 63) (by omega) (v := (nI h)) (G.w63) dL_law_912 ?_
        refine j_icmp_ge hc 943 dL_law_913 (by decide) (fun h913 => by exact absurd h913 (nI_ge (by omega) (by omega))) (fun h913 => ?_)
        refine j_iload hc dL_law_916 rfl ?_
        refine j_if_eq hc 934 dL_law_918 (by decide) (fun h918 => ?_) (fun h918 => ?_)
        · -- taken
          refine j_iconst hc (v := nI 0) dL_law_934 (by decide) ?_
          refine j_istore hc dL_law_935 rfl ?_
          refine j_incE hc dL_law_937 rfl (v := nI (j + 1)) (nI_1 _) rfl ?_
          refine j_goto hc 907 dL_law_940 (by decide) ?_
          refine j_lv [(0, .ref bb), (1, .ref (ad 0)), (2, .ref (ad 15)), (3, .ref (ad 16)), (4, .ref (ad 17)), (5, .ref (ad 18)), (6, .ref (ad 19)), (7, .ref (ad 20)), (8, .ref (ad 21)), (9, .ref (ad 22)), (10, .ref (ad 23)), (11, .int (nI 1)), (12, .int (nI t)), (15, .int (nI y)), (17, .int (nI x)), (18, .int (nI 0)), (19, .int (nI (j + 1)))] ⟨rfl, rfl, rfl, rfl, rfl, rfl, rfl, rfl, rfl, rfl, rfl, rfl, rfl, rfl, rfl, rfl, rfl, trivial⟩ ?_
          exact ih (j + 1) _ (by omega) (by rw [hd]; simp only [m_wl, if_neg h913, if_pos h918] <;> rfl)
        · -- not taken
          refine j_aload_n hc dL_law_921 rfl ?_
          refine j_iload hc dL_law_922 rfl ?_
          refine xl_1 hc (i := j) (by omega) (v := (S 1 j)) (rfl) dL_law_924 ?_
          refine j_iload hc dL_law_925 rfl ?_
          refine j_icmp_eq hc 934 dL_law_927 (by decide) (fun h927 => ?_) (fun h927 => ?_)
          · -- taken
            refine j_iconst hc (v := nI 0) dL_law_934 (by decide) ?_
            refine j_istore hc dL_law_935 rfl ?_
            refine j_incE hc dL_law_937 rfl (v := nI (j + 1)) (nI_1 _) rfl ?_
            refine j_goto hc 907 dL_law_940 (by decide) ?_
            refine j_lv [(0, .ref bb), (1, .ref (ad 0)), (2, .ref (ad 15)), (3, .ref (ad 16)), (4, .ref (ad 17)), (5, .ref (ad 18)), (6, .ref (ad 19)), (7, .ref (ad 20)), (8, .ref (ad 21)), (9, .ref (ad 22)), (10, .ref (ad 23)), (11, .int (nI 1)), (12, .int (nI t)), (15, .int (nI y)), (17, .int (nI x)), (18, .int (nI 0)), (19, .int (nI (j + 1)))] ⟨rfl, rfl, rfl, rfl, rfl, rfl, rfl, rfl, rfl, rfl, rfl, rfl, rfl, rfl, rfl, rfl, rfl, trivial⟩ ?_
            exact ih (j + 1) _ (by omega) (by rw [hd]; simp only [m_wl, if_neg h913, if_neg h918, if_pos h927] <;> rfl)
          · -- not taken
            refine j_iconst hc (v := nI 1) dL_law_930 (by decide) ?_
            refine j_goto hc 935 dL_law_931 (by decide) ?_
            refine j_istore hc dL_law_935 rfl ?_
            refine j_incE hc dL_law_937 rfl (v := nI (j + 1)) (nI_1 _) rfl ?_
            refine j_goto hc 907 dL_law_940 (by decide) ?_
            refine j_lv [(0, .ref bb), (1, .ref (ad 0)), (2, .ref (ad 15)), (3, .ref (ad 16)), (4, .ref (ad 17)), (5, .ref (ad 18)), (6, .ref (ad 19)), (7, .ref (ad 20)), (8, .ref (ad 21)), (9, .ref (ad 22)), (10, .ref (ad 23)), (11, .int (nI 1)), (12, .int (nI t)), (15, .int (nI y)), (17, .int (nI x)), (18, .int (nI 1)), (19, .int (nI (j + 1)))] ⟨rfl, rfl, rfl, rfl, rfl, rfl, rfl, rfl, rfl, rfl, rfl, rfl, rfl, rfl, rfl, rfl, rfl, trivial⟩ ?_
            exact ih (j + 1) _ (by omega) (by rw [hd]; simp only [m_wl, if_neg h913, if_neg h918, if_neg h927] <;> rfl)
    refine j_istore hc dL_law_899 rfl ?_
    refine j_iconst hc (v := nI 1) dL_law_901 (by decide) ?_
    refine j_istore hc dL_law_902 rfl ?_
    refine j_iconst hc (v := nI 0) dL_law_904 (by decide) ?_
    refine j_istore hc dL_law_905 rfl ?_
    refine j_lv [(0, .ref bb), (1, .ref (ad 0)), (2, .ref (ad 15)), (3, .ref (ad 16)), (4, .ref (ad 17)), (5, .ref (ad 18)), (6, .ref (ad 19)), (7, .ref (ad 20)), (8, .ref (ad 21)), (9, .ref (ad 22)), (10, .ref (ad 23)), (11, .int (nI 1)), (12, .int (nI t)), (15, .int (nI y)), (17, .int (nI x)), (18, .int (nI 1)), (19, .int (nI 0))] ⟨rfl, rfl, rfl, rfl, rfl, rfl, rfl, rfl, rfl, rfl, rfl, rfl, rfl, rfl, rfl, rfl, rfl, trivial⟩ ?_
    exact loop h 0 _ (by omega) rfl
  refine j_aload_n hc dL_law_873 rfl ?_
  refine j_iconst hc (v := nI 0) dL_law_874 (by decide) ?_
  refine xl_0 hc (i := 0) (by omega) (v := (nI Y)) (G.d0) dL_law_875 ?_
  refine j_iconst hc (v := nI 1) dL_law_876 (by decide) ?_
  refine j_iaddE hc (z := nI (Y + 1)) (nI_add _ _) dL_law_877 ?_
  refine j_iload hc dL_law_878 rfl ?_
  refine j_bipush hc (v := nI 60) dL_law_880 (by decide) ?_
  refine j_iremE hc (by decide) (z := nI (y % 60)) (pk_rem (by omega) (by omega) (by omega)) dL_law_882 ?_
  refine j_iload hc dL_law_883 rfl ?_
  refine j_iconst hc (v := nI 2) dL_law_885 (by decide) ?_
  refine j_iremE hc (by decide) (z := nI (y % 2)) (pk_rem (by omega) (by omega) (by omega)) dL_law_886 ?_
  refine j_if_ne hc 895 dL_law_887 (by decide) (fun h887 => ?_) (fun h887 => ?_)
  · -- taken
    refine j_bipush hc (v := nI 6) dL_law_895 (by decide) ?_
    refine j_iremE hc (by decide) (z := nI ((y % 60) % 6)) (pk_rem (by omega) (by omega) (by omega)) dL_law_897 ?_
    refine j_iaddE hc (z := nI ((Y + 1) + ((y % 60) % 6))) (nI_add _ _) dL_law_898 ?_
    refine j_lv [(0, .ref bb), (1, .ref (ad 0)), (2, .ref (ad 15)), (3, .ref (ad 16)), (4, .ref (ad 17)), (5, .ref (ad 18)), (6, .ref (ad 19)), (7, .ref (ad 20)), (8, .ref (ad 21)), (9, .ref (ad 22)), (10, .ref (ad 23)), (11, .int (nI 1)), (12, .int (nI t)), (15, .int (nI y))] ⟨rfl, rfl, rfl, rfl, rfl, rfl, rfl, rfl, rfl, rfl, rfl, rfl, rfl, rfl, trivial⟩ ?_
    exact k899 ((Y + 1) + ((y % 60) % 6)) (by omega) (by omega)
  · -- not taken
    refine j_bipush hc (v := nI 60) dL_law_890 (by decide) ?_
    refine j_goto hc 897 dL_law_892 (by decide) ?_
    refine j_iremE hc (by decide) (z := nI ((y % 60) % 60)) (pk_rem (by omega) (by omega) (by omega)) dL_law_897 ?_
    refine j_iaddE hc (z := nI ((Y + 1) + ((y % 60) % 60))) (nI_add _ _) dL_law_898 ?_
    refine j_lv [(0, .ref bb), (1, .ref (ad 0)), (2, .ref (ad 15)), (3, .ref (ad 16)), (4, .ref (ad 17)), (5, .ref (ad 18)), (6, .ref (ad 19)), (7, .ref (ad 20)), (8, .ref (ad 21)), (9, .ref (ad 22)), (10, .ref (ad 23)), (11, .int (nI 1)), (12, .int (nI t)), (15, .int (nI y))] ⟨rfl, rfl, rfl, rfl, rfl, rfl, rfl, rfl, rfl, rfl, rfl, rfl, rfl, rfl, trivial⟩ ?_
    exact k899 ((Y + 1) + ((y % 60) % 60)) (by omega) (by omega)
def wk0 (m k : Nat) : Nat := if m / 2 ^ k % 2 = 1 then m - 2 ^ k else m
def wk1 (m k : Nat) : Nat := m ||| 2 ^ k
def m_pop : Nat → Nat → Nat → Nat
  | 0, _, c => c
  | k + 1, r, c => if r = 0 then c else m_pop k (r / 2) (c + r % 2)
theorem wk_0 : ∀ m, m < 128 → ∀ k, k < 7 → nI m &&& (((1 : Int32) <<< (nI k &&& 31)) ^^^ (-1)) = nI (wk0 m k) ∧ wk0 m k < 128 := by decide +kernel
theorem wk_1 : ∀ m, m < 128 → ∀ k, k < 7 → nI m ||| ((1 : Int32) <<< (nI k &&& 31)) = nI (wk1 m k) ∧ wk1 m k < 128 := by decide +kernel
theorem wk_bc : ∀ u, u < 128 → e_bc (nI u) = nI (m_pop 7 u 0) := by decide +kernel
theorem pop_0 : ∀ k c, m_pop k 0 c = c
  | 0, _ => rfl
  | k + 1, c => by unfold m_pop; rw [if_pos rfl]
theorem swk_eq {E : ES} {κ f u : Nat} (hk : κ < 7) (hu : e_ww E (nI κ) (nI f) = nI u) (hu8 : u < 128) : (u = 0 → e_setWeekday E (nI κ) (nI f) = (some xIS, 0, E)) ∧ (¬ u = 0 → e_setWeekday E (nI κ) (nI f) = (none, nI (m_pop 7 u 0), eG E 12 (nI u))) := by
  have i2 : nI κ < 7 := nI_lt (b := 7) hk (by decide)
  have e1 : e_setWeekday E (nI κ) (nI f) = if nI u = 0 then (some xIS, 0, E) else (none, e_bc (nI u), eG E 12 (nI u)) := by
    unfold e_setWeekday
    rw [if_neg (nI_pos (by omega)), if_pos i2, hu]
  rw [e1]
  constructor
  · intro z; rw [z]; rfl
  · intro z; rw [if_neg (nI_n0 (by omega) (by omega)), wk_bc u hu8]
set_option maxRecDepth 100000 in
set_option maxHeartbeats 4000000 in
theorem op_wk {p : Program} {l : Launch} {e : Env} {s : State} {m : MethodId} {below : List Frame} {meth : Method} {c : Code} {D : va_G} {cs : Nat → ClassId} {sa : Nat → Nat} {A : Nat → Prop} {Q : State → Prop} {bb t y : Nat} {ad : Nat → Nat} {n h N Y : Nat} {E : ES} {S : MS} {o : Nat → Int64} (hc : CX p l e room_1 s m #[Value.ref bb] below meth c D cs sa A code 21 RL ret) (H : Rel h n N Y E S) (hN : N ≤ 1500 * t) (hY : Y ≤ 60 * t) (ht : t < 110) (hy : y < 134217728) (next : ∀ (ad : Nat → Nat) (n h N Y : Nat) (E : ES) (S : MS), Rel h n N Y E S → N ≤ 1500 * (t + 1) → Y ≤ 60 * (t + 1) → J p l e room_1 s m #[Value.ref bb] below meth c D A 21 (2000 + 1700 * t + 8) (16000 + 14000 * t + 64) Q (WD ad cs n E S o) 1425 [(0, .ref bb), (1, .ref (ad 0)), (2, .ref (ad 15)), (3, .ref (ad 16)), (4, .ref (ad 17)), (5, .ref (ad 18)), (6, .ref (ad 19)), (7, .ref (ad 20)), (8, .ref (ad 21)), (9, .ref (ad 22)), (10, .ref (ad 23)), (11, .int (nI 1)), (12, .int (nI t)), (15, .int (nI y))] [])  : J p l e room_1 s m #[Value.ref bb] below meth c D A 21 (2000 + 1700 * t) (16000 + 14000 * t) Q (WD ad cs n E S o) 992 [(0, .ref bb), (1, .ref (ad 0)), (2, .ref (ad 15)), (3, .ref (ad 16)), (4, .ref (ad 17)), (5, .ref (ad 18)), (6, .ref (ad 19)), (7, .ref (ad 20)), (8, .ref (ad 21)), (9, .ref (ad 22)), (10, .ref (ad 23)), (11, .int (nI 1)), (12, .int (nI t)), (15, .int (nI y))] [] := by
  have hl := hc.2.2.2.2.2.2
  have G := H.1
  have n12 := G.n12
  have hn30 : n ≤ 30 := by omega
  have h60 := G.h60
  obtain ⟨m9, hm9, hm0, e12, s1⟩ := G.rk
  have k0 : ∀ u, u < 128 → e_ww E (nI (y % 7)) (nI 0) = nI u → y / 7 % 3 = 0 → J p l e room_1 s m #[Value.ref bb] below meth c D A 21 (2000 + 1700 * t) (16000 + 14000 * t) Q (WD ad cs n E S o) 1030 [(0, .ref bb), (1, .ref (ad 0)), (2, .ref (ad 15)), (3, .ref (ad 16)), (4, .ref (ad 17)), (5, .ref (ad 18)), (6, .ref (ad 19)), (7, .ref (ad 20)), (8, .ref (ad 21)), (9, .ref (ad 22)), (10, .ref (ad 23)), (11, .int (nI 1)), (12, .int (nI t)), (15, .int (nI y)), (17, .int (nI (y % 7)))] [.int (nI u)] := by
    intro u hu8 hu hf
    have sw := swk_eq (E := E) (κ := y % 7) (f := 0) (by omega) hu hu8
    have loop : ∀ (k r c0 : Nat), r < 2 ^ k → k ≤ 7 → m_pop 7 u 0 = m_pop k r c0 → J p l e room_1 s m #[Value.ref bb] below meth c D A 21 (2000 + 1700 * t) (16000 + 14000 * t) Q (WD ad cs n E S o) 1039 [(0, .ref bb), (1, .ref (ad 0)), (2, .ref (ad 15)), (3, .ref (ad 16)), (4, .ref (ad 17)), (5, .ref (ad 18)), (6, .ref (ad 19)), (7, .ref (ad 20)), (8, .ref (ad 21)), (9, .ref (ad 22)), (10, .ref (ad 23)), (11, .int (nI 1)), (12, .int (nI t)), (15, .int (nI y)), (17, .int (nI (y % 7))), (18, .int (nI u)), (19, .int (nI c0)), (20, .int (nI r))] [] := by
      intro k
      induction k with
      | zero =>
        intro r c0 hr hk hd
        have hr0 : r = 0 := by omega
        subst hr0
        have hc0 : m_pop 7 u 0 = c0 := hd
        by_cases hu0 : u = 0
        · -- none left
          refine j_iload hc dL_law_1039 rfl ?_
          refine j_if_le hc 1062 dL_law_1041 (by decide) (fun h1041 => ?_) (fun h1041 => by exact absurd (by decide) h1041)
          refine j_aload_n hc dL_law_1062 rfl ?_
          refine j_iconst hc (v := nI 1) dL_law_1063 (by decide) ?_
          refine j_iload hc dL_law_1064 rfl ?_
          refine j_if_ne hc 1075 dL_law_1066 (by decide) (fun h1066 => by exact absurd (by rw [hu0]; rfl) h1066) (fun h1066 => ?_)
          refine j_aload_n hc dL_law_1069 rfl ?_
          refine j_iconst hc (v := nI 1) dL_law_1070 (by decide) ?_
          refine xl_0 hc (i := 1) (by omega) (v := (S 0 1)) (rfl) dL_law_1071 ?_
          refine j_goto hc 1077 dL_law_1072 (by decide) ?_
          refine xs_0 hc (i := 1) (by omega) dL_law_1077 ?_
          refine j_aload_n hc dL_law_1078 rfl ?_
          refine j_iconst hc (v := nI 4) dL_law_1079 (by decide) ?_
          refine j_iload hc dL_law_1080 rfl ?_
          refine j_iload hc dL_law_1082 rfl ?_
          refine j_bipush hc (v := nI 7) dL_law_1084 (by decide) ?_
          refine j_idivE hc (by decide) (z := nI (y / 7)) (pk_div (by omega) (by omega) (by omega)) dL_law_1086 ?_
          refine j_iconst hc (v := nI 3) dL_law_1087 (by decide) ?_
          refine j_iremE hc (by decide) (z := nI ((y / 7) % 3)) (pk_rem (by omega) (by omega) (by omega)) dL_law_1088 ?_
          refine j_if_ne hc 1096 dL_law_1089 (by decide) (fun h1089 => by exact absurd (by rw [hf]; rfl) h1089) (fun h1089 => ?_)
          refine j_iconst hc (v := nI 0) dL_law_1092 (by decide) ?_
          refine j_goto hc 1097 dL_law_1093 (by decide) ?_
          refine j_callSH hc (r := (some (Value.int (-13)), WD ad cs n E (mA S 0 1 (S 0 1)) o)) (dx_4 hl (sw.1 hu0)) sh_L_112 rfl ⟨rfl, rfl, by decide, by decide⟩ rfl (Nat.le_of_ble_eq_true rfl) ⟨by show _ ≤ 600172; omega, by show _ ≤ 7300668; omega⟩ dL_law_1097 ?_
          refine j_iload hc dL_law_1100 rfl ?_
          refine j_if_ne hc 1110 dL_law_1102 (by decide) (fun h1102 => by exact absurd (by rw [hu0]; rfl) h1102) (fun h1102 => ?_)
          refine j_bipush hc (v := -13) dL_law_1105 (by decide) ?_
          refine j_goto hc 1112 dL_law_1107 (by decide) ?_
          refine j_icmp_ne hc 1119 dL_law_1112 (by decide) (fun h1112 => by exact absurd rfl h1112) (fun h1112 => ?_)
          refine j_iconst hc (v := nI 1) dL_law_1115 (by decide) ?_
          refine j_goto hc 1120 dL_law_1116 (by decide) ?_
          refine j_istore hc dL_law_1120 rfl ?_
          refine j_goto hc 1425 dL_law_1122 (by decide) ?_
          refine j_lv [(0, .ref bb), (1, .ref (ad 0)), (2, .ref (ad 15)), (3, .ref (ad 16)), (4, .ref (ad 17)), (5, .ref (ad 18)), (6, .ref (ad 19)), (7, .ref (ad 20)), (8, .ref (ad 21)), (9, .ref (ad 22)), (10, .ref (ad 23)), (11, .int (nI 1)), (12, .int (nI t)), (15, .int (nI y))] ⟨rfl, rfl, rfl, rfl, rfl, rfl, rfl, rfl, rfl, rfl, rfl, rfl, rfl, rfl, trivial⟩ ?_
          refine j_widen (k := 2000 + 1700 * t + 8) (n := 16000 + 14000 * t + 64) (by omega) (by omega) ?_
          exact next ad n h (N) (Y) _ (mA S 0 1 (S 0 1)) (sim_wk0 H) (by omega) (by omega)
        · -- some left
          refine j_iload hc dL_law_1039 rfl ?_
          refine j_if_le hc 1062 dL_law_1041 (by decide) (fun h1041 => ?_) (fun h1041 => by exact absurd (by decide) h1041)
          refine j_aload_n hc dL_law_1062 rfl ?_
          refine j_iconst hc (v := nI 1) dL_law_1063 (by decide) ?_
          refine j_iload hc dL_law_1064 rfl ?_
          refine j_if_ne hc 1075 dL_law_1066 (by decide) (fun h1066 => ?_) (fun h1066 => by exact absurd h1066 (nI_n0 (by omega) (by omega)))
          refine j_iload hc dL_law_1075 rfl ?_
          refine xs_0 hc (i := 1) (by omega) dL_law_1077 ?_
          refine j_aload_n hc dL_law_1078 rfl ?_
          refine j_iconst hc (v := nI 4) dL_law_1079 (by decide) ?_
          refine j_iload hc dL_law_1080 rfl ?_
          refine j_iload hc dL_law_1082 rfl ?_
          refine j_bipush hc (v := nI 7) dL_law_1084 (by decide) ?_
          refine j_idivE hc (by decide) (z := nI (y / 7)) (pk_div (by omega) (by omega) (by omega)) dL_law_1086 ?_
          refine j_iconst hc (v := nI 3) dL_law_1087 (by decide) ?_
          refine j_iremE hc (by decide) (z := nI ((y / 7) % 3)) (pk_rem (by omega) (by omega) (by omega)) dL_law_1088 ?_
          refine j_if_ne hc 1096 dL_law_1089 (by decide) (fun h1089 => by exact absurd (by rw [hf]; rfl) h1089) (fun h1089 => ?_)
          refine j_iconst hc (v := nI 0) dL_law_1092 (by decide) ?_
          refine j_goto hc 1097 dL_law_1093 (by decide) ?_
          refine j_callSH hc (r := (some (Value.int (nI c0)), WD ad cs n (eG E 12 (nI u)) (mA S 0 1 (nI u)) o)) (d_4 hl (hc0 ▸ sw.2 hu0)) sh_L_112 rfl ⟨rfl, rfl, by decide, by decide⟩ rfl (Nat.le_of_ble_eq_true rfl) ⟨by show _ ≤ 600172; omega, by show _ ≤ 7300668; omega⟩ dL_law_1097 ?_
          refine j_iload hc dL_law_1100 rfl ?_
          refine j_if_ne hc 1110 dL_law_1102 (by decide) (fun h1102 => ?_) (fun h1102 => by exact absurd h1102 (nI_n0 (by omega) (by omega)))
          refine j_iload hc dL_law_1110 rfl ?_
          refine j_icmp_ne hc 1119 dL_law_1112 (by decide) (fun h1112 => by exact absurd rfl h1112) (fun h1112 => ?_)
          refine j_iconst hc (v := nI 1) dL_law_1115 (by decide) ?_
          refine j_goto hc 1120 dL_law_1116 (by decide) ?_
          refine j_istore hc dL_law_1120 rfl ?_
          refine j_goto hc 1425 dL_law_1122 (by decide) ?_
          refine j_lv [(0, .ref bb), (1, .ref (ad 0)), (2, .ref (ad 15)), (3, .ref (ad 16)), (4, .ref (ad 17)), (5, .ref (ad 18)), (6, .ref (ad 19)), (7, .ref (ad 20)), (8, .ref (ad 21)), (9, .ref (ad 22)), (10, .ref (ad 23)), (11, .int (nI 1)), (12, .int (nI t)), (15, .int (nI y))] ⟨rfl, rfl, rfl, rfl, rfl, rfl, rfl, rfl, rfl, rfl, rfl, rfl, rfl, rfl, trivial⟩ ?_
          refine j_widen (k := 2000 + 1700 * t + 8) (n := 16000 + 14000 * t + 64) (by omega) (by omega) ?_
          exact next ad n h (N) (Y) _ (mA S 0 1 (nI u)) (sim_wk H hu8 (by omega)) (by omega) (by omega)
      | succ k ih =>
        intro r c0 hr hk hd
        by_cases hr0 : r = 0
        · subst hr0
          exact ih 0 c0 (Nat.two_pow_pos k) (by omega) (by rw [hd, pop_0, pop_0])
        · -- a step
          have hr31 : r < 2 ^ 31 := Nat.lt_of_lt_of_le hr (Nat.pow_le_pow_right (by decide) (by omega))
          refine j_iload hc dL_law_1039 rfl ?_
          refine j_if_le hc 1062 dL_law_1041 (by decide) (fun h1041 => by exact absurd h1041 (nI_nle (by omega) (by omega))) (fun h1041 => ?_)
          refine j_iload hc dL_law_1044 rfl ?_
          refine j_iload hc dL_law_1046 rfl ?_
          refine j_iconst hc (v := nI 1) dL_law_1048 (by decide) ?_
          refine j_iandE hc (z := nI (r % 2)) (pk_andN (by omega) 1 (by decide)) dL_law_1049 ?_
          refine j_iaddE hc (z := nI (c0 + (r % 2))) (nI_add _ _) dL_law_1050 ?_
          refine j_istore hc dL_law_1051 rfl ?_
          refine j_iload hc dL_law_1053 rfl ?_
          refine j_iconst hc (v := nI 1) dL_law_1055 (by decide) ?_
          refine j_ishrE hc (z := nI (r / 2)) (pk_shrN (by omega) _ 1 (by decide)) dL_law_1056 ?_
          refine j_istore hc dL_law_1057 rfl ?_
          refine j_goto hc 1039 dL_law_1059 (by decide) ?_
          refine j_lv [(0, .ref bb), (1, .ref (ad 0)), (2, .ref (ad 15)), (3, .ref (ad 16)), (4, .ref (ad 17)), (5, .ref (ad 18)), (6, .ref (ad 19)), (7, .ref (ad 20)), (8, .ref (ad 21)), (9, .ref (ad 22)), (10, .ref (ad 23)), (11, .int (nI 1)), (12, .int (nI t)), (15, .int (nI y)), (17, .int (nI (y % 7))), (18, .int (nI u)), (19, .int (nI (c0 + (r % 2)))), (20, .int (nI (r / 2)))] ⟨rfl, rfl, rfl, rfl, rfl, rfl, rfl, rfl, rfl, rfl, rfl, rfl, rfl, rfl, rfl, rfl, rfl, rfl, trivial⟩ ?_
          exact ih (r / 2) (c0 + r % 2) (by rw [Nat.pow_succ] at hr; omega) (by omega) (by rw [hd, m_pop, if_neg hr0])
    refine j_istore hc dL_law_1030 rfl ?_
    refine j_iconst hc (v := nI 0) dL_law_1032 (by decide) ?_
    refine j_istore hc dL_law_1033 rfl ?_
    refine j_iload hc dL_law_1035 rfl ?_
    refine j_istore hc dL_law_1037 rfl ?_
    refine j_lv [(0, .ref bb), (1, .ref (ad 0)), (2, .ref (ad 15)), (3, .ref (ad 16)), (4, .ref (ad 17)), (5, .ref (ad 18)), (6, .ref (ad 19)), (7, .ref (ad 20)), (8, .ref (ad 21)), (9, .ref (ad 22)), (10, .ref (ad 23)), (11, .int (nI 1)), (12, .int (nI t)), (15, .int (nI y)), (17, .int (nI (y % 7))), (18, .int (nI u)), (19, .int (nI 0)), (20, .int (nI u))] ⟨rfl, rfl, rfl, rfl, rfl, rfl, rfl, rfl, rfl, rfl, rfl, rfl, rfl, rfl, rfl, rfl, rfl, rfl, trivial⟩ ?_
    exact loop 7 u 0 (by omega) (by decide) rfl
  have k1 : ∀ u, u < 128 → e_ww E (nI (y % 7)) (nI 1) = nI u → ¬ y / 7 % 3 = 0 → J p l e room_1 s m #[Value.ref bb] below meth c D A 21 (2000 + 1700 * t) (16000 + 14000 * t) Q (WD ad cs n E S o) 1030 [(0, .ref bb), (1, .ref (ad 0)), (2, .ref (ad 15)), (3, .ref (ad 16)), (4, .ref (ad 17)), (5, .ref (ad 18)), (6, .ref (ad 19)), (7, .ref (ad 20)), (8, .ref (ad 21)), (9, .ref (ad 22)), (10, .ref (ad 23)), (11, .int (nI 1)), (12, .int (nI t)), (15, .int (nI y)), (17, .int (nI (y % 7)))] [.int (nI u)] := by
    intro u hu8 hu hf
    have sw := swk_eq (E := E) (κ := y % 7) (f := 1) (by omega) hu hu8
    have loop : ∀ (k r c0 : Nat), r < 2 ^ k → k ≤ 7 → m_pop 7 u 0 = m_pop k r c0 → J p l e room_1 s m #[Value.ref bb] below meth c D A 21 (2000 + 1700 * t) (16000 + 14000 * t) Q (WD ad cs n E S o) 1039 [(0, .ref bb), (1, .ref (ad 0)), (2, .ref (ad 15)), (3, .ref (ad 16)), (4, .ref (ad 17)), (5, .ref (ad 18)), (6, .ref (ad 19)), (7, .ref (ad 20)), (8, .ref (ad 21)), (9, .ref (ad 22)), (10, .ref (ad 23)), (11, .int (nI 1)), (12, .int (nI t)), (15, .int (nI y)), (17, .int (nI (y % 7))), (18, .int (nI u)), (19, .int (nI c0)), (20, .int (nI r))] [] := by
      intro k
      induction k with
      | zero =>
        intro r c0 hr hk hd
        have hr0 : r = 0 := by omega
        subst hr0
        have hc0 : m_pop 7 u 0 = c0 := hd
        by_cases hu0 : u = 0
        · -- none left
          refine j_iload hc dL_law_1039 rfl ?_
          refine j_if_le hc 1062 dL_law_1041 (by decide) (fun h1041 => ?_) (fun h1041 => by exact absurd (by decide) h1041)
          refine j_aload_n hc dL_law_1062 rfl ?_
          refine j_iconst hc (v := nI 1) dL_law_1063 (by decide) ?_
          refine j_iload hc dL_law_1064 rfl ?_
          refine j_if_ne hc 1075 dL_law_1066 (by decide) (fun h1066 => by exact absurd (by rw [hu0]; rfl) h1066) (fun h1066 => ?_)
          refine j_aload_n hc dL_law_1069 rfl ?_
          refine j_iconst hc (v := nI 1) dL_law_1070 (by decide) ?_
          refine xl_0 hc (i := 1) (by omega) (v := (S 0 1)) (rfl) dL_law_1071 ?_
          refine j_goto hc 1077 dL_law_1072 (by decide) ?_
          refine xs_0 hc (i := 1) (by omega) dL_law_1077 ?_
          refine j_aload_n hc dL_law_1078 rfl ?_
          refine j_iconst hc (v := nI 4) dL_law_1079 (by decide) ?_
          refine j_iload hc dL_law_1080 rfl ?_
          refine j_iload hc dL_law_1082 rfl ?_
          refine j_bipush hc (v := nI 7) dL_law_1084 (by decide) ?_
          refine j_idivE hc (by decide) (z := nI (y / 7)) (pk_div (by omega) (by omega) (by omega)) dL_law_1086 ?_
          refine j_iconst hc (v := nI 3) dL_law_1087 (by decide) ?_
          refine j_iremE hc (by decide) (z := nI ((y / 7) % 3)) (pk_rem (by omega) (by omega) (by omega)) dL_law_1088 ?_
          refine j_if_ne hc 1096 dL_law_1089 (by decide) (fun h1089 => ?_) (fun h1089 => by exact absurd h1089 (nI_n0 (by omega) (by omega)))
          refine j_iconst hc (v := nI 1) dL_law_1096 (by decide) ?_
          refine j_callSH hc (r := (some (Value.int (-13)), WD ad cs n E (mA S 0 1 (S 0 1)) o)) (dx_5 hl (sw.1 hu0)) sh_L_112 rfl ⟨rfl, rfl, by decide, by decide⟩ rfl (Nat.le_of_ble_eq_true rfl) ⟨by show _ ≤ 600172; omega, by show _ ≤ 7300668; omega⟩ dL_law_1097 ?_
          refine j_iload hc dL_law_1100 rfl ?_
          refine j_if_ne hc 1110 dL_law_1102 (by decide) (fun h1102 => by exact absurd (by rw [hu0]; rfl) h1102) (fun h1102 => ?_)
          refine j_bipush hc (v := -13) dL_law_1105 (by decide) ?_
          refine j_goto hc 1112 dL_law_1107 (by decide) ?_
          refine j_icmp_ne hc 1119 dL_law_1112 (by decide) (fun h1112 => by exact absurd rfl h1112) (fun h1112 => ?_)
          refine j_iconst hc (v := nI 1) dL_law_1115 (by decide) ?_
          refine j_goto hc 1120 dL_law_1116 (by decide) ?_
          refine j_istore hc dL_law_1120 rfl ?_
          refine j_goto hc 1425 dL_law_1122 (by decide) ?_
          refine j_lv [(0, .ref bb), (1, .ref (ad 0)), (2, .ref (ad 15)), (3, .ref (ad 16)), (4, .ref (ad 17)), (5, .ref (ad 18)), (6, .ref (ad 19)), (7, .ref (ad 20)), (8, .ref (ad 21)), (9, .ref (ad 22)), (10, .ref (ad 23)), (11, .int (nI 1)), (12, .int (nI t)), (15, .int (nI y))] ⟨rfl, rfl, rfl, rfl, rfl, rfl, rfl, rfl, rfl, rfl, rfl, rfl, rfl, rfl, trivial⟩ ?_
          refine j_widen (k := 2000 + 1700 * t + 8) (n := 16000 + 14000 * t + 64) (by omega) (by omega) ?_
          exact next ad n h (N) (Y) _ (mA S 0 1 (S 0 1)) (sim_wk0 H) (by omega) (by omega)
        · -- some left
          refine j_iload hc dL_law_1039 rfl ?_
          refine j_if_le hc 1062 dL_law_1041 (by decide) (fun h1041 => ?_) (fun h1041 => by exact absurd (by decide) h1041)
          refine j_aload_n hc dL_law_1062 rfl ?_
          refine j_iconst hc (v := nI 1) dL_law_1063 (by decide) ?_
          refine j_iload hc dL_law_1064 rfl ?_
          refine j_if_ne hc 1075 dL_law_1066 (by decide) (fun h1066 => ?_) (fun h1066 => by exact absurd h1066 (nI_n0 (by omega) (by omega)))
          refine j_iload hc dL_law_1075 rfl ?_
          refine xs_0 hc (i := 1) (by omega) dL_law_1077 ?_
          refine j_aload_n hc dL_law_1078 rfl ?_
          refine j_iconst hc (v := nI 4) dL_law_1079 (by decide) ?_
          refine j_iload hc dL_law_1080 rfl ?_
          refine j_iload hc dL_law_1082 rfl ?_
          refine j_bipush hc (v := nI 7) dL_law_1084 (by decide) ?_
          refine j_idivE hc (by decide) (z := nI (y / 7)) (pk_div (by omega) (by omega) (by omega)) dL_law_1086 ?_
          refine j_iconst hc (v := nI 3) dL_law_1087 (by decide) ?_
          refine j_iremE hc (by decide) (z := nI ((y / 7) % 3)) (pk_rem (by omega) (by omega) (by omega)) dL_law_1088 ?_
          refine j_if_ne hc 1096 dL_law_1089 (by decide) (fun h1089 => ?_) (fun h1089 => by exact absurd h1089 (nI_n0 (by omega) (by omega)))
          refine j_iconst hc (v := nI 1) dL_law_1096 (by decide) ?_
          refine j_callSH hc (r := (some (Value.int (nI c0)), WD ad cs n (eG E 12 (nI u)) (mA S 0 1 (nI u)) o)) (d_5 hl (hc0 ▸ sw.2 hu0)) sh_L_112 rfl ⟨rfl, rfl, by decide, by decide⟩ rfl (Nat.le_of_ble_eq_true rfl) ⟨by show _ ≤ 600172; omega, by show _ ≤ 7300668; omega⟩ dL_law_1097 ?_
          refine j_iload hc dL_law_1100 rfl ?_
          refine j_if_ne hc 1110 dL_law_1102 (by decide) (fun h1102 => ?_) (fun h1102 => by exact absurd h1102 (nI_n0 (by omega) (by omega)))
          refine j_iload hc dL_law_1110 rfl ?_
          refine j_icmp_ne hc 1119 dL_law_1112 (by decide) (fun h1112 => by exact absurd rfl h1112) (fun h1112 => ?_)
          refine j_iconst hc (v := nI 1) dL_law_1115 (by decide) ?_
          refine j_goto hc 1120 dL_law_1116 (by decide) ?_
          refine j_istore hc dL_law_1120 rfl ?_
          refine j_goto hc 1425 dL_law_1122 (by decide) ?_
          refine j_lv [(0, .ref bb), (1, .ref (ad 0)), (2, .ref (ad 15)), (3, .ref (ad 16)), (4, .ref (ad 17)), (5, .ref (ad 18)), (6, .ref (ad 19)), (7, .ref (ad 20)), (8, .ref (ad 21)), (9, .ref (ad 22)), (10, .ref (ad 23)), (11, .int (nI 1)), (12, .int (nI t)), (15, .int (nI y))] ⟨rfl, rfl, rfl, rfl, rfl, rfl, rfl, rfl, rfl, rfl, rfl, rfl, rfl, rfl, trivial⟩ ?_
          refine j_widen (k := 2000 + 1700 * t + 8) (n := 16000 + 14000 * t + 64) (by omega) (by omega) ?_
          exact next ad n h (N) (Y) _ (mA S 0 1 (nI u)) (sim_wk H hu8 (by omega)) (by omega) (by omega)
      | succ k ih =>
        intro r c0 hr hk hd
        by_cases hr0 : r = 0
        · subst hr0
          exact ih 0 c0 (Nat.two_pow_pos k) (by omega) (by rw [hd, pop_0, pop_0])
        · -- a step
          have hr31 : r < 2 ^ 31 := Nat.lt_of_lt_of_le hr (Nat.pow_le_pow_right (by decide) (by omega))
          refine j_iload hc dL_law_1039 rfl ?_
          refine j_if_le hc 1062 dL_law_1041 (by decide) (fun h1041 => by exact absurd h1041 (nI_nle (by omega) (by omega))) (fun h1041 => ?_)
          refine j_iload hc dL_law_1044 rfl ?_
          refine j_iload hc dL_law_1046 rfl ?_
          refine j_iconst hc (v := nI 1) dL_law_1048 (by decide) ?_
          refine j_iandE hc (z := nI (r % 2)) (pk_andN (by omega) 1 (by decide)) dL_law_1049 ?_
          refine j_iaddE hc (z := nI (c0 + (r % 2))) (nI_add _ _) dL_law_1050 ?_
          refine j_istore hc dL_law_1051 rfl ?_
          refine j_iload hc dL_law_1053 rfl ?_
          refine j_iconst hc (v := nI 1) dL_law_1055 (by decide) ?_
          refine j_ishrE hc (z := nI (r / 2)) (pk_shrN (by omega) _ 1 (by decide)) dL_law_1056 ?_
          refine j_istore hc dL_law_1057 rfl ?_
          refine j_goto hc 1039 dL_law_1059 (by decide) ?_
          refine j_lv [(0, .ref bb), (1, .ref (ad 0)), (2, .ref (ad 15)), (3, .ref (ad 16)), (4, .ref (ad 17)), (5, .ref (ad 18)), (6, .ref (ad 19)), (7, .ref (ad 20)), (8, .ref (ad 21)), (9, .ref (ad 22)), (10, .ref (ad 23)), (11, .int (nI 1)), (12, .int (nI t)), (15, .int (nI y)), (17, .int (nI (y % 7))), (18, .int (nI u)), (19, .int (nI (c0 + (r % 2)))), (20, .int (nI (r / 2)))] ⟨rfl, rfl, rfl, rfl, rfl, rfl, rfl, rfl, rfl, rfl, rfl, rfl, rfl, rfl, rfl, rfl, rfl, rfl, trivial⟩ ?_
          exact ih (r / 2) (c0 + r % 2) (by rw [Nat.pow_succ] at hr; omega) (by omega) (by rw [hd, m_pop, if_neg hr0])
    refine j_istore hc dL_law_1030 rfl ?_
    refine j_iconst hc (v := nI 0) dL_law_1032 (by decide) ?_
    refine j_istore hc dL_law_1033 rfl ?_
    refine j_iload hc dL_law_1035 rfl ?_
    refine j_istore hc dL_law_1037 rfl ?_
    refine j_lv [(0, .ref bb), (1, .ref (ad 0)), (2, .ref (ad 15)), (3, .ref (ad 16)), (4, .ref (ad 17)), (5, .ref (ad 18)), (6, .ref (ad 19)), (7, .ref (ad 20)), (8, .ref (ad 21)), (9, .ref (ad 22)), (10, .ref (ad 23)), (11, .int (nI 1)), (12, .int (nI t)), (15, .int (nI y)), (17, .int (nI (y % 7))), (18, .int (nI u)), (19, .int (nI 0)), (20, .int (nI u))] ⟨rfl, rfl, rfl, rfl, rfl, rfl, rfl, rfl, rfl, rfl, rfl, rfl, rfl, rfl, rfl, rfl, rfl, rfl, trivial⟩ ?_
    exact loop 7 u 0 (by omega) (by decide) rfl
  refine j_iload hc dL_law_992 rfl ?_
  refine j_bipush hc (v := nI 7) dL_law_994 (by decide) ?_
  refine j_iremE hc (by decide) (z := nI (y % 7)) (pk_rem (by omega) (by omega) (by omega)) dL_law_996 ?_
  refine j_istore hc dL_law_997 rfl ?_
  refine j_iload hc dL_law_999 rfl ?_
  refine j_bipush hc (v := nI 7) dL_law_1001 (by decide) ?_
  refine j_idivE hc (by decide) (z := nI (y / 7)) (pk_div (by omega) (by omega) (by omega)) dL_law_1003 ?_
  refine j_iconst hc (v := nI 3) dL_law_1004 (by decide) ?_
  refine j_iremE hc (by decide) (z := nI ((y / 7) % 3)) (pk_rem (by omega) (by omega) (by omega)) dL_law_1005 ?_
  refine j_if_ne hc 1022 dL_law_1006 (by decide) (fun h1006 => ?_) (fun h1006 => ?_)
  · -- taken
    refine j_aload_n hc dL_law_1022 rfl ?_
    refine j_iconst hc (v := nI 1) dL_law_1023 (by decide) ?_
    refine xl_0 hc (i := 1) (by omega) (v := (S 0 1)) (rfl) dL_law_1024 ?_
    refine j_iconst hc (v := nI 1) dL_law_1025 (by decide) ?_
    refine j_iload hc dL_law_1026 rfl ?_
    refine j_ishl hc dL_law_1028 ?_
    refine j_ior hc dL_law_1029 ?_
    refine j_lv [(0, .ref bb), (1, .ref (ad 0)), (2, .ref (ad 15)), (3, .ref (ad 16)), (4, .ref (ad 17)), (5, .ref (ad 18)), (6, .ref (ad 19)), (7, .ref (ad 20)), (8, .ref (ad 21)), (9, .ref (ad 22)), (10, .ref (ad 23)), (11, .int (nI 1)), (12, .int (nI t)), (15, .int (nI y)), (17, .int (nI (y % 7)))] ⟨rfl, rfl, rfl, rfl, rfl, rfl, rfl, rfl, rfl, rfl, rfl, rfl, rfl, rfl, rfl, trivial⟩ ?_
    rw [show ((S 0 1) ||| ((nI 1) <<< ((nI (y % 7)) &&& 31))) = nI (wk1 m9 (y % 7)) from by rw [s1]; exact (wk_1 m9 hm9 (y % 7) (by omega)).1]
    exact k1 _ (wk_1 m9 hm9 (y % 7) (by omega)).2 (by unfold e_ww; rw [e12]; exact (wk_1 m9 hm9 (y % 7) (by omega)).1) (fun z => h1006 (by rw [z]; rfl))
  · -- not taken
    refine j_aload_n hc dL_law_1009 rfl ?_
    refine j_iconst hc (v := nI 1) dL_law_1010 (by decide) ?_
    refine xl_0 hc (i := 1) (by omega) (v := (S 0 1)) (rfl) dL_law_1011 ?_
    refine j_iconst hc (v := nI 1) dL_law_1012 (by decide) ?_
    refine j_iload hc dL_law_1013 rfl ?_
    refine j_ishl hc dL_law_1015 ?_
    refine j_iconst hc (v := -1) dL_law_1016 (by decide) ?_
    refine j_ixor hc dL_law_1017 ?_
    refine j_iand hc dL_law_1018 ?_
    refine j_goto hc 1030 dL_law_1019 (by decide) ?_
    refine j_lv [(0, .ref bb), (1, .ref (ad 0)), (2, .ref (ad 15)), (3, .ref (ad 16)), (4, .ref (ad 17)), (5, .ref (ad 18)), (6, .ref (ad 19)), (7, .ref (ad 20)), (8, .ref (ad 21)), (9, .ref (ad 22)), (10, .ref (ad 23)), (11, .int (nI 1)), (12, .int (nI t)), (15, .int (nI y)), (17, .int (nI (y % 7)))] ⟨rfl, rfl, rfl, rfl, rfl, rfl, rfl, rfl, rfl, rfl, rfl, rfl, rfl, rfl, rfl, trivial⟩ ?_
    rw [show ((S 0 1) &&& (((nI 1) <<< ((nI (y % 7)) &&& 31)) ^^^ (-1))) = nI (wk0 m9 (y % 7)) from by rw [s1]; exact (wk_0 m9 hm9 (y % 7) (by omega)).1]
    exact k0 _ (wk_0 m9 hm9 (y % 7) (by omega)).2 (by unfold e_ww; rw [e12]; exact (wk_0 m9 hm9 (y % 7) (by omega)).1) ((nI_eq (b := 0) (by omega) (by decide)).mp h1006)
set_option maxRecDepth 100000 in
set_option maxHeartbeats 4000000 in
theorem op_gap {p : Program} {l : Launch} {e : Env} {s : State} {m : MethodId} {below : List Frame} {meth : Method} {c : Code} {D : va_G} {cs : Nat → ClassId} {sa : Nat → Nat} {A : Nat → Prop} {Q : State → Prop} {bb t y : Nat} {ad : Nat → Nat} {n h N Y : Nat} {E : ES} {S : MS} {o : Nat → Int64} (hc : CX p l e room_1 s m #[Value.ref bb] below meth c D cs sa A code 21 RL ret) (H : Rel h n N Y E S) (hN : N ≤ 1500 * t) (hY : Y ≤ 60 * t) (ht : t < 110) (hy : y < 134217728) (next : ∀ (ad : Nat → Nat) (n h N Y : Nat) (E : ES) (S : MS), Rel h n N Y E S → N ≤ 1500 * (t + 1) → Y ≤ 60 * (t + 1) → J p l e room_1 s m #[Value.ref bb] below meth c D A 21 (2000 + 1700 * t + 8) (16000 + 14000 * t + 64) Q (WD ad cs n E S o) 1425 [(0, .ref bb), (1, .ref (ad 0)), (2, .ref (ad 15)), (3, .ref (ad 16)), (4, .ref (ad 17)), (5, .ref (ad 18)), (6, .ref (ad 19)), (7, .ref (ad 20)), (8, .ref (ad 21)), (9, .ref (ad 22)), (10, .ref (ad 23)), (11, .int (nI 1)), (12, .int (nI t)), (15, .int (nI y))] [])  : J p l e room_1 s m #[Value.ref bb] below meth c D A 21 (2000 + 1700 * t) (16000 + 14000 * t) Q (WD ad cs n E S o) 1132 [(0, .ref bb), (1, .ref (ad 0)), (2, .ref (ad 15)), (3, .ref (ad 16)), (4, .ref (ad 17)), (5, .ref (ad 18)), (6, .ref (ad 19)), (7, .ref (ad 20)), (8, .ref (ad 21)), (9, .ref (ad 22)), (10, .ref (ad 23)), (11, .int (nI 1)), (12, .int (nI t)), (15, .int (nI y))] [] := by
  have hl := hc.2.2.2.2.2.2
  have G := H.1
  have n12 := G.n12
  have hn30 : n ≤ 30 := by omega
  have h60 := G.h60
  obtain ⟨i, hi4, ei⟩ : ∃ i, i < 4 ∧ nI 1 + nI (y % 4) = nI (i + 1) := ⟨y % 4, by omega, by rw [nI_add, Nat.add_comm]⟩
  obtain ⟨q9, hq9, gp1, eq9, gp3⟩ := G.gp i hi4
  have ci : (nI (i + 1) - 1).toNatClampNeg = i := by rw [nI_pred]; exact nI_clamp (by omega)
  have ec : e_clearGaps E (nI (i + 1)) = (none, nI q9, eG E (14 + i) 0) := by
    unfold e_clearGaps
    rw [ck_none (rsn_ok hi4), ci, gp1]
  have r9 := rng_ok (k := (1 + ((y / 16) % 30))) (x := 1) (y := 30) (by omega) (by omega) (by decide)
  have r9' : e_rng (nI (1 + ((y / 16) % 30))) 1 30 = none := r9
  have eg : e_addGap E (nI (i + 1)) (nI (1 + ((y / 16) % 30))) = if nI q9 < 6 then (none, (e_app E i (nI (1 + ((y / 16) % 30)))).1 (14 + i), e_app E i (nI (1 + ((y / 16) % 30)))) else (some xIS, 0, E) := by
    unfold e_addGap
    rw [ck_none (rsn_ok hi4), ck_none r9', ci, gp1]
  refine j_iconst hc (v := nI 1) dL_law_1132 (by decide) ?_
  refine j_iload hc dL_law_1133 rfl ?_
  refine j_iconst hc (v := nI 4) dL_law_1135 (by decide) ?_
  refine j_iremE hc (by decide) (z := nI (y % 4)) (pk_rem (by omega) (by omega) (by omega)) dL_law_1136 ?_
  refine j_iaddE hc (z := nI (i + 1)) ei dL_law_1137 ?_
  refine j_istore hc dL_law_1138 rfl ?_
  refine j_iload hc dL_law_1140 rfl ?_
  refine j_iconst hc (v := nI 4) dL_law_1142 (by decide) ?_
  refine j_idivE hc (by decide) (z := nI (y / 4)) (pk_div (by omega) (by omega) (by omega)) dL_law_1143 ?_
  refine j_iconst hc (v := nI 4) dL_law_1144 (by decide) ?_
  refine j_iremE hc (by decide) (z := nI ((y / 4) % 4)) (pk_rem (by omega) (by omega) (by omega)) dL_law_1145 ?_
  refine j_if_ne hc 1179 dL_law_1146 (by decide) (fun h1146 => ?_) (fun h1146 => ?_)
  · -- taken
    refine j_aload hc dL_law_1179 rfl ?_
    refine j_iload hc dL_law_1181 rfl ?_
    refine xl_3 hc (i := (i + 1)) (by omega) (v := (nI q9)) (eq9) dL_law_1183 ?_
    refine j_bipush hc (v := nI 6) dL_law_1184 (by decide) ?_
    refine j_icmp_ne hc 1194 dL_law_1186 (by decide) (fun h1186 => ?_) (fun h1186 => ?_)
    · -- taken
      have c6 : ¬ q9 = 6 := fun z => h1186 (by rw [z])
      refine j_aload hc dL_law_1194 rfl ?_
      refine j_iload hc dL_law_1196 rfl ?_
      refine xl_3 hc (i := (i + 1)) (by omega) (v := (nI q9)) (eq9) dL_law_1198 ?_
      refine j_iconst hc (v := nI 1) dL_law_1199 (by decide) ?_
      refine j_iaddE hc (z := nI (q9 + 1)) (nI_add _ _) dL_law_1200 ?_
      refine j_istore hc dL_law_1201 rfl ?_
      refine j_iload hc dL_law_1203 rfl ?_
      refine j_if_le hc 1241 dL_law_1205 (by decide) (fun h1205 => by exact absurd h1205 (nI_nle (by omega) (by omega))) (fun h1205 => ?_)
      refine j_aload hc dL_law_1208 rfl ?_
      refine j_bipush hc (v := nI 6) dL_law_1210 (by decide) ?_
      refine j_iload hc dL_law_1212 rfl ?_
      refine j_imulE hc (z := nI (6 * (i + 1))) (pk_mul _ _) dL_law_1214 ?_
      refine j_aload hc dL_law_1215 rfl ?_
      refine j_iload hc dL_law_1217 rfl ?_
      refine xl_3 hc (i := (i + 1)) (by omega) (v := (nI q9)) (eq9) dL_law_1219 ?_
      refine j_iaddE hc (z := nI ((6 * (i + 1)) + q9)) (nI_add _ _) dL_law_1220 ?_
      refine j_iconst hc (v := nI 1) dL_law_1221 (by decide) ?_
      refine j_iload hc dL_law_1222 rfl ?_
      refine j_bipush hc (v := nI 16) dL_law_1224 (by decide) ?_
      refine j_idivE hc (by decide) (z := nI (y / 16)) (pk_div (by omega) (by omega) (by omega)) dL_law_1226 ?_
      refine j_bipush hc (v := nI 30) dL_law_1227 (by decide) ?_
      refine j_iremE hc (by decide) (z := nI ((y / 16) % 30)) (pk_rem (by omega) (by omega) (by omega)) dL_law_1229 ?_
      refine j_iaddE hc (z := nI (1 + ((y / 16) % 30))) (nI_add _ _) dL_law_1230 ?_
      refine xs_2 hc (i := ((6 * (i + 1)) + q9)) (by omega) dL_law_1231 ?_
      refine j_aload hc dL_law_1232 rfl ?_
      refine j_iload hc dL_law_1234 rfl ?_
      refine j_dup2 hc dL_law_1236 rfl rfl ?_
      refine xl_3 hc (i := (i + 1)) (by omega) (v := (nI q9)) (Eq.trans (mA_ro (by decide)) (eq9)) dL_law_1237 ?_
      refine j_iconst hc (v := nI 1) dL_law_1238 (by decide) ?_
      refine j_iaddE hc (z := nI (q9 + 1)) (nI_add _ _) dL_law_1239 ?_
      refine xs_3 hc (i := (i + 1)) (by omega) dL_law_1240 ?_
      refine j_aload_n hc dL_law_1241 rfl ?_
      refine j_iconst hc (v := nI 3) dL_law_1242 (by decide) ?_
      refine j_iload hc dL_law_1243 rfl ?_
      refine j_iconst hc (v := nI 1) dL_law_1245 (by decide) ?_
      refine j_iload hc dL_law_1246 rfl ?_
      refine j_bipush hc (v := nI 16) dL_law_1248 (by decide) ?_
      refine j_idivE hc (by decide) (z := nI (y / 16)) (pk_div (by omega) (by omega) (by omega)) dL_law_1250 ?_
      refine j_bipush hc (v := nI 30) dL_law_1251 (by decide) ?_
      refine j_iremE hc (by decide) (z := nI ((y / 16) % 30)) (pk_rem (by omega) (by omega) (by omega)) dL_law_1253 ?_
      refine j_iaddE hc (z := nI (1 + ((y / 16) % 30))) (nI_add _ _) dL_law_1254 ?_
      have R9 := sim_add H hi4 (c := q9) (g := (1 + ((y / 16) % 30))) (by omega) eq9 (by omega) (by omega)
      obtain ⟨q8, hq86, gq1, gq2, -⟩ := R9.1.gp i hi4
      have hq8 : q8 = q9 + 1 := (nI_eq (by omega) (by omega)).mp (gq2.symm.trans mA_s)
      rw [hq8] at gq1
      have z6 : nI q9 < 6 := nI_lt (b := 6) (by omega) (by decide)
      refine j_callSH hc (r := (some (Value.int (nI (q9 + 1))), WD ad cs n (e_app E i (nI (1 + ((y / 16) % 30)))) (mA (mA S 2 ((6 * (i + 1)) + q9) (nI (1 + ((y / 16) % 30)))) 3 (i + 1) (nI (q9 + 1))) o)) (d_3 hl ((eg.trans (if_pos z6)).trans (by rw [gq1]))) sh_L_112 rfl ⟨rfl, rfl, by decide, by decide⟩ rfl (Nat.le_of_ble_eq_true rfl) ⟨by show _ ≤ 600172; omega, by show _ ≤ 7300668; omega⟩ dL_law_1255 ?_
      refine j_iload hc dL_law_1258 rfl ?_
      refine j_icmp_ne hc 1267 dL_law_1260 (by decide) (fun h1260 => by exact absurd rfl h1260) (fun h1260 => ?_)
      refine j_iconst hc (v := nI 1) dL_law_1263 (by decide) ?_
      refine j_goto hc 1268 dL_law_1264 (by decide) ?_
      refine j_istore hc dL_law_1268 rfl ?_
      refine j_goto hc 1425 dL_law_1270 (by decide) ?_
      refine j_lv [(0, .ref bb), (1, .ref (ad 0)), (2, .ref (ad 15)), (3, .ref (ad 16)), (4, .ref (ad 17)), (5, .ref (ad 18)), (6, .ref (ad 19)), (7, .ref (ad 20)), (8, .ref (ad 21)), (9, .ref (ad 22)), (10, .ref (ad 23)), (11, .int (nI 1)), (12, .int (nI t)), (15, .int (nI y))] ⟨rfl, rfl, rfl, rfl, rfl, rfl, rfl, rfl, rfl, rfl, rfl, rfl, rfl, rfl, trivial⟩ ?_
      refine j_widen (k := 2000 + 1700 * t + 8) (n := 16000 + 14000 * t + 64) (by omega) (by omega) ?_
      exact next ad n h (N) (Y) _ (mA (mA S 2 ((6 * (i + 1)) + q9) (nI (1 + ((y / 16) % 30)))) 3 (i + 1) (nI (q9 + 1))) (R9) (by omega) (by omega)
    · -- not taken
      have c6 : q9 = 6 := (nI_eq (by omega) (by decide)).mp h1186
      refine j_bipush hc (v := -13) dL_law_1189 (by decide) ?_
      refine j_goto hc 1201 dL_law_1191 (by decide) ?_
      refine j_istore hc dL_law_1201 rfl ?_
      refine j_iload hc dL_law_1203 rfl ?_
      refine j_if_le hc 1241 dL_law_1205 (by decide) (fun h1205 => ?_) (fun h1205 => by exact absurd (show ¬ ((-13) : Int32) ≤ (0 : Int32) from h1205) (by decide))
      refine j_aload_n hc dL_law_1241 rfl ?_
      refine j_iconst hc (v := nI 3) dL_law_1242 (by decide) ?_
      refine j_iload hc dL_law_1243 rfl ?_
      refine j_iconst hc (v := nI 1) dL_law_1245 (by decide) ?_
      refine j_iload hc dL_law_1246 rfl ?_
      refine j_bipush hc (v := nI 16) dL_law_1248 (by decide) ?_
      refine j_idivE hc (by decide) (z := nI (y / 16)) (pk_div (by omega) (by omega) (by omega)) dL_law_1250 ?_
      refine j_bipush hc (v := nI 30) dL_law_1251 (by decide) ?_
      refine j_iremE hc (by decide) (z := nI ((y / 16) % 30)) (pk_rem (by omega) (by omega) (by omega)) dL_law_1253 ?_
      refine j_iaddE hc (z := nI (1 + ((y / 16) % 30))) (nI_add _ _) dL_law_1254 ?_
      refine j_callSH hc (r := (some (Value.int (-13)), WD ad cs n E S o)) (dx_3 hl (eg.trans (if_neg (by rw [c6]; decide)))) sh_L_112 rfl ⟨rfl, rfl, by decide, by decide⟩ rfl (Nat.le_of_ble_eq_true rfl) ⟨by show _ ≤ 600172; omega, by show _ ≤ 7300668; omega⟩ dL_law_1255 ?_
      refine j_iload hc dL_law_1258 rfl ?_
      refine j_icmp_ne hc 1267 dL_law_1260 (by decide) (fun h1260 => by exact absurd rfl h1260) (fun h1260 => ?_)
      refine j_iconst hc (v := nI 1) dL_law_1263 (by decide) ?_
      refine j_goto hc 1268 dL_law_1264 (by decide) ?_
      refine j_istore hc dL_law_1268 rfl ?_
      refine j_goto hc 1425 dL_law_1270 (by decide) ?_
      refine j_lv [(0, .ref bb), (1, .ref (ad 0)), (2, .ref (ad 15)), (3, .ref (ad 16)), (4, .ref (ad 17)), (5, .ref (ad 18)), (6, .ref (ad 19)), (7, .ref (ad 20)), (8, .ref (ad 21)), (9, .ref (ad 22)), (10, .ref (ad 23)), (11, .int (nI 1)), (12, .int (nI t)), (15, .int (nI y))] ⟨rfl, rfl, rfl, rfl, rfl, rfl, rfl, rfl, rfl, rfl, rfl, rfl, rfl, rfl, trivial⟩ ?_
      refine j_widen (k := 2000 + 1700 * t + 8) (n := 16000 + 14000 * t + 64) (by omega) (by omega) ?_
      exact next ad n h (N) (Y) _ S (H) (by omega) (by omega)
  · -- not taken
    refine j_aload_n hc dL_law_1149 rfl ?_
    refine j_iload hc dL_law_1150 rfl ?_
    refine j_callV' hc (k_clearGaps hl ec) vc_L_123 rfl ⟨rfl, rfl, by decide, by decide⟩ 0 rfl rfl rfl (Nat.le_of_ble_eq_true rfl) ⟨by show _ ≤ 600172; omega, by show _ ≤ 7300668; omega⟩ dL_law_1152 (fun _ h9 => by cases h9) (fun _ => ?_)
    refine j_aload hc dL_law_1155 rfl ?_
    refine j_iload hc dL_law_1157 rfl ?_
    refine xl_3 hc (i := (i + 1)) (by omega) (v := (nI q9)) (eq9) dL_law_1159 ?_
    refine j_icmp_ne hc 1167 dL_law_1160 (by decide) (fun h1160 => by exact absurd rfl h1160) (fun h1160 => ?_)
    refine j_iconst hc (v := nI 1) dL_law_1163 (by decide) ?_
    refine j_goto hc 1168 dL_law_1164 (by decide) ?_
    refine j_istore hc dL_law_1168 rfl ?_
    refine j_aload hc dL_law_1170 rfl ?_
    refine j_iload hc dL_law_1172 rfl ?_
    refine j_iconst hc (v := nI 0) dL_law_1174 (by decide) ?_
    refine xs_3 hc (i := (i + 1)) (by omega) dL_law_1175 ?_
    refine j_goto hc 1270 dL_law_1176 (by decide) ?_
    refine j_goto hc 1425 dL_law_1270 (by decide) ?_
    refine j_lv [(0, .ref bb), (1, .ref (ad 0)), (2, .ref (ad 15)), (3, .ref (ad 16)), (4, .ref (ad 17)), (5, .ref (ad 18)), (6, .ref (ad 19)), (7, .ref (ad 20)), (8, .ref (ad 21)), (9, .ref (ad 22)), (10, .ref (ad 23)), (11, .int (nI 1)), (12, .int (nI t)), (15, .int (nI y))] ⟨rfl, rfl, rfl, rfl, rfl, rfl, rfl, rfl, rfl, rfl, rfl, rfl, rfl, rfl, trivial⟩ ?_
    refine j_widen (k := 2000 + 1700 * t + 8) (n := 16000 + 14000 * t + 64) (by omega) (by omega) ?_
    exact next ad n h (N) (Y) _ (mA S 3 (i + 1) (nI 0)) (sim_clear H hi4) (by omega) (by omega)
set_option maxRecDepth 100000 in
set_option maxHeartbeats 4000000 in
theorem op_times {p : Program} {l : Launch} {e : Env} {s : State} {m : MethodId} {below : List Frame} {meth : Method} {c : Code} {D : va_G} {cs : Nat → ClassId} {sa : Nat → Nat} {A : Nat → Prop} {Q : State → Prop} {bb t y : Nat} {ad : Nat → Nat} {n h N Y : Nat} {E : ES} {S : MS} {o : Nat → Int64} (hc : CX p l e room_1 s m #[Value.ref bb] below meth c D cs sa A code 21 RL ret) (H : Rel h n N Y E S) (hN : N ≤ 1500 * t) (hY : Y ≤ 60 * t) (ht : t < 110) (hy : y < 134217728) (next : ∀ (ad : Nat → Nat) (n h N Y : Nat) (E : ES) (S : MS), Rel h n N Y E S → N ≤ 1500 * (t + 1) → Y ≤ 60 * (t + 1) → J p l e room_1 s m #[Value.ref bb] below meth c D A 21 (2000 + 1700 * t + 8) (16000 + 14000 * t + 64) Q (WD ad cs n E S o) 1425 [(0, .ref bb), (1, .ref (ad 0)), (2, .ref (ad 15)), (3, .ref (ad 16)), (4, .ref (ad 17)), (5, .ref (ad 18)), (6, .ref (ad 19)), (7, .ref (ad 20)), (8, .ref (ad 21)), (9, .ref (ad 22)), (10, .ref (ad 23)), (11, .int (nI 1)), (12, .int (nI t)), (15, .int (nI y))] [])  : J p l e room_1 s m #[Value.ref bb] below meth c D A 21 (2000 + 1700 * t) (16000 + 14000 * t) Q (WD ad cs n E S o) 1287 [(0, .ref bb), (1, .ref (ad 0)), (2, .ref (ad 15)), (3, .ref (ad 16)), (4, .ref (ad 17)), (5, .ref (ad 18)), (6, .ref (ad 19)), (7, .ref (ad 20)), (8, .ref (ad 21)), (9, .ref (ad 22)), (10, .ref (ad 23)), (11, .int (nI 1)), (12, .int (nI t)), (15, .int (nI y))] [] := by
  have hl := hc.2.2.2.2.2.2
  have G := H.1
  have n12 := G.n12
  have hn30 : n ≤ 30 := by omega
  have h60 := G.h60
  have r1 := rng_ok (k := (1 + ((y / 3) % 60))) (x := 1) (y := 60) (by omega) (by omega) (by decide)
  have r1' : e_rng (nI (1 + ((y / 3) % 60))) 1 60 = none := r1
  have r2 := rng_ok (k := (1 + ((y / 180) % 90))) (x := 1) (y := 90) (by omega) (by omega) (by decide)
  have r2' : e_rng (nI (1 + ((y / 180) % 90))) 1 90 = none := r2
  have es : e_setTimes E (nI (1 + ((y / 3) % 60))) (nI (1 + ((y / 180) % 90))) = (none, S 0 3, eG (eG E 6 (nI (1 + ((y / 3) % 60)))) 7 (nI (1 + ((y / 180) % 90)))) := by
    unfold e_setTimes
    rw [ck_none r1', ck_none r2', G.g6]
  refine j_aload_n hc dL_law_1287 rfl ?_
  refine j_iconst hc (v := nI 3) dL_law_1288 (by decide) ?_
  refine xl_0 hc (i := 3) (by omega) (v := (S 0 3)) (rfl) dL_law_1289 ?_
  refine j_istore hc dL_law_1290 rfl ?_
  refine j_aload_n hc dL_law_1292 rfl ?_
  refine j_iconst hc (v := nI 3) dL_law_1293 (by decide) ?_
  refine j_iconst hc (v := nI 1) dL_law_1294 (by decide) ?_
  refine j_iload hc dL_law_1295 rfl ?_
  refine j_iconst hc (v := nI 3) dL_law_1297 (by decide) ?_
  refine j_idivE hc (by decide) (z := nI (y / 3)) (pk_div (by omega) (by omega) (by omega)) dL_law_1298 ?_
  refine j_bipush hc (v := nI 60) dL_law_1299 (by decide) ?_
  refine j_iremE hc (by decide) (z := nI ((y / 3) % 60)) (pk_rem (by omega) (by omega) (by omega)) dL_law_1301 ?_
  refine j_iaddE hc (z := nI (1 + ((y / 3) % 60))) (nI_add _ _) dL_law_1302 ?_
  refine xs_0 hc (i := 3) (by omega) dL_law_1303 ?_
  refine j_aload_n hc dL_law_1304 rfl ?_
  refine j_iconst hc (v := nI 4) dL_law_1305 (by decide) ?_
  refine j_iconst hc (v := nI 1) dL_law_1306 (by decide) ?_
  refine j_iload hc dL_law_1307 rfl ?_
  refine j_sipush hc (v := nI 180) dL_law_1309 (by decide) ?_
  refine j_idivE hc (by decide) (z := nI (y / 180)) (pk_div (by omega) (by omega) (by omega)) dL_law_1312 ?_
  refine j_bipush hc (v := nI 90) dL_law_1313 (by decide) ?_
  refine j_iremE hc (by decide) (z := nI ((y / 180) % 90)) (pk_rem (by omega) (by omega) (by omega)) dL_law_1315 ?_
  refine j_iaddE hc (z := nI (1 + ((y / 180) % 90))) (nI_add _ _) dL_law_1316 ?_
  refine xs_0 hc (i := 4) (by omega) dL_law_1317 ?_
  refine j_aload_n hc dL_law_1318 rfl ?_
  refine j_aload_n hc dL_law_1319 rfl ?_
  refine j_iconst hc (v := nI 3) dL_law_1320 (by decide) ?_
  refine xl_0 hc (i := 3) (by omega) (v := (nI (1 + ((y / 3) % 60)))) (Eq.trans (mA_c (by omega)) (mA_s)) dL_law_1321 ?_
  refine j_aload_n hc dL_law_1322 rfl ?_
  refine j_iconst hc (v := nI 4) dL_law_1323 (by decide) ?_
  refine xl_0 hc (i := 4) (by omega) (v := (nI (1 + ((y / 180) % 90)))) (mA_s) dL_law_1324 ?_
  refine j_callV' hc (k_setTimes hl es) vc_L_126 rfl ⟨rfl, rfl, by decide, by decide⟩ 0 rfl rfl rfl (Nat.le_of_ble_eq_true rfl) ⟨by show _ ≤ 600172; omega, by show _ ≤ 7300668; omega⟩ dL_law_1325 (fun _ h9 => by cases h9) (fun _ => ?_)
  refine j_iload hc dL_law_1328 rfl ?_
  refine j_icmp_ne hc 1337 dL_law_1330 (by decide) (fun h1330 => by exact absurd rfl h1330) (fun h1330 => ?_)
  refine j_iconst hc (v := nI 1) dL_law_1333 (by decide) ?_
  refine j_goto hc 1338 dL_law_1334 (by decide) ?_
  refine j_istore hc dL_law_1338 rfl ?_
  refine j_goto hc 1425 dL_law_1340 (by decide) ?_
  refine j_lv [(0, .ref bb), (1, .ref (ad 0)), (2, .ref (ad 15)), (3, .ref (ad 16)), (4, .ref (ad 17)), (5, .ref (ad 18)), (6, .ref (ad 19)), (7, .ref (ad 20)), (8, .ref (ad 21)), (9, .ref (ad 22)), (10, .ref (ad 23)), (11, .int (nI 1)), (12, .int (nI t)), (15, .int (nI y))] ⟨rfl, rfl, rfl, rfl, rfl, rfl, rfl, rfl, rfl, rfl, rfl, rfl, rfl, rfl, trivial⟩ ?_
  refine j_widen (k := 2000 + 1700 * t + 8) (n := 16000 + 14000 * t + 64) (by omega) (by omega) ?_
  exact next ad n h (N) (Y) _ (mA (mA S 0 3 (nI (1 + ((y / 3) % 60)))) 0 4 (nI (1 + ((y / 180) % 90)))) (sim_times H) (by omega) (by omega)
set_option maxRecDepth 100000 in
set_option maxHeartbeats 4000000 in
theorem op_pass {p : Program} {l : Launch} {e : Env} {s : State} {m : MethodId} {below : List Frame} {meth : Method} {c : Code} {D : va_G} {cs : Nat → ClassId} {sa : Nat → Nat} {A : Nat → Prop} {Q : State → Prop} {bb t y : Nat} {ad : Nat → Nat} {n h N Y : Nat} {E : ES} {S : MS} {o : Nat → Int64} (hc : CX p l e room_1 s m #[Value.ref bb] below meth c D cs sa A code 21 RL ret) (H : Rel h n N Y E S) (hN : N ≤ 1500 * t) (hY : Y ≤ 60 * t) (ht : t < 110) (hy : y < 134217728) (next : ∀ (ad : Nat → Nat) (n h N Y : Nat) (E : ES) (S : MS), Rel h n N Y E S → N ≤ 1500 * (t + 1) → Y ≤ 60 * (t + 1) → J p l e room_1 s m #[Value.ref bb] below meth c D A 21 (2000 + 1700 * t + 8) (16000 + 14000 * t + 64) Q (WD ad cs n E S o) 1425 [(0, .ref bb), (1, .ref (ad 0)), (2, .ref (ad 15)), (3, .ref (ad 16)), (4, .ref (ad 17)), (5, .ref (ad 18)), (6, .ref (ad 19)), (7, .ref (ad 20)), (8, .ref (ad 21)), (9, .ref (ad 22)), (10, .ref (ad 23)), (11, .int (nI 1)), (12, .int (nI t)), (15, .int (nI y))] [])  : J p l e room_1 s m #[Value.ref bb] below meth c D A 21 (2000 + 1700 * t) (16000 + 14000 * t) Q (WD ad cs n E S o) 1343 [(0, .ref bb), (1, .ref (ad 0)), (2, .ref (ad 15)), (3, .ref (ad 16)), (4, .ref (ad 17)), (5, .ref (ad 18)), (6, .ref (ad 19)), (7, .ref (ad 20)), (8, .ref (ad 21)), (9, .ref (ad 22)), (10, .ref (ad 23)), (11, .int (nI 1)), (12, .int (nI t)), (15, .int (nI y))] [] := by
  have hl := hc.2.2.2.2.2.2
  have G := H.1
  have n12 := G.n12
  have hn30 : n ≤ 30 := by omega
  have h60 := G.h60
  have k1362 : ∀ d, 1 ≤ d → d ≤ 60 → J p l e room_1 s m #[Value.ref bb] below meth c D A 21 (2000 + 1700 * t) (16000 + 14000 * t) Q (WD ad cs n E S o) 1362 [(0, .ref bb), (1, .ref (ad 0)), (2, .ref (ad 15)), (3, .ref (ad 16)), (4, .ref (ad 17)), (5, .ref (ad 18)), (6, .ref (ad 19)), (7, .ref (ad 20)), (8, .ref (ad 21)), (9, .ref (ad 22)), (10, .ref (ad 23)), (11, .int (nI 1)), (12, .int (nI t)), (15, .int (nI y))] [.int (nI d)] := by
    intro d d1 d60
    have loop : ∀ (k j : Nat) (c0 : Int32) (N1 : Nat) (S1 : MS) (E1 : ES), j + k = d → N1 ≤ N + 24 * j → Rel h n N1 (Y + j) E1 S1 → e_days n d 0 E = e_days n k c0 E1 → J p l e room_1 s m #[Value.ref bb] below meth c D A 21 (2000 + 1700 * t) (16000 + 14000 * t) Q (WD ad cs n E S1 o) 1370 [(0, .ref bb), (1, .ref (ad 0)), (2, .ref (ad 15)), (3, .ref (ad 16)), (4, .ref (ad 17)), (5, .ref (ad 18)), (6, .ref (ad 19)), (7, .ref (ad 20)), (8, .ref (ad 21)), (9, .ref (ad 22)), (10, .ref (ad 23)), (11, .int (nI 1)), (12, .int (nI t)), (15, .int (nI y)), (17, .int (nI d)), (18, .int c0), (19, .int (nI j))] [] := by
      intro k
      induction k with
      | zero =>
        intro j c0 N1 S1 E1 hj hN1 R1 hd
        have hjd : j = d := by omega
        subst hjd
        have r := rng_ok (k := j) (x := 1) (y := 60) d1 d60 (by decide)
        have r' : e_rng (nI j) 1 60 = none := r
        have ep : e_pass n E (nI j) = (none, c0, E1) := by
          unfold e_pass
          rw [ck_none r', nI_clamp (by omega), hd]
          rfl
        refine j_iload hc dL_law_1370 rfl ?_
        refine j_iload hc dL_law_1372 rfl ?_
        refine j_icmp_ge hc 1407 dL_law_1374 (by decide) (fun h1374 => ?_) (fun h1374 => by exact absurd (nI_le (Nat.le_refl _) (by omega)) h1374)
        refine j_aload_n hc dL_law_1407 rfl ?_
        refine j_iload hc dL_law_1408 rfl ?_
        refine j_callV' hc (k_pass hl hn30 ep) vc_L_133 rfl ⟨rfl, rfl, by decide, by decide⟩ 0 rfl rfl rfl (Nat.le_of_ble_eq_true rfl) ⟨by show _ ≤ 600172; omega, by show _ ≤ 7300668; omega⟩ dL_law_1410 (fun _ h9 => by cases h9) (fun _ => ?_)
        refine j_iload hc dL_law_1413 rfl ?_
        refine j_icmp_ne hc 1422 dL_law_1415 (by decide) (fun h1415 => by exact absurd rfl h1415) (fun h1415 => ?_)
        refine j_iconst hc (v := nI 1) dL_law_1418 (by decide) ?_
        refine j_goto hc 1423 dL_law_1419 (by decide) ?_
        refine j_istore hc dL_law_1423 rfl ?_
        refine j_lv [(0, .ref bb), (1, .ref (ad 0)), (2, .ref (ad 15)), (3, .ref (ad 16)), (4, .ref (ad 17)), (5, .ref (ad 18)), (6, .ref (ad 19)), (7, .ref (ad 20)), (8, .ref (ad 21)), (9, .ref (ad 22)), (10, .ref (ad 23)), (11, .int (nI 1)), (12, .int (nI t)), (15, .int (nI y))] ⟨rfl, rfl, rfl, rfl, rfl, rfl, rfl, rfl, rfl, rfl, rfl, rfl, rfl, rfl, trivial⟩ ?_
        refine j_widen (k := 2000 + 1700 * t + 8) (n := 16000 + 14000 * t + 64) (by omega) (by omega) ?_
        exact next ad n h (N1) (Y + j) _ S1 (R1) (by omega) (by omega)
      | succ k ih =>
        intro j c0 N1 S1 E1 hj hN1 R1 hd
        refine j_iload hc dL_law_1370 rfl ?_
        refine j_iload hc dL_law_1372 rfl ?_
        refine j_icmp_ge hc 1407 dL_law_1374 (by decide) (fun h1374 => by exact absurd h1374 (nI_ge (by omega) (by omega))) (fun h1374 => ?_)
        refine j_iload hc dL_law_1377 rfl ?_
        refine j_aload_n hc dL_law_1379 rfl ?_
        refine j_aload_n hc dL_law_1380 rfl ?_
        refine j_aload hc dL_law_1381 rfl ?_
        refine j_aload hc dL_law_1383 rfl ?_
        refine j_aload hc dL_law_1385 rfl ?_
        refine j_aload hc dL_law_1387 rfl ?_
        refine j_aload hc dL_law_1389 rfl ?_
        refine j_aload hc dL_law_1391 rfl ?_
        refine j_aload hc dL_law_1393 rfl ?_
        refine j_callXS hc (c_L_passes hl R1 (by omega) (by omega)) sc_L_129 rfl ⟨rfl, rfl, by decide, by decide⟩ rfl (Nat.le_of_ble_eq_true rfl) ⟨by show _ ≤ 600172; omega, by show _ ≤ 7300668; omega⟩ dL_law_1395 (fun x9 => ?_)
        obtain ⟨⟨S2, N2⟩, hN2, R2⟩ := x9
        refine j_w (w' := WD ad cs n E S2 o) rfl ?_
        refine j_iadd hc dL_law_1398 ?_
        refine j_istore hc dL_law_1399 rfl ?_
        refine j_incE hc dL_law_1401 rfl (v := nI (j + 1)) (nI_1 _) rfl ?_
        refine j_goto hc 1370 dL_law_1404 (by decide) ?_
        have hN2 : N2 ≤ N1 + 24 := hN2
        refine j_lv [(0, .ref bb), (1, .ref (ad 0)), (2, .ref (ad 15)), (3, .ref (ad 16)), (4, .ref (ad 17)), (5, .ref (ad 18)), (6, .ref (ad 19)), (7, .ref (ad 20)), (8, .ref (ad 21)), (9, .ref (ad 22)), (10, .ref (ad 23)), (11, .int (nI 1)), (12, .int (nI t)), (15, .int (nI y)), (17, .int (nI d)), (18, .int (c0 + ((e_day n E1).1))), (19, .int (nI (j + 1)))] ⟨rfl, rfl, rfl, rfl, rfl, rfl, rfl, rfl, rfl, rfl, rfl, rfl, rfl, rfl, rfl, rfl, rfl, trivial⟩ ?_
        exact ih (j + 1) _ N2 S2 _ (by omega) (by omega) R2 (by rw [hd]; rfl)
    refine j_istore hc dL_law_1362 rfl ?_
    refine j_iconst hc (v := nI 0) dL_law_1364 (by decide) ?_
    refine j_istore hc dL_law_1365 rfl ?_
    refine j_iconst hc (v := nI 0) dL_law_1367 (by decide) ?_
    refine j_istore hc dL_law_1368 rfl ?_
    refine j_lv [(0, .ref bb), (1, .ref (ad 0)), (2, .ref (ad 15)), (3, .ref (ad 16)), (4, .ref (ad 17)), (5, .ref (ad 18)), (6, .ref (ad 19)), (7, .ref (ad 20)), (8, .ref (ad 21)), (9, .ref (ad 22)), (10, .ref (ad 23)), (11, .int (nI 1)), (12, .int (nI t)), (15, .int (nI y)), (17, .int (nI d)), (18, .int (nI 0)), (19, .int (nI 0))] ⟨rfl, rfl, rfl, rfl, rfl, rfl, rfl, rfl, rfl, rfl, rfl, rfl, rfl, rfl, rfl, rfl, rfl, trivial⟩ ?_
    exact loop d 0 _ N S E (by omega) (by omega) H rfl
  refine j_iconst hc (v := nI 1) dL_law_1343 (by decide) ?_
  refine j_iload hc dL_law_1344 rfl ?_
  refine j_iload hc dL_law_1346 rfl ?_
  refine j_bipush hc (v := nI 6) dL_law_1348 (by decide) ?_
  refine j_iremE hc (by decide) (z := nI (y % 6)) (pk_rem (by omega) (by omega) (by omega)) dL_law_1350 ?_
  refine j_if_ne hc 1359 dL_law_1351 (by decide) (fun h1351 => ?_) (fun h1351 => ?_)
  · -- taken
    refine j_iconst hc (v := nI 5) dL_law_1359 (by decide) ?_
    refine j_iremE hc (by decide) (z := nI (y % 5)) (pk_rem (by omega) (by omega) (by omega)) dL_law_1360 ?_
    refine j_iaddE hc (z := nI (1 + (y % 5))) (nI_add _ _) dL_law_1361 ?_
    refine j_lv [(0, .ref bb), (1, .ref (ad 0)), (2, .ref (ad 15)), (3, .ref (ad 16)), (4, .ref (ad 17)), (5, .ref (ad 18)), (6, .ref (ad 19)), (7, .ref (ad 20)), (8, .ref (ad 21)), (9, .ref (ad 22)), (10, .ref (ad 23)), (11, .int (nI 1)), (12, .int (nI t)), (15, .int (nI y))] ⟨rfl, rfl, rfl, rfl, rfl, rfl, rfl, rfl, rfl, rfl, rfl, rfl, rfl, rfl, trivial⟩ ?_
    exact k1362 (1 + (y % 5)) (by omega) (by omega)
  · -- not taken
    refine j_bipush hc (v := nI 60) dL_law_1354 (by decide) ?_
    refine j_goto hc 1360 dL_law_1356 (by decide) ?_
    refine j_iremE hc (by decide) (z := nI (y % 60)) (pk_rem (by omega) (by omega) (by omega)) dL_law_1360 ?_
    refine j_iaddE hc (z := nI (1 + (y % 60))) (nI_add _ _) dL_law_1361 ?_
    refine j_lv [(0, .ref bb), (1, .ref (ad 0)), (2, .ref (ad 15)), (3, .ref (ad 16)), (4, .ref (ad 17)), (5, .ref (ad 18)), (6, .ref (ad 19)), (7, .ref (ad 20)), (8, .ref (ad 21)), (9, .ref (ad 22)), (10, .ref (ad 23)), (11, .int (nI 1)), (12, .int (nI t)), (15, .int (nI y))] ⟨rfl, rfl, rfl, rfl, rfl, rfl, rfl, rfl, rfl, rfl, rfl, rfl, rfl, rfl, trivial⟩ ?_
    exact k1362 (1 + (y % 60)) (by omega) (by omega)
