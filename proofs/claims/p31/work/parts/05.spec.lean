section R5
variable {p : Program} {l : Launch} {e : Env} {R : Room} {s : State} {m : MethodId} {args : Array Value} {below : List Frame} {meth : Method} {c : Code} {D : va_G} {cs : Nat → ClassId} {sa : Nat → Nat} {A : Nat → Prop} {cc : ByteArray} {nL : Nat} {own : String} {ret : Option FieldType} {cells slots : Nat} {Q : State → Prop} {w : va_W} {pc : Nat} {lv : List (Nat × Value)} {st : List Value}
theorem j_inc (hc : CX p l e R s m args below meth c D cs sa A cc nL own ret) {i : Nat} {n : Int} {x z : Int32} (hdg : decode cc pc = .ok (.iinc i n, 3)) (hg : lgt lv i = some (.int x)) (hz : Int32.ofInt n = z) (hn : Nat.blt i nL = true) (k : J p l e R s m args below meth c D A nL cells slots Q w (pc + 3) (lst lv i (.int (x + z))) st) : J p l e R s m args below meth c D A nL cells slots Q w pc lv st := j_iinc hc hdg hg (by rw [hz]) hn k
theorem j_ldcw (hc : CX p l e R s m args below meth c D cs sa A cc nL own ret) {index : Nat} {v : Int32} (hm : Cond.constant own index v ∈ WT) (hdg : decode cc pc = .ok (.ldc_w index, 3)) (k : J p l e R s m args below meth c D A nL cells slots Q w (pc + 3) lv (.int v :: st)) : J p l e R s m args below meth c D A nL cells slots Q w pc lv st := fun H locs ls hP hD hS hl => lv_ldcw hc.1.1 hc.1.2.1 hc.1.2.2.2.1 (hc.1.2.2.2.2 _ hm) hdg (k H locs ls hP hD hS hl)
def exN : List String := ["java/lang/RuntimeException", "java/lang/Exception"]
def exB : List Cond := nwD.map (fun x => .declares x) ++ nwC.map (fun x => .castable x x)
theorem j_throwS (hc : CX p l e R s m args below meth c D cs sa A cc nL RX4 ret) {mc0 ms0 : Nat} {w0 : va_W} {r0 : Rs} (ho : ∀ x ∈ c.exceptionTable.toList, False) {cls tx : String} {ik is ic : Nat} (hfit : Bundle.fit cls = true) (hs : (is, tx) ∈ strs) (hk : Cond.classLink RX4 ik cls ∈ WT) (hini : Cond.initialized cls ∈ WT)
    (hg : ∀ w ∈ (vx_atS RX4 ic cls exN).filter goodWord, w ∈ WT) (hb : ∀ w ∈ (vx_atS RX4 ic cls exN).filter (fun w => !goodWord w), w ∈ exB) (hot : ∀ w ∈ Cond.classLink RX4 ik cls :: Cond.initialized cls :: vx_atS RX4 ic cls exN, vx_ot w = true)
    (d0 : decode cc pc = .ok (.new ik, 3)) (d3 : decode cc (pc + 3) = .ok (.dup, 1)) (d4 : decode cc (pc + 4) = .ok (.ldc is, 2)) (d6 : decode cc (pc + 6) = .ok (.invokespecial ic, 3)) (d9 : decode cc (pc + 9) = .ok (.athrow, 1))
    (hf : 5 < R.frames) (hlo : (st.map fun v => v.category).sum + 82 ≤ R.locals) (hrc : cells + 1 ≤ R.cells) (hrs : slots + 6 ≤ R.slots) (h1 : cells + 1 ≤ mc0) (h2 : slots + 6 ≤ ms0) (hr : r0.1 = some cls ∧ w = w0) : J p l e R s m args below meth c D A nL cells slots (QE below args s D A mc0 ms0 w0 r0) w pc lv st := fun H locs ls hP hD hS hl => by
  obtain ⟨hr, rfl⟩ := hr
  obtain ⟨z1, z2, z3, z4, z5, z6⟩ := hc.2.2.2.2.2.1
  have hB : ∀ w ∈ exB, w.before args s = true := fun w hw => by
    rcases List.mem_append.mp hw with h | h
    · obtain ⟨x, hx, rfl⟩ := List.mem_map.mp h
      exact va_Nw.use rfl (z3 x hx)
    · obtain ⟨x, hx, rfl⟩ := List.mem_map.mp h
      exact va_Nw.use rfl (z4 x hx)
  refine vx_throwS (names := exN) hc.1.1 hc.1.2.1 hc.2.2.2.2.2.2 hc.1.2.2.2.1 hfit (by decide) (hc.1.2.2.2.2 _ hk) (hc.1.2.2.2.2 _ hini) (z5 _ hs) (vx_hat (fun w h => hc.1.2.2.2.2 _ (hg w h)) hb hB) hot z1 z2 hS (hl.1.trans hc.1.2.2.1.symm) d0 d3 d4 d6 d9 (fun x hx => (ho x hx).elim) hf hlo hrc hrs hc.2.2.1 (fun t ht hz hk2 => ?_) hS.2.2 h1 h2
  have hP2 : va_P D vwCl w t.heap := hP.kept fun k q hq => hk2 _ (vx_lt hP hq)
  exact ⟨⟨hr, hP2, hD⟩, Nat.le_trans hS.1 hz, fun q h1 h2 => (hk2 q (Nat.lt_of_lt_of_le h1 hS.1)).trans (hS.2.1 q h1 h2)⟩
theorem xg_62 : ∀ w ∈ (vx_atS RX4 62 xIO exN).filter goodWord, w ∈ WT := by decide +kernel
theorem xb_62 : ∀ w ∈ (vx_atS RX4 62 xIO exN).filter (fun w => !goodWord w), w ∈ exB := by decide +kernel
theorem xo_62 : ∀ w ∈ Cond.classLink RX4 58 xIO :: Cond.initialized xIO :: vx_atS RX4 62 xIO exN, vx_ot w = true := by decide +kernel
theorem j_thr_62 (hc : CX p l e R s m args below meth c D cs sa A cc nL RX4 ret) {mc0 ms0 : Nat} {w0 : va_W} {r0 : Rs} (ho : ∀ x ∈ c.exceptionTable.toList, False) (is : Nat) {tx : String} (hs : (is, tx) ∈ strs) (d0 : decode cc pc = .ok (.new 58, 3)) (d3 : decode cc (pc + 3) = .ok (.dup, 1)) (d4 : decode cc (pc + 4) = .ok (.ldc is, 2)) (d6 : decode cc (pc + 6) = .ok (.invokespecial 62, 3)) (d9 : decode cc (pc + 9) = .ok (.athrow, 1))
    (hf : 5 < R.frames) (hlo : (st.map fun v => v.category).sum + 82 ≤ R.locals) (hrc : cells + 1 ≤ R.cells) (hrs : slots + 6 ≤ R.slots) (h1 : cells + 1 ≤ mc0) (h2 : slots + 6 ≤ ms0) (hr : r0.1 = some xIO ∧ w = w0) : J p l e R s m args below meth c D A nL cells slots (QE below args s D A mc0 ms0 w0 r0) w pc lv st :=
  j_throwS hc ho (by decide) hs wt_204 wt_10 xg_62 xb_62 xo_62 d0 d3 d4 d6 d9 hf hlo hrc hrs h1 h2 hr
theorem xg_73 : ∀ w ∈ (vx_atS RX4 73 xIS exN).filter goodWord, w ∈ WT := by decide +kernel
theorem xb_73 : ∀ w ∈ (vx_atS RX4 73 xIS exN).filter (fun w => !goodWord w), w ∈ exB := by decide +kernel
theorem xo_73 : ∀ w ∈ Cond.classLink RX4 69 xIS :: Cond.initialized xIS :: vx_atS RX4 73 xIS exN, vx_ot w = true := by decide +kernel
theorem j_thr_73 (hc : CX p l e R s m args below meth c D cs sa A cc nL RX4 ret) {mc0 ms0 : Nat} {w0 : va_W} {r0 : Rs} (ho : ∀ x ∈ c.exceptionTable.toList, False) (is : Nat) {tx : String} (hs : (is, tx) ∈ strs) (d0 : decode cc pc = .ok (.new 69, 3)) (d3 : decode cc (pc + 3) = .ok (.dup, 1)) (d4 : decode cc (pc + 4) = .ok (.ldc is, 2)) (d6 : decode cc (pc + 6) = .ok (.invokespecial 73, 3)) (d9 : decode cc (pc + 9) = .ok (.athrow, 1))
    (hf : 5 < R.frames) (hlo : (st.map fun v => v.category).sum + 82 ≤ R.locals) (hrc : cells + 1 ≤ R.cells) (hrs : slots + 6 ≤ R.slots) (h1 : cells + 1 ≤ mc0) (h2 : slots + 6 ≤ ms0) (hr : r0.1 = some xIS ∧ w = w0) : J p l e R s m args below meth c D A nL cells slots (QE below args s D A mc0 ms0 w0 r0) w pc lv st :=
  j_throwS hc ho (by decide) hs wt_232 wt_11 xg_73 xb_73 xo_73 d0 d3 d4 d6 d9 hf hlo hrc hrs h1 h2 hr
theorem xg_224 : ∀ w ∈ (vx_atS RX4 224 xIA exN).filter goodWord, w ∈ WT := by decide +kernel
theorem xb_224 : ∀ w ∈ (vx_atS RX4 224 xIA exN).filter (fun w => !goodWord w), w ∈ exB := by decide +kernel
theorem xo_224 : ∀ w ∈ Cond.classLink RX4 220 xIA :: Cond.initialized xIA :: vx_atS RX4 224 xIA exN, vx_ot w = true := by decide +kernel
theorem j_thr_224 (hc : CX p l e R s m args below meth c D cs sa A cc nL RX4 ret) {mc0 ms0 : Nat} {w0 : va_W} {r0 : Rs} (ho : ∀ x ∈ c.exceptionTable.toList, False) (is : Nat) {tx : String} (hs : (is, tx) ∈ strs) (d0 : decode cc pc = .ok (.new 220, 3)) (d3 : decode cc (pc + 3) = .ok (.dup, 1)) (d4 : decode cc (pc + 4) = .ok (.ldc is, 2)) (d6 : decode cc (pc + 6) = .ok (.invokespecial 224, 3)) (d9 : decode cc (pc + 9) = .ok (.athrow, 1))
    (hf : 5 < R.frames) (hlo : (st.map fun v => v.category).sum + 82 ≤ R.locals) (hrc : cells + 1 ≤ R.cells) (hrs : slots + 6 ≤ R.slots) (h1 : cells + 1 ≤ mc0) (h2 : slots + 6 ≤ ms0) (hr : r0.1 = some xIA ∧ w = w0) : J p l e R s m args below meth c D A nL cells slots (QE below args s D A mc0 ms0 w0 r0) w pc lv st :=
  j_throwS hc ho (by decide) hs wt_121 wt_8 xg_224 xb_224 xo_224 d0 d3 d4 d6 d9 hf hlo hrc hrs h1 h2 hr
theorem j_min_X4_191 (hc : CX p l e R s m args below meth c D cs sa A cc nL RX4 ret) {x y : Int32} (hfr : 1 ≤ R.frames) (hlo : (st.map fun v => v.category).sum + 13 ≤ R.locals) (hrc : cells ≤ R.cells) (hrs : slots ≤ R.slots) (hdg : decode cc pc = .ok (.invokestatic 191, 3)) (k : J p l e R s m args below meth c D A nL cells slots Q w (pc + 3) lv (.int (if y < x then y else x) :: st)) : J p l e R s m args below meth c D A nL cells slots Q w pc lv (.int y :: .int x :: st) := fun H locs ls hP hD hS hl => va_mmin hc.1.1 hc.1.2.1 (hc.1.2.2.1.trans hl.1.symm) hc.1.2.2.2.1 (hc.1.2.2.2.2 _ wt_455) (hc.1.2.2.2.2 _ wt_456) (hc.1.2.2.2.2 _ wt_9) (hc.1.2.2.2.2 _ wt_457) hfr hlo hrc hrs hdg (k H locs ls hP hD hS hl)
theorem j_min_X2_25 (hc : CX p l e R s m args below meth c D cs sa A cc nL RX2 ret) {x y : Int32} (hfr : 1 ≤ R.frames) (hlo : (st.map fun v => v.category).sum + 13 ≤ R.locals) (hrc : cells ≤ R.cells) (hrs : slots ≤ R.slots) (hdg : decode cc pc = .ok (.invokestatic 25, 3)) (k : J p l e R s m args below meth c D A nL cells slots Q w (pc + 3) lv (.int (if y < x then y else x) :: st)) : J p l e R s m args below meth c D A nL cells slots Q w pc lv (.int y :: .int x :: st) := fun H locs ls hP hD hS hl => va_mmin hc.1.1 hc.1.2.1 (hc.1.2.2.1.trans hl.1.symm) hc.1.2.2.2.1 (hc.1.2.2.2.2 _ wt_494) (hc.1.2.2.2.2 _ wt_456) (hc.1.2.2.2.2 _ wt_9) (hc.1.2.2.2.2 _ wt_457) hfr hlo hrc hrs hdg (k H locs ls hP hD hS hl)
variable {ad : Nat → Nat} {n : Nat} {E : ES} {S : MS} {o : Nat → Int64}
theorem al_gapsp (hc : CX p l e R s m args below meth c D cs sa A cc nL own ret) {k : Int32} (hin : vp_in k 4) (hdg : decode cc pc = .ok (.aaload, 1)) (kk : J p l e R s m args below meth c D A nL cells slots Q (WD ad cs n E S o) (pc + 1) lv (.ref (ad (4 + 2 * k.toNatClampNeg)) :: st)) : J p l e R s m args below meth c D A nL cells slots Q (WD ad cs n E S o) pc lv (.int k :: .ref (ad 3) :: st) := by
  obtain ⟨j, hj, rfl⟩ := vp_in_of hin (by decide)
  rw [nI_clamp (by omega)] at kk
  exact al_gaps hc hj rfl hdg kk
theorem al_rowp (hc : CX p l e R s m args below meth c D cs sa A cc nL own ret) (hn : n ≤ 30) {k : Int32} (hin : vp_in k 30) (hb : k.toNatClampNeg < n) (hdg : decode cc pc = .ok (.aaload, 1)) (kk : J p l e R s m args below meth c D A nL cells slots Q (WD ad cs n E S o) (pc + 1) lv (.ref (ad (24 + 2 * k.toNatClampNeg)) :: st)) : J p l e R s m args below meth c D A nL cells slots Q (WD ad cs n E S o) pc lv (.int k :: .ref (ad 12) :: st) := by
  obtain ⟨j, hj, rfl⟩ := vp_in_of hin (by decide)
  rw [nI_clamp (by omega)] at kk hb
  exact al_row hc hb hn rfl hdg kk
theorem al_rowNp (hc : CX p l e R s m args below meth c D cs sa A cc nL own ret) {k : Int32} (hin : vp_in k 30) (hb : ¬ k.toNatClampNeg < n) (hdg : decode cc pc = .ok (.aaload, 1)) (kk : J p l e R s m args below meth c D A nL cells slots Q (WD ad cs n E S o) (pc + 1) lv (.null :: st)) : J p l e R s m args below meth c D A nL cells slots Q (WD ad cs n E S o) pc lv (.int k :: .ref (ad 12) :: st) := by
  obtain ⟨j, hj, rfl⟩ := vp_in_of hin (by decide)
  rw [nI_clamp (by omega)] at hb
  exact al_rowN hc hb hj rfl hdg kk
end R5
theorem vpi {k N : Int32} {n : Nat} (h0 : ¬ k < 0) (h1 : ¬ N ≤ k) (hN : N.toInt = n) : vp_in k n := by
  rw [vp_in_iff]
  rw [Int32.lt_iff_toInt_lt] at h0
  rw [Int32.le_iff_toInt_le] at h1
  have : (0 : Int32).toInt = 0 := by decide
  omega
theorem i32_le (a b : Int32) : a ≤ b ↔ a.toInt ≤ b.toInt := Int32.le_iff_toInt_le
theorem i32_lt (a b : Int32) : a < b ↔ a.toInt < b.toInt := Int32.lt_iff_toInt_lt
theorem i32_b (a : Int32) : -2147483648 ≤ a.toInt ∧ a.toInt < 2147483648 := ⟨by have := Int32.le_toInt a; simpa using this, by have := Int32.toInt_lt a; simpa using this⟩
theorem i32_sub {a b : Int32} (h1 : -2147483648 ≤ a.toInt - b.toInt) (h2 : a.toInt - b.toInt < 2147483648) : (a - b).toInt = a.toInt - b.toInt := by
  rw [Int32.toInt_sub]; exact Int.bmod_eq_of_le (by simpa using h1) (by simpa using h2)
theorem i32_add {a b : Int32} (h1 : -2147483648 ≤ a.toInt + b.toInt) (h2 : a.toInt + b.toInt < 2147483648) : (a + b).toInt = a.toInt + b.toInt := by
  rw [Int32.toInt_add]; exact Int.bmod_eq_of_le (by simpa using h1) (by simpa using h2)
theorem i32_inc {a : Int32} (h : a.toInt < 2147483647) : (a + 1).toInt = a.toInt + 1 := by
  have e1 : (1 : Int32).toInt = 1 := by decide
  have := i32_b a
  rw [i32_add (by omega) (by omega), e1]
/-- Math.floorMod -/
def fmod (x y : Int32) : Int32 := if 0 ≤ x ^^^ y then x - x / y * y else if x - x / y * y = 0 then x - x / y * y else x - x / y * y + y
/-- thrown, answered, the state behind it -/
abbrev ER : Type := Option String × Int32 × ES
def ck (t : Option String) (E : ES) (k : ER) : ER := match t with
  | some x => (some x, 0, E)
  | none => k
theorem ck_none {t : Option String} {E : ES} {k : ER} (h : t = none) : ck t E k = k := by rw [h]; rfl
theorem ck_some {t : Option String} {E : ES} {k : ER} {x : String} (h : t = some x) : ck t E k = (some x, 0, E) := by rw [h]; rfl
def e_rng (p a b : Int32) : Option String := if p < a then some xIA else if p ≤ b then none else some xIA
def e_acc (p : Int32) : Option String := if p < 0 then some xIO else if p < 8 then none else some xIO
def e_rsn (p : Int32) : Option String := if p < 1 then some xIO else if p ≤ 4 then none else some xIO
def e_fb (n : Nat) (p : Int32) : Option String := if p < 0 then some xIO else if 30 ≤ p then some xIO else if p.toNatClampNeg < n then none else some xIO
def e_hol (E : ES) (d : Int32) : Int32 := if d >>> ((6 : Int32) &&& 31) < 0 then 0 else if 485 ≤ d >>> ((6 : Int32) &&& 31) then 0 else if lg_cmp (((E.2.2 (d >>> ((6 : Int32) &&& 31)).toNatClampNeg).toUInt64 >>> ((d &&& 63).toInt64.toUInt64 &&& Int64.toUInt64 63)).toInt64 &&& 1) 1 = 0 then 1 else 0
def e_khol (E : ES) (d : Int32) : ES := if d >>> ((6 : Int32) &&& 31) < 0 then E else if 485 ≤ d >>> ((6 : Int32) &&& 31) then E else eH E (d >>> ((6 : Int32) &&& 31)).toNatClampNeg (E.2.2 (d >>> ((6 : Int32) &&& 31)).toNatClampNeg ||| ((1 : Int64) <<< ((d &&& 63).toInt64 &&& 63)))
def e_chg (E : ES) (d : Int32) : Int32 := if E.1 12 &&& ((1 : Int32) <<< (fmod d 7 &&& 31)) = 0 then 0 else if e_hol E d = 0 then 1 else 0
def e_fcf (E : ES) : Nat → Int32 → Int32
  | 0, d => d
  | k + 1, d => if e_chg E d = 0 then e_fcf E k (d + 1) else d
def e_ww (E : ES) (k : Int32) (f : Int32) : Int32 := if f = 0 then E.1 12 &&& (((1 : Int32) <<< (k &&& 31)) ^^^ (-1)) else E.1 12 ||| ((1 : Int32) <<< (k &&& 31))
def e_add (E : ES) (d b s : Int32) : ES := eG (eV E 30 (fmod (E.1 13) 400).toNatClampNeg (1000 * d + 10 * b + s)) 13 (E.1 13 + 1)
def e_told (E : ES) : Int32 := if 400 < E.1 13 then 400 else E.1 13
def e_cda (E : ES) (k : Int32) : Int32 := E.2.1 30 (fmod (E.1 13 - 1 - k) 400).toNatClampNeg
/-- the search through the told events, k of them left, the next one at the place i -/
def e_lso (E : ES) (b d : Int32) : Nat → Int32 → Int32
  | 0, _ => -1
  | k + 1, i => if (e_cda E i - e_cda E i / 1000 * 1000) / 10 = b then (if d < e_cda E i / 1000 then e_lso E b d k (i + 1) else e_cda E i - e_cda E i / 10 * 10) else e_lso E b d k (i + 1)
def e_app (E : ES) (i : Nat) (v : Int32) : ES := if E.1 (14 + i) < 0 then E else if 6 ≤ E.1 (14 + i) then E else eG (eV E (20 + i) (E.1 (14 + i)).toNatClampNeg v) (14 + i) (E.1 (14 + i) + 1)
def e_db (E : ES) (i : Nat) (k : Int32) : Int32 := if k < 1 then 0 else if E.1 (14 + i) < k then 0 else if 6 < k then 0 else E.2.1 (20 + i) (k - 1).toNatClampNeg
def e_enter (E : ES) (b : Nat) (s wd : Int32) : ES := e_add (eV (eV E 4 b s) 5 b wd) (E.1 5) (E.2.1 0 b) s
def e_take (E : ES) (b : Nat) (v : Int32) : ES :=
  let E1 := eV E 3 b (E.2.1 3 b - v)
  let E2 := eG E1 9 (E1.1 9 + v)
  let E3 := if E2.2.1 4 b = 5 then eG E2 11 (E2.1 11 + v) else E2
  if E3.2.1 3 b = 0 then e_enter E3 b 6 (-1) else E3
def e_fail (E : ES) (b : Nat) (r : Int32) : ES :=
  let i := (r - 1).toNatClampNeg
  let E1 := eV E (40 + b) i (E.2.1 (40 + b) i + 1)
  let g := e_db E1 i (E1.2.1 (40 + b) i)
  if g = 0 then e_enter E1 b 2 (E1.1 5 + E1.1 6) else e_enter E1 b 0 (e_fcf E1 1000 (E1.1 5 + g))
def e_bp (E : ES) (b : Nat) : ES :=
  let E1 := eV E 8 b (E.2.1 8 b + 1)
  if E1.2.1 9 b = 0 then e_enter E1 b 0 (e_fcf E1 1000 (E1.1 5 + 1)) else e_enter E1 b (E1.2.1 9 b) (E1.1 5 + E1.2.1 10 b)
def e_bt (E : ES) (b : Nat) : Int32 × ES := if e_chg E (E.1 5) = 0 then (0, eV E 5 b (e_fcf E 1000 (E.1 5 + 1))) else (1, e_enter (eV E 6 b (E.2.1 6 b + 1)) b 1 (-1))
def e_look (E : ES) (b : Nat) : Int32 × ES :=
  if E.2.1 4 b = 0 then (if E.1 5 < E.2.1 5 b then (0, E) else e_bt E b)
  else if E.2.1 5 b = E.1 5 then (if E.2.1 4 b = 2 then (0, e_enter E b 3 (E.1 5 + E.1 7)) else if E.2.1 4 b = 3 then (0, e_enter (eG E 10 (E.1 10 + E.2.1 3 b)) b 5 (-1)) else if E.2.1 4 b = 4 then (0, e_bp E b) else (0, E))
  else (0, E)
def e_fut (n : Nat) : Nat → Nat → ES → ES
  | 0, _, E => E
  | k + 1, i, E => e_fut n k (i + 1) (if i < n then (if E.2.1 4 i = 1 then e_fail E i 4 else E) else E)
def e_lab (n : Nat) : Nat → Nat → Int32 → ES → Int32 × ES
  | 0, _, c, E => (c, E)
  | k + 1, i, c, E => if i < n then e_lab n k (i + 1) (if (e_look E i).1 = 0 then c else c + 1) (e_look E i).2 else e_lab n k (i + 1) c E
def e_sw (E : ES) (b : Nat) : Int32 := if E.2.1 4 b = 3 then 0 else if E.2.1 4 b = 5 then 0 else if E.2.1 4 b = 4 then (if E.2.1 4 b = 2 then 1 else if E.2.1 9 b = 0 then 2 else 1) else if E.2.1 4 b = 2 then 1 else 2
