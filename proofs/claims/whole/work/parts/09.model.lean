/-- answered, the state behind it -/
abbrev MR : Type := Int32 × MS
def m_in (k x y : Int32) : Int32 := if k < x then 0 else if y < k then 0 else 1
def m_hl (S : MS) (d : Int32) : Nat → Nat → Int32 → Int32
  | 0, _, c => c
  | j + 1, i, c => m_hl S d j (i + 1) (if c = 0 then (if S.2 2 (nI i).toNatClampNeg = d then 1 else 0) else 1)
def m_hol (S : MS) (d : Int32) : Int32 := m_hl S d (S.1 3).toNatClampNeg 0 0
def m_chg (S : MS) (d : Int32) : Int32 := if S.2 1 (d - d / 7 * 7).toNatClampNeg = 0 then 0 else if m_hol S d = 0 then 1 else 0
def m_cf (S : MS) : Nat → Int32 → Int32
  | 0, d => d
  | k + 1, d => if m_chg S d = 0 then m_cf S k (d + 1) else d
def m_ok (S : MS) : Nat → Int32 → Prop
  | 0, _ => False
  | k + 1, d => ¬ m_chg S d = 0 ∨ m_ok S k (d + 1)
def m_many (S : MS) (k f : Int32) : Nat → Nat → Int32 → Int32
  | 0, _, c => c
  | j + 1, i, c => m_many S k f j (i + 1) (c + (if nI i = k then (if f = 0 then 0 else 1) else if S.2 1 (nI i).toNatClampNeg = 0 then 0 else 1))
def m_setWeekday (S : MS) (k f : Int32) : MR := if m_in k 0 6 = 0 then (0, mG S 25 1) else if m_many (mG S 25 0) k f 7 0 0 = 0 then (0, mG (mG S 25 0) 25 2) else (m_many (mG S 25 0) k f 7 0 0, mA (mG (mG S 25 0) 25 0) 1 k.toNatClampNeg (vp_nar .boolean f))
def m_addHoliday (S : MS) (d : Int32) : MR := if m_in d (S.1 0 + 1) (S.1 0 + 60) = 0 then (0, mG S 25 1) else
  if m_hol (mG S 25 0) d = 0 then (1, mG (mA (mG S 25 0) 2 ((mG S 25 0).1 3).toNatClampNeg d) 3 ((mA (mG S 25 0) 2 ((mG S 25 0).1 3).toNatClampNeg d).1 3 + 1)) else (0, mG S 25 0)
def m_addGap (S : MS) (r v : Int32) : MR := if m_in r 1 4 = 0 then (0, mG S 25 1) else if m_in v 1 30 = 0 then (0, mG S 25 2) else if S.2 5 r.toNatClampNeg = 6 then (0, mG S 25 3) else
  let S1 := mA (mG S 25 0) 4 (6 * r + (mG S 25 0).2 5 r.toNatClampNeg).toNatClampNeg v
  let S2 := mA S1 5 r.toNatClampNeg (S1.2 5 r.toNatClampNeg + 1)
  (S2.2 5 r.toNatClampNeg, S2)
def m_clearGaps (S : MS) (r : Int32) : MR := if m_in r 1 4 = 0 then (0, mG S 25 1) else ((mG S 25 0).2 5 r.toNatClampNeg, mA (mG S 25 0) 5 r.toNatClampNeg 0)
def m_setTimes (S : MS) (x y : Int32) : MR := if m_in x 1 60 = 0 then (0, mG S 25 1) else if m_in y 1 90 = 0 then (0, mG S 25 1) else ((mG S 25 0).1 6, mG (mG (mG S 25 0) 6 x) 7 y)
def m_enter (S : MS) (b s : Int32) : MS :=
  let S1 := mA S 12 b.toNatClampNeg s
  let S2 := mA S1 23 (S1.1 24 - S1.1 24 / 400 * 400).toNatClampNeg (1000 * S1.1 0 + 10 * b + s)
  mG S2 24 (S2.1 24 + 1)
def m_bill (S : MS) (x v : Int32) : MR := if m_in x 0 7 = 0 then (0, mG S 25 1) else if m_in v 1 9999 = 0 then (0, mG S 25 2) else if S.1 8 = 30 then (0, mG S 25 3) else
  let S0 := mG S 25 0
  let b := S0.1 8
  let S1 := mG S0 8 (S0.1 8 + 1)
  let S2 := mA S1 9 b.toNatClampNeg x
  let S3 := mA S2 10 b.toNatClampNeg v
  let S4 := mA S3 11 b.toNatClampNeg v
  let S5 := mA S4 13 b.toNatClampNeg (m_cf S4 1000 (S4.1 0 + 1))
  (b, m_enter S5 b 0)
def m_fail (S : MS) (b r : Int32) : MS :=
  let S1 := mA S 15 (5 * b + r).toNatClampNeg (S.2 15 (5 * b + r).toNatClampNeg + 1)
  let k := S1.2 15 (5 * b + r).toNatClampNeg
  if S1.2 5 r.toNatClampNeg < k then m_enter (mA S1 13 b.toNatClampNeg (S1.1 0 + S1.1 6)) b 2
  else m_enter (mA S1 13 b.toNatClampNeg (m_cf S1 1000 (S1.1 0 + S1.2 4 (6 * r + k - 1).toNatClampNeg))) b 0
def m_recv (S : MS) (b v : Int32) : MS :=
  let S1 := mA S 11 b.toNatClampNeg (S.2 11 b.toNatClampNeg - v)
  let S2 := mG S1 20 (S1.1 20 + v)
  if S2.2 11 b.toNatClampNeg = 0 then m_enter S2 b 6 else S2
def m_isBill (S : MS) (p : Int32) : MR := if m_in p 0 (S.1 8 - 1) = 0 then (0, mG S 25 1) else (1, mG S 25 0)
def m_outcome (S : MS) (p x : Int32) : MR :=
  let q := m_isBill S p
  if q.1 = 0 then (0, q.2) else if m_in x 0 4 = 0 then (0, mG q.2 25 2) else if q.2.2 12 p.toNatClampNeg = 1 then
    (if x = 0 then
      let S3 := m_recv (mG q.2 25 0) p ((mG q.2 25 0).2 11 p.toNatClampNeg)
      (S3.2 12 p.toNatClampNeg, S3)
    else
      let S3 := m_fail (mG q.2 25 0) p x
      (S3.2 12 p.toNatClampNeg, S3))
  else (0, mG q.2 25 3)
def m_pay (S : MS) (p v : Int32) : MR :=
  let q := m_isBill S p
  if q.1 = 0 then (0, q.2) else if m_in v 1 9999 = 0 then (0, mG q.2 25 2) else if q.2.2 12 p.toNatClampNeg = 1 then (0, mG q.2 25 3) else if q.2.2 12 p.toNatClampNeg = 6 then (0, mG q.2 25 3) else if v ≤ q.2.2 11 p.toNatClampNeg then
    let S2 := mG q.2 25 0
    let S3 := mG S2 22 (S2.1 22 + (if S2.2 12 p.toNatClampNeg = 5 then v else 0))
    let S4 := m_recv S3 p v
    (S4.2 11 p.toNatClampNeg, S4)
  else (0, mG q.2 25 3)
def m_prom1 (S : MS) (p v : Int32) : MR :=
  let S1 := mA S 16 p.toNatClampNeg (S.2 16 p.toNatClampNeg + 1)
  let S2 := mA S1 18 p.toNatClampNeg (S1.2 12 p.toNatClampNeg)
  let S3 := mA S2 19 p.toNatClampNeg (S2.2 13 p.toNatClampNeg - S2.1 0)
  let S4 := mA S3 13 p.toNatClampNeg (S3.1 0 + v)
  let S5 := m_enter S4 p 4
  (S5.2 13 p.toNatClampNeg, S5)
def m_prom0 (S : MS) (p v : Int32) : MR := if m_in v 1 30 = 0 then (0, mG S 25 2) else if S.2 16 p.toNatClampNeg = 2 then (0, mG S 25 3) else m_prom1 (mG S 25 0) p v
def m_promise (S : MS) (p v : Int32) : MR :=
  let q := m_isBill S p
  if q.1 = 0 then (0, q.2) else if q.2.2 12 p.toNatClampNeg = 0 then m_prom0 q.2 p v else if q.2.2 12 p.toNatClampNeg = 2 then m_prom0 q.2 p v else if q.2.2 12 p.toNatClampNeg = 3 then m_prom0 q.2 p v else if m_in v 1 30 = 0 then (0, mG q.2 25 2) else (0, mG q.2 25 3)
def m_bp (S : MS) (b : Int32) : MS :=
  let S1 := mA S 17 b.toNatClampNeg (S.2 17 b.toNatClampNeg + 1)
  let S2 := mA S1 13 b.toNatClampNeg (if S1.2 18 b.toNatClampNeg = 0 then m_cf S1 1000 (S1.1 0 + 1) else S1.1 0 + S1.2 19 b.toNatClampNeg)
  m_enter S2 b (S2.2 18 b.toNatClampNeg)
def m_l3 (S : MS) (b : Int32) : MR := if S.2 12 b.toNatClampNeg = 4 then (if S.2 13 b.toNatClampNeg = S.1 0 then (0, m_bp S b) else (0, S)) else (0, S)
def m_l2 (S : MS) (b : Int32) : MR := if S.2 12 b.toNatClampNeg = 3 then (if S.2 13 b.toNatClampNeg = S.1 0 then (0, m_enter (mG S 21 (S.1 21 + S.2 11 b.toNatClampNeg)) b 5) else m_l3 S b) else m_l3 S b
def m_l1 (S : MS) (b : Int32) : MR := if S.2 12 b.toNatClampNeg = 2 then (if S.2 13 b.toNatClampNeg = S.1 0 then (0, m_enter (mA S 13 b.toNatClampNeg (S.1 0 + S.1 7)) b 3) else m_l2 S b) else m_l2 S b
def m_look (S : MS) (b : Int32) : MR := if S.2 12 b.toNatClampNeg = 0 then (if S.1 0 < S.2 13 b.toNatClampNeg then m_l1 S b else if m_chg S (S.1 0) = 0 then (0, mA S 13 b.toNatClampNeg (m_cf S 1000 (S.1 0 + 1))) else (1, m_enter (mA S 14 b.toNatClampNeg (S.2 14 b.toNatClampNeg + 1)) b 1)) else m_l1 S b
def m_fut : Nat → Nat → MS → MS
  | 0, _, S => S
  | k + 1, i, S => m_fut k (i + 1) (if S.2 12 (nI i).toNatClampNeg = 1 then m_fail S (nI i) 4 else S)
def m_lab : Nat → Nat → Int32 → MS → MR
  | 0, _, c, S => (c, S)
  | k + 1, i, c, S => m_lab k (i + 1) (c + (if (m_look S (nI i)).1 = 0 then 0 else 1)) (m_look S (nI i)).2
def m_day (n : Nat) (S : MS) : MR := m_lab n 0 0 (mG (m_fut n 0 S) 0 ((m_fut n 0 S).1 0 + 1))
def m_days (n : Nat) : Nat → Int32 → MS → MR
  | 0, c, S => (c, S)
  | k + 1, c, S => m_days n k (c + (m_day n S).1) (m_day n S).2
def m_pass (n : Nat) (S : MS) (p : Int32) : MR := if m_in p 1 60 = 0 then (0, mG S 25 1) else m_days n p.toNatClampNeg 0 (mG S 25 0)
def m_isCharging (S : MS) (d : Int32) : MR := if m_in d 0 1000000 = 0 then (0, mG S 25 1) else (m_chg (mG S 25 0) d, mG S 25 0)
def m_bf (S : MS) (k : Nat) (p : Int32) : MR :=
  let q := m_isBill S p
  if q.1 = 0 then (0, q.2) else (q.2.2 k p.toNatClampNeg, q.2)
def m_failures (S : MS) (p r : Int32) : MR := if m_in p 0 (S.1 8 - 1) = 0 then (0, mG S 25 1) else if m_in r 1 4 = 0 then (0, mG S 25 1) else ((mG S 25 0).2 15 (5 * p + r).toNatClampNeg, mG S 25 0)
def m_waitsFor (S : MS) (p : Int32) : MR :=
  let q := m_isBill S p
  if q.1 = 0 then (0, q.2) else if q.2.2 12 p.toNatClampNeg = 1 then (-1, q.2) else if q.2.2 12 p.toNatClampNeg = 5 then (-1, q.2) else if q.2.2 12 p.toNatClampNeg = 6 then (-1, q.2) else (q.2.2 13 p.toNatClampNeg, q.2)
def m_sw (S : MS) (b : Int32) : Int32 := if S.2 12 b.toNatClampNeg = 3 then 0 else if S.2 12 b.toNatClampNeg = 5 then 0 else if S.2 12 b.toNatClampNeg = 2 then 1 else if S.2 12 b.toNatClampNeg = 4 then (if S.2 18 b.toNatClampNeg = 0 then 2 else 1) else 2
def m_svc (S : MS) (x : Int32) : Nat → Nat → Int32 → Int32
  | 0, _, c => c
  | k + 1, i, c => m_svc S x k (i + 1) (if S.2 9 (nI i).toNatClampNeg = x then (if c ≤ m_sw S (nI i) then c else m_sw S (nI i)) else c)
def m_service (n : Nat) (S : MS) (x : Int32) : MR := if m_in x 0 7 = 0 then (0, mG S 25 1) else (m_svc (mG S 25 0) x n 0 2, mG S 25 0)
def m_bl (S : MS) : Nat → Nat → Int32 → Int32
  | 0, _, c => c
  | k + 1, i, c => m_bl S k (i + 1) (c + S.2 10 (nI i).toNatClampNeg)
def m_lin (S : MS) (x y : Int32) : Nat → Nat → Int32 → Int32
  | 0, _, c => c
  | k + 1, i, c => m_lin S x y k (i + 1) (c + (if S.2 9 (nI i).toNatClampNeg = x then (if S.2 12 (nI i).toNatClampNeg = y then S.2 11 (nI i).toNatClampNeg else 0) else 0))
def m_leftIn (n : Nat) (S : MS) (x y : Int32) : MR := if m_in x 0 7 = 0 then (0, mG S 25 1) else if m_in y 0 6 = 0 then (0, mG S 25 2) else (m_lin (mG S 25 0) x y n 0 0, mG S 25 0)
def m_tld (S : MS) (k : Int32) : Int32 := S.2 23 (S.1 24 - 1 - k - (S.1 24 - 1 - k) / 400 * 400).toNatClampNeg
def m_event (S : MS) (k : Int32) : MR := if m_in k 0 399 = 0 then (0, mG S 25 1) else if S.1 24 ≤ k then (0, mG S 25 1) else (m_tld (mG S 25 0) k, mG S 25 0)
def m_lso (S : MS) (p d : Int32) : Nat → Nat → Int32
  | 0, _ => -1
  | k + 1, i => if S.1 24 ≤ nI i then -1 else if d < m_tld S (nI i) / 1000 then m_lso S p d k (i + 1) else if (m_tld S (nI i) - m_tld S (nI i) / 1000 * 1000) / 10 = p then m_tld S (nI i) - m_tld S (nI i) / 10 * 10 else m_lso S p d k (i + 1)
def m_stateAt (S : MS) (p d : Int32) : MR :=
  let q := m_isBill S p
  if q.1 = 0 then (0, q.2) else if m_in d 0 (q.2.1 0) = 0 then (0, mG q.2 25 2) else (m_lso (mG q.2 25 0) p d 400 0, mG q.2 25 0)
/-- what holds of the reference between its calls: h holidays, n bills, days up to Y, events up to T -/
def MI (h n : Nat) (Y T : Int) (S : MS) : Prop :=
  (S.1 3 = nI h ∧ h ≤ 1024) ∧ (S.1 8 = nI n ∧ n ≤ 30) ∧ (0 ≤ (S.1 0).toInt ∧ (S.1 0).toInt ≤ Y ∧ Y ≤ 100000) ∧ (0 ≤ (S.1 24).toInt ∧ (S.1 24).toInt ≤ T ∧ T ≤ 1000000000) ∧ (∃ k, k < 7 ∧ ¬ S.2 1 k = 0) ∧ (∀ j, j < h → (S.2 2 j).toInt ≤ (S.1 0).toInt + 60) ∧
  (∀ j, j < 30 → 0 ≤ (S.2 4 j).toInt ∧ (S.2 4 j).toInt ≤ 30) ∧ (∀ r, r < 5 → 0 ≤ (S.2 5 r).toInt ∧ (S.2 5 r).toInt ≤ 6) ∧ ∀ j, j < 150 → 0 ≤ (S.2 15 j).toInt ∧ (S.2 15 j).toInt ≤ T
section MIL
variable {h n : Nat} {Y T : Int} {S : MS}
theorem mi_A (H : MI h n Y T S) (k i : Nat) (v : Int32) (hk : ¬ k = 1 ∧ ¬ k = 2 ∧ ¬ k = 4 ∧ ¬ k = 5 ∧ ¬ k = 15) : MI h n Y T (mA S k i v) := by
  obtain ⟨a1, a2, a4, a5, a15⟩ := hk
  have e : ∀ j, ¬ k = j → (mA S k i v).2 j = S.2 j := fun j hj => va_up_ne _ _ (fun z => hj z.symm)
  unfold MI
  rw [e 1 a1, e 2 a2, e 4 a4, e 5 a5, e 15 a15]
  exact H
theorem mi_G (H : MI h n Y T S) (k : Nat) (v : Int32) (hk : ¬ k = 0 ∧ ¬ k = 3 ∧ ¬ k = 8 ∧ ¬ k = 24) : MI h n Y T (mG S k v) := by
  obtain ⟨a0, a3, a8, a24⟩ := hk
  have e : ∀ j, ¬ k = j → (mG S k v).1 j = S.1 j := fun j hj => if_neg (fun z => hj z.symm)
  unfold MI
  rw [e 0 a0, e 3 a3, e 8 a8, e 24 a24]
  exact H
theorem mi_mono {T2 : Int} (H : MI h n Y T S) (h1 : T ≤ T2) (h2 : T2 ≤ 1000000000) : MI h n Y T2 S := by
  obtain ⟨q1, q2, q3, ⟨q4, q5, q6⟩, q7, q8, q9, q10, q11⟩ := H
  exact ⟨q1, q2, q3, ⟨q4, by omega, h2⟩, q7, q8, q9, q10, fun j hj => ⟨(q11 j hj).1, by have := (q11 j hj).2; omega⟩⟩
theorem mi_ev (H : MI h n Y T S) (hT : T + 1 ≤ 1000000000) : MI h n Y (T + 1) (mG S 24 (S.1 24 + 1)) := by
  obtain ⟨q1, q2, q3, ⟨q4, q5, q6⟩, q7, q8, q9, q10, q11⟩ := H
  refine ⟨q1, q2, q3, ?_, q7, q8, q9, q10, fun j hj => ⟨(q11 j hj).1, by have := (q11 j hj).2; show (S.2 15 j).toInt ≤ _; omega⟩⟩
  have e : (mG S 24 (S.1 24 + 1)).1 24 = S.1 24 + 1 := rfl
  rw [e, i32_inc (by omega)]
  omega
theorem mi_enter (H : MI h n Y T S) (hT : T + 1 ≤ 1000000000) (b s : Int32) : MI h n Y (T + 1) (m_enter S b s) :=
  mi_ev (mi_A (mi_A H 12 _ _ (by decide)) 23 _ _ (by decide)) hT
theorem mi_f (H : MI h n Y T S) (hT : T + 1 ≤ 1000000000) (i : Nat) : MI h n Y (T + 1) (mA S 15 i (S.2 15 i + 1)) := by
  obtain ⟨q1, q2, q3, ⟨q4, q5, q6⟩, q7, q8, q9, q10, q11⟩ := H
  refine ⟨q1, q2, q3, ⟨q4, by show (S.1 24).toInt ≤ _; omega, hT⟩, q7, q8, q9, q10, fun j hj => ?_⟩
  have e : (mA S 15 i (S.2 15 i + 1)).2 15 j = if j = i then S.2 15 i + 1 else S.2 15 j := rfl
  rw [e]
  have := q11 j hj
  by_cases hji : j = i
  · subst hji
    rw [if_pos rfl, i32_inc (by omega)]; omega
  · rw [if_neg hji]; omega
theorem mi_fail (H : MI h n Y T S) (hT : T + 2 ≤ 1000000000) (b r : Int32) : MI h n Y (T + 2) (m_fail S b r) := by
  have H1 := mi_f H (by omega) (5 * b + r).toNatClampNeg
  unfold m_fail
  dsimp only
  rw [show T + 2 = T + 1 + 1 by omega]
  split
  · exact mi_enter (mi_A H1 13 _ _ (by decide)) (by omega) _ _
  · exact mi_enter (mi_A H1 13 _ _ (by decide)) (by omega) _ _
theorem mi_recv (H : MI h n Y T S) (hT : T + 1 ≤ 1000000000) (b v : Int32) : MI h n Y (T + 1) (m_recv S b v) := by
  have H1 : MI h n Y T (mG (mA S 11 b.toNatClampNeg (S.2 11 b.toNatClampNeg - v)) 20 ((mA S 11 b.toNatClampNeg (S.2 11 b.toNatClampNeg - v)).1 20 + v)) := mi_G (mi_A H 11 _ _ (by decide)) 20 _ (by decide)
  unfold m_recv
  dsimp only
  split
  · exact mi_enter H1 hT _ _
  · exact mi_mono H1 (by omega) hT
theorem mi_bp (H : MI h n Y T S) (hT : T + 1 ≤ 1000000000) (b : Int32) : MI h n Y (T + 1) (m_bp S b) :=
  mi_enter (mi_A (mi_A H 17 _ _ (by decide)) 13 _ _ (by decide)) hT _ _
theorem mi_l3 (H : MI h n Y T S) (hT : T + 1 ≤ 1000000000) (b : Int32) : MI h n Y (T + 1) (m_l3 S b).2 := by
  unfold m_l3
  split
  · split
    · exact mi_bp H hT b
    · exact mi_mono H (by omega) hT
  · exact mi_mono H (by omega) hT
theorem mi_l2 (H : MI h n Y T S) (hT : T + 1 ≤ 1000000000) (b : Int32) : MI h n Y (T + 1) (m_l2 S b).2 := by
  unfold m_l2
  split
  · split
    · exact mi_enter (mi_G H 21 _ (by decide)) hT _ _
    · exact mi_l3 H hT b
  · exact mi_l3 H hT b
theorem mi_l1 (H : MI h n Y T S) (hT : T + 1 ≤ 1000000000) (b : Int32) : MI h n Y (T + 1) (m_l1 S b).2 := by
  unfold m_l1
  split
  · split
    · exact mi_enter (mi_A H 13 _ _ (by decide)) hT _ _
    · exact mi_l2 H hT b
  · exact mi_l2 H hT b
theorem mi_look (H : MI h n Y T S) (hT : T + 1 ≤ 1000000000) (b : Int32) : MI h n Y (T + 1) (m_look S b).2 := by
  unfold m_look
  split
  · split
    · exact mi_l1 H hT b
    · split
      · exact mi_mono (mi_A H 13 _ _ (by decide)) (by omega) hT
      · exact mi_enter (mi_A H 14 _ _ (by decide)) hT _ _
  · exact mi_l1 H hT b
theorem mi_fut : ∀ (k i : Nat) {T : Int} {S : MS}, MI h n Y T S → T + 2 * k ≤ 1000000000 → MI h n Y (T + 2 * k) (m_fut k i S)
  | 0, _, T, S, H, hT => mi_mono H (by omega) hT
  | k + 1, i, T, S, H, hT => by
    unfold m_fut
    have H1 : MI h n Y (T + 2) (if S.2 12 (nI i).toNatClampNeg = 1 then m_fail S (nI i) 4 else S) := by
      split
      · exact mi_fail H (by omega) _ _
      · exact mi_mono H (by omega) (by omega)
    have := mi_fut k (i + 1) H1 (by omega)
    rw [show T + 2 * ((k + 1 : Nat) : Int) = T + 2 + 2 * k by omega]
    exact this
theorem mi_lab : ∀ (k i : Nat) (c : Int32) {T : Int} {S : MS}, MI h n Y T S → T + k ≤ 1000000000 → MI h n Y (T + k) (m_lab k i c S).2
  | 0, _, _, T, S, H, hT => mi_mono H (by omega) hT
  | k + 1, i, c, T, S, H, hT => by
    unfold m_lab
    have := mi_lab k (i + 1) (c + (if (m_look S (nI i)).1 = 0 then 0 else 1)) (mi_look H (by omega) (nI i)) (by omega)
    rw [show T + ((k + 1 : Nat) : Int) = T + 1 + k by omega]
    exact this
theorem mi_now (H : MI h n Y T S) (hY : Y + 1 ≤ 100000) : MI h n (Y + 1) T (mG S 0 (S.1 0 + 1)) := by
  obtain ⟨q1, q2, ⟨q3, q4, q5⟩, q6, q7, q8, q9⟩ := H
  have e : (mG S 0 (S.1 0 + 1)).1 0 = S.1 0 + 1 := rfl
  have e2 := i32_inc (a := S.1 0) (by omega)
  refine ⟨q1, q2, ?_, q6, q7, fun j hj => ?_, q9⟩
  · rw [e, e2]; omega
  · rw [e, e2]; have := q8 j hj; show (S.2 2 j).toInt ≤ _; omega
theorem mi_day (H : MI h n Y T S) (hY : Y + 1 ≤ 100000) (hT : T + 90 ≤ 1000000000) : MI h n (Y + 1) (T + 90) (m_day n S).2 := by
  have hn : n ≤ 30 := H.2.1.2
  have H1 := mi_now (mi_fut n 0 H (by omega)) hY
  exact mi_mono (mi_lab n 0 0 H1 (by omega)) (by omega) hT
theorem mi_days : ∀ (k : Nat) (c : Int32) {Y T : Int} {S : MS}, MI h n Y T S → Y + k ≤ 100000 → T + 90 * k ≤ 1000000000 → MI h n (Y + k) (T + 90 * k) (m_days n k c S).2
  | 0, _, Y, T, S, H, hY, hT => by
    rw [show Y + ((0 : Nat) : Int) = Y by omega]; exact mi_mono H (by omega) hT
  | k + 1, c, Y, T, S, H, hY, hT => by
    unfold m_days
    have := mi_days k (c + (m_day n S).1) (mi_day H (by omega) (by omega)) (by omega) (by omega)
    rw [show Y + ((k + 1 : Nat) : Int) = Y + 1 + k by omega, show T + 90 * ((k + 1 : Nat) : Int) = T + 90 + 90 * k by omega]
    exact this
/-- thrown stays -/
theorem th_enter (S : MS) (b s : Int32) : (m_enter S b s).1 25 = S.1 25 := rfl
theorem th_fail (S : MS) (b r : Int32) : (m_fail S b r).1 25 = S.1 25 := by
  unfold m_fail; dsimp only; split <;> rfl
theorem th_l3 (S : MS) (b : Int32) : (m_l3 S b).2.1 25 = S.1 25 := by
  unfold m_l3; split
  · split <;> rfl
  · rfl
theorem th_l2 (S : MS) (b : Int32) : (m_l2 S b).2.1 25 = S.1 25 := by
  unfold m_l2; split
  · split
    · rfl
    · exact th_l3 S b
  · exact th_l3 S b
theorem th_l1 (S : MS) (b : Int32) : (m_l1 S b).2.1 25 = S.1 25 := by
  unfold m_l1; split
  · split
    · rfl
    · exact th_l2 S b
  · exact th_l2 S b
theorem th_look (S : MS) (b : Int32) : (m_look S b).2.1 25 = S.1 25 := by
  unfold m_look; split
  · split
    · exact th_l1 S b
    · split <;> rfl
  · exact th_l1 S b
theorem th_fut : ∀ (k i : Nat) (S : MS), (m_fut k i S).1 25 = S.1 25
  | 0, _, _ => rfl
  | k + 1, i, S => by
    unfold m_fut
    rw [th_fut k (i + 1)]
    split
    · exact th_fail S _ _
    · rfl
theorem th_lab : ∀ (k i : Nat) (c : Int32) (S : MS), (m_lab k i c S).2.1 25 = S.1 25
  | 0, _, _, _ => rfl
  | k + 1, i, c, S => by
    unfold m_lab
    rw [th_lab k (i + 1)]
    exact th_look S _
theorem th_day (n : Nat) (S : MS) : (m_day n S).2.1 25 = S.1 25 := by
  unfold m_day
  rw [th_lab]
  exact th_fut n 0 S
/-- a charging day comes -/
theorem nat_rem7 {x : Int32} {k : Nat} (h0 : 0 ≤ x.toInt) (h : x.toInt % 7 = k) : (x - x / 7 * 7).toNatClampNeg = k := by
  have e := rem_toInt x 7
  have e7 : (7 : Int32).toInt = 7 := by decide
  rw [e7, Int.tmod_eq_emod_of_nonneg h0] at e
  show (x - x / 7 * 7).toInt.toNat = k
  rw [e]; omega
theorem hl_0 {d : Int32} : ∀ (m i : Nat), i + m < 2 ^ 31 → (∀ j, i ≤ j → j < i + m → ¬ S.2 2 j = d) → m_hl S d m i 0 = 0
  | 0, _, _, _ => rfl
  | m + 1, i, hm, hj => by
    unfold m_hl
    rw [if_pos rfl, nI_clamp (by omega), if_neg (hj i (by omega) (by omega))]
    exact hl_0 m (i + 1) (by omega) (fun j h1 h2 => hj j (by omega) (by omega))
theorem mi_chg (H : MI h n Y T S) {d : Int32} {k : Nat} (hd : (S.1 0).toInt + 60 < d.toInt) (hk : d.toInt % 7 = k) (hk2 : ¬ S.2 1 k = 0) : ¬ m_chg S d = 0 := by
  obtain ⟨⟨q1, q1'⟩, q2, q3, q6, q7, q8, q9⟩ := H
  unfold m_chg
  rw [nat_rem7 (by omega) hk, if_neg hk2]
  have : m_hol S d = 0 := by
    unfold m_hol
    rw [q1, nI_clamp (by omega)]
    exact hl_0 h 0 (by omega) (fun j _ hj hx => by
      have := q8 j (by omega)
      rw [hx] at this; omega)
  rw [if_pos this]
  decide
theorem ok_of : ∀ (t K : Nat) (d : Int32), t < K → ¬ m_chg S (d + nI t) = 0 → m_ok S K d
  | 0, K + 1, d, _, h => Or.inl (by rw [nI_0, Int32.add_zero] at h; exact h)
  | t + 1, K + 1, d, ht, h => Or.inr (ok_of t K (d + 1) (by omega) (by rw [nI_succ, Int32.add_comm (nI t), ← Int32.add_assoc] at h; exact h))
  | _, 0, _, ht, _ => absurd ht (Nat.not_lt_zero _)
theorem nI_ti {t : Nat} (h : t < 1000000) : (nI t).toInt = t := nI_toInt (by omega)
theorem mi_ok (H : MI h n Y T S) {d : Int32} (h1 : (S.1 0).toInt ≤ d.toInt) (h2 : d.toInt ≤ 2000000) : m_ok S 1000 d := by
  obtain ⟨k, hk, hk2⟩ := H.2.2.2.2.1
  have hN := H.2.2.1
  obtain ⟨t, ht, h3, h4⟩ : ∃ t : Nat, t < 100 ∧ (S.1 0).toInt + 60 < d.toInt + t ∧ (d.toInt + t) % 7 = k :=
    ⟨((S.1 0).toInt + 61 - d.toInt).toNat + ((k - (d.toInt + ((S.1 0).toInt + 61 - d.toInt).toNat)) % 7).toNat, by omega, by omega, by omega⟩
  have e : (d + nI t).toInt = d.toInt + t := by
    have := nI_ti (t := t) (by omega)
    rw [i32_add (by omega) (by omega), this]
  exact ok_of t 1000 d (by omega) (mi_chg H (by rw [e]; exact h3) (by rw [e]; exact h4) hk2)
end MIL
