/-- the day a bill waits for, by its state -/
def wf (σ : Nat) (d : Int32) : Int32 := if σ = 1 ∨ σ = 5 ∨ σ = 6 then -1 else d
def bs (f : Nat → Int32) : Nat → Int32
  | 0 => 0
  | k + 1 => bs f k + f (12 + k)
def RGp (E : ES) (S : MS) (i : Nat) : Prop := ∃ c, c ≤ 6 ∧ E.1 (14 + i) = nI c ∧ S 3 (i + 1) = nI c ∧ ∀ j, j < c → ∃ g, 1 ≤ g ∧ g ≤ 30 ∧ E.2.1 (20 + i) j = nI g ∧ S 2 (6 * (i + 1) + j) = nI g
def RK (E : ES) (S : MS) : Prop := ∃ m, m < 128 ∧ 0 < m ∧ E.1 12 = nI m ∧ S 0 1 = nI m
def RHd (h : Nat) (E : ES) (w : Nat → Int32) : Prop := ∀ x, x < 2 ^ 31 → (dbit E x = false ↔ ∀ j, j < h → ¬ w j = nI x)
/-- side by side, but for the bills: h holidays, n bills, N events, the day Y -/
def RG (h n N Y : Nat) (E : ES) (S : MS) : Prop := (E.1 4 = nI n) ∧ (S 0 2 = nI n) ∧ (E.1 5 = nI Y) ∧ (S 0 0 = nI Y) ∧ (E.1 6 = S 0 3) ∧ (E.1 7 = S 0 4) ∧ (E.1 8 = bs (S 4) n) ∧ (E.1 9 = S 0 5) ∧ (E.1 10 = S 0 6) ∧ (E.1 11 = S 0 7) ∧ (E.1 13 = nI N) ∧ (S 0 8 = nI N) ∧ (∀ t, t < N → N ≤ t + 60 → S 8 (t % 60) = E.2.1 30 (t % 400)) ∧ (∀ j, j < 60 → ∃ c, c < 2 ^ 31 ∧ S 8 j = nI c) ∧ (∀ i, i < 4 → RGp E S i) ∧ (RK E S) ∧ (S 1 63 = nI h) ∧ (RHd h E (S 1)) ∧ (∀ j, j < h → ∃ x, x ≤ Y + 60 ∧ S 1 j = nI x) ∧ (h ≤ 60) ∧ (n ≤ 12)
theorem RG.n4 {h n N Y : Nat} {E : ES} {S : MS} (G : RG h n N Y E S) : E.1 4 = nI n := G.1
theorem RG.n2 {h n N Y : Nat} {E : ES} {S : MS} (G : RG h n N Y E S) : S 0 2 = nI n := G.2.1
theorem RG.d5 {h n N Y : Nat} {E : ES} {S : MS} (G : RG h n N Y E S) : E.1 5 = nI Y := G.2.2.1
theorem RG.d0 {h n N Y : Nat} {E : ES} {S : MS} (G : RG h n N Y E S) : S 0 0 = nI Y := G.2.2.2.1
theorem RG.g6 {h n N Y : Nat} {E : ES} {S : MS} (G : RG h n N Y E S) : E.1 6 = S 0 3 := G.2.2.2.2.1
theorem RG.g7 {h n N Y : Nat} {E : ES} {S : MS} (G : RG h n N Y E S) : E.1 7 = S 0 4 := G.2.2.2.2.2.1
theorem RG.g8 {h n N Y : Nat} {E : ES} {S : MS} (G : RG h n N Y E S) : E.1 8 = bs (S 4) n := G.2.2.2.2.2.2.1
theorem RG.g9 {h n N Y : Nat} {E : ES} {S : MS} (G : RG h n N Y E S) : E.1 9 = S 0 5 := G.2.2.2.2.2.2.2.1
theorem RG.g10 {h n N Y : Nat} {E : ES} {S : MS} (G : RG h n N Y E S) : E.1 10 = S 0 6 := G.2.2.2.2.2.2.2.2.1
theorem RG.g11 {h n N Y : Nat} {E : ES} {S : MS} (G : RG h n N Y E S) : E.1 11 = S 0 7 := G.2.2.2.2.2.2.2.2.2.1
theorem RG.t13 {h n N Y : Nat} {E : ES} {S : MS} (G : RG h n N Y E S) : E.1 13 = nI N := G.2.2.2.2.2.2.2.2.2.2.1
theorem RG.t8 {h n N Y : Nat} {E : ES} {S : MS} (G : RG h n N Y E S) : S 0 8 = nI N := G.2.2.2.2.2.2.2.2.2.2.2.1
theorem RG.ring {h n N Y : Nat} {E : ES} {S : MS} (G : RG h n N Y E S) : ∀ t, t < N → N ≤ t + 60 → S 8 (t % 60) = E.2.1 30 (t % 400) := G.2.2.2.2.2.2.2.2.2.2.2.2.1
theorem RG.cod {h n N Y : Nat} {E : ES} {S : MS} (G : RG h n N Y E S) : ∀ j, j < 60 → ∃ c, c < 2 ^ 31 ∧ S 8 j = nI c := G.2.2.2.2.2.2.2.2.2.2.2.2.2.1
theorem RG.gp {h n N Y : Nat} {E : ES} {S : MS} (G : RG h n N Y E S) : ∀ i, i < 4 → RGp E S i := G.2.2.2.2.2.2.2.2.2.2.2.2.2.2.1
theorem RG.rk {h n N Y : Nat} {E : ES} {S : MS} (G : RG h n N Y E S) : RK E S := G.2.2.2.2.2.2.2.2.2.2.2.2.2.2.2.1
theorem RG.w63 {h n N Y : Nat} {E : ES} {S : MS} (G : RG h n N Y E S) : S 1 63 = nI h := G.2.2.2.2.2.2.2.2.2.2.2.2.2.2.2.2.1
theorem RG.hd {h n N Y : Nat} {E : ES} {S : MS} (G : RG h n N Y E S) : RHd h E (S 1) := G.2.2.2.2.2.2.2.2.2.2.2.2.2.2.2.2.2.1
theorem RG.hl {h n N Y : Nat} {E : ES} {S : MS} (G : RG h n N Y E S) : ∀ j, j < h → ∃ x, x ≤ Y + 60 ∧ S 1 j = nI x := G.2.2.2.2.2.2.2.2.2.2.2.2.2.2.2.2.2.2.1
theorem RG.h60 {h n N Y : Nat} {E : ES} {S : MS} (G : RG h n N Y E S) : h ≤ 60 := G.2.2.2.2.2.2.2.2.2.2.2.2.2.2.2.2.2.2.2.1
theorem RG.n12 {h n N Y : Nat} {E : ES} {S : MS} (G : RG h n N Y E S) : n ≤ 12 := G.2.2.2.2.2.2.2.2.2.2.2.2.2.2.2.2.2.2.2.2
/-- what the law's rows hold of the bill c -/
def bv (S : MS) (c : Nat) : Nat → Int32 := fun k => match k with
  | 0 => S 4 c
  | 1 => S 4 (24 + c)
  | 2 => S 5 c
  | 3 => S 5 (12 + c)
  | 4 => S 5 (24 + c)
  | 5 => S 5 (36 + c)
  | 6 => S 7 c
  | 7 => S 7 (12 + c)
  | 8 => S 7 (24 + c)
  | 9 => S 6 (5 * c + 1)
  | 10 => S 6 (5 * c + 2)
  | 11 => S 6 (5 * c + 3)
  | 12 => S 6 (5 * c + 4)
  | _ => 0
theorem bv_f (S : MS) (c : Nat) : ∀ r, r < 4 → bv S c (9 + r) = S 6 (5 * c + (r + 1))
  | 0, _ => rfl
  | 1, _ => rfl
  | 2, _ => rfl
  | 3, _ => rfl
  | r + 4, h => absurd h (by omega)
theorem bv_ext {S S' : MS} {c c' : Nat} (h0 : S' 4 c' = S 4 c) (h1 : S' 4 (24 + c') = S 4 (24 + c)) (h2 : S' 5 c' = S 5 c) (h3 : S' 5 (12 + c') = S 5 (12 + c)) (h4 : S' 5 (24 + c') = S 5 (24 + c)) (h5 : S' 5 (36 + c') = S 5 (36 + c)) (h6 : S' 7 c' = S 7 c) (h7 : S' 7 (12 + c') = S 7 (12 + c)) (h8 : S' 7 (24 + c') = S 7 (24 + c)) (h9 : ∀ r, r < 4 → S' 6 (5 * c' + (r + 1)) = S 6 (5 * c + (r + 1))) : bv S' c' = bv S c := funext fun k => match k with
  | 0 => h0
  | 1 => h1
  | 2 => h2
  | 3 => h3
  | 4 => h4
  | 5 => h5
  | 6 => h6
  | 7 => h7
  | 8 => h8
  | 9 => h9 0 (by decide)
  | 10 => h9 1 (by decide)
  | 11 => h9 2 (by decide)
  | 12 => h9 3 (by decide)
  | k + 13 => rfl
/-- a place of the bill b, or of none -/
def slb (a i b : Nat) : Prop := (a = 4 → i = b ∨ i = 24 + b ∨ i = 12 + b) ∧ (a = 5 → i = b ∨ i = 12 + b ∨ i = 24 + b ∨ i = 36 + b) ∧ (a = 7 → i = b ∨ i = 12 + b ∨ i = 24 + b) ∧ (a = 6 → 5 * b < i ∧ i ≤ 5 * b + 4)
theorem bv_o {S : MS} {a i b c : Nat} {v : Int32} (hs : slb a i b) (hcb : c ≠ b) (hc : c < 12) (hb : b < 12) : bv (mA S a i v) c = bv S c := by
  obtain ⟨s4, s5, s7, s6⟩ := hs
  have h4 : ∀ j, (j = c ∨ j = 24 + c) → mA S a i v 4 j = S 4 j := fun j hj => (Classical.em (a = 4)).elim (fun z => mA_ne (Or.inr (by have := s4 z; omega))) (fun z => mA_ro (Ne.symm z))
  have h5 : ∀ j, (j = c ∨ j = 12 + c ∨ j = 24 + c ∨ j = 36 + c) → mA S a i v 5 j = S 5 j := fun j hj => (Classical.em (a = 5)).elim (fun z => mA_ne (Or.inr (by have := s5 z; omega))) (fun z => mA_ro (Ne.symm z))
  have h7 : ∀ j, (j = c ∨ j = 12 + c ∨ j = 24 + c) → mA S a i v 7 j = S 7 j := fun j hj => (Classical.em (a = 7)).elim (fun z => mA_ne (Or.inr (by have := s7 z; omega))) (fun z => mA_ro (Ne.symm z))
  have h6 : ∀ r, r < 4 → mA S a i v 6 (5 * c + (r + 1)) = S 6 (5 * c + (r + 1)) := fun r hr => (Classical.em (a = 6)).elim (fun z => mA_ne (Or.inr (by have := s6 z; omega))) (fun z => mA_ro (Ne.symm z))
  exact bv_ext (h4 _ (by omega)) (h4 _ (by omega)) (h5 _ (by omega)) (h5 _ (by omega)) (h5 _ (by omega)) (h5 _ (by omega)) (h7 _ (by omega)) (h7 _ (by omega)) (h7 _ (by omega)) h6
theorem bv_0 {S : MS} {c : Nat} {v : Int32} (hc : c < 12) : bv (mA S 4 (c) v) c = upd (bv S c) 0 v := funext fun k => match k with
  | 0 => by rw [show upd (bv S c) 0 v 0 = v from rfl]; exact mA_s
  | 1 => mA_c (by omega)
  | 2 => rfl
  | 3 => rfl
  | 4 => rfl
  | 5 => rfl
  | 6 => rfl
  | 7 => rfl
  | 8 => rfl
  | 9 => rfl
  | 10 => rfl
  | 11 => rfl
  | 12 => rfl
  | k + 13 => rfl
theorem bv_1 {S : MS} {c : Nat} {v : Int32} (hc : c < 12) : bv (mA S 4 (24 + c) v) c = upd (bv S c) 1 v := funext fun k => match k with
  | 0 => mA_c (by omega)
  | 1 => by rw [show upd (bv S c) 1 v 1 = v from rfl]; exact mA_s
  | 2 => rfl
  | 3 => rfl
  | 4 => rfl
  | 5 => rfl
  | 6 => rfl
  | 7 => rfl
  | 8 => rfl
  | 9 => rfl
  | 10 => rfl
  | 11 => rfl
  | 12 => rfl
  | k + 13 => rfl
theorem bv_2 {S : MS} {c : Nat} {v : Int32} (hc : c < 12) : bv (mA S 5 (c) v) c = upd (bv S c) 2 v := funext fun k => match k with
  | 0 => rfl
  | 1 => rfl
  | 2 => by rw [show upd (bv S c) 2 v 2 = v from rfl]; exact mA_s
  | 3 => mA_c (by omega)
  | 4 => mA_c (by omega)
  | 5 => mA_c (by omega)
  | 6 => rfl
  | 7 => rfl
  | 8 => rfl
  | 9 => rfl
  | 10 => rfl
  | 11 => rfl
  | 12 => rfl
  | k + 13 => rfl
theorem bv_3 {S : MS} {c : Nat} {v : Int32} (hc : c < 12) : bv (mA S 5 (12 + c) v) c = upd (bv S c) 3 v := funext fun k => match k with
  | 0 => rfl
  | 1 => rfl
  | 2 => mA_c (by omega)
  | 3 => by rw [show upd (bv S c) 3 v 3 = v from rfl]; exact mA_s
  | 4 => mA_c (by omega)
  | 5 => mA_c (by omega)
  | 6 => rfl
  | 7 => rfl
  | 8 => rfl
  | 9 => rfl
  | 10 => rfl
  | 11 => rfl
  | 12 => rfl
  | k + 13 => rfl
theorem bv_4 {S : MS} {c : Nat} {v : Int32} (hc : c < 12) : bv (mA S 5 (24 + c) v) c = upd (bv S c) 4 v := funext fun k => match k with
  | 0 => rfl
  | 1 => rfl
  | 2 => mA_c (by omega)
  | 3 => mA_c (by omega)
  | 4 => by rw [show upd (bv S c) 4 v 4 = v from rfl]; exact mA_s
  | 5 => mA_c (by omega)
  | 6 => rfl
  | 7 => rfl
  | 8 => rfl
  | 9 => rfl
  | 10 => rfl
  | 11 => rfl
  | 12 => rfl
  | k + 13 => rfl
theorem bv_5 {S : MS} {c : Nat} {v : Int32} (hc : c < 12) : bv (mA S 5 (36 + c) v) c = upd (bv S c) 5 v := funext fun k => match k with
  | 0 => rfl
  | 1 => rfl
  | 2 => mA_c (by omega)
  | 3 => mA_c (by omega)
  | 4 => mA_c (by omega)
  | 5 => by rw [show upd (bv S c) 5 v 5 = v from rfl]; exact mA_s
  | 6 => rfl
  | 7 => rfl
  | 8 => rfl
  | 9 => rfl
  | 10 => rfl
  | 11 => rfl
  | 12 => rfl
  | k + 13 => rfl
theorem bv_6 {S : MS} {c : Nat} {v : Int32} (hc : c < 12) : bv (mA S 7 (c) v) c = upd (bv S c) 6 v := funext fun k => match k with
  | 0 => rfl
  | 1 => rfl
  | 2 => rfl
  | 3 => rfl
  | 4 => rfl
  | 5 => rfl
  | 6 => by rw [show upd (bv S c) 6 v 6 = v from rfl]; exact mA_s
  | 7 => mA_c (by omega)
  | 8 => mA_c (by omega)
  | 9 => rfl
  | 10 => rfl
  | 11 => rfl
  | 12 => rfl
  | k + 13 => rfl
theorem bv_7 {S : MS} {c : Nat} {v : Int32} (hc : c < 12) : bv (mA S 7 (12 + c) v) c = upd (bv S c) 7 v := funext fun k => match k with
  | 0 => rfl
  | 1 => rfl
  | 2 => rfl
  | 3 => rfl
  | 4 => rfl
  | 5 => rfl
  | 6 => mA_c (by omega)
  | 7 => by rw [show upd (bv S c) 7 v 7 = v from rfl]; exact mA_s
  | 8 => mA_c (by omega)
  | 9 => rfl
  | 10 => rfl
  | 11 => rfl
  | 12 => rfl
  | k + 13 => rfl
theorem bv_8 {S : MS} {c : Nat} {v : Int32} (hc : c < 12) : bv (mA S 7 (24 + c) v) c = upd (bv S c) 8 v := funext fun k => match k with
  | 0 => rfl
  | 1 => rfl
  | 2 => rfl
  | 3 => rfl
  | 4 => rfl
  | 5 => rfl
  | 6 => mA_c (by omega)
  | 7 => mA_c (by omega)
  | 8 => by rw [show upd (bv S c) 8 v 8 = v from rfl]; exact mA_s
  | 9 => rfl
  | 10 => rfl
  | 11 => rfl
  | 12 => rfl
  | k + 13 => rfl
theorem bv_9 {S : MS} {c r : Nat} {v : Int32} (hr : r < 4) : bv (mA S 6 (5 * c + (r + 1)) v) c = upd (bv S c) (9 + r) v := by
  match r, hr with
  | 0, _ => exact funext fun k => match k with
    | 0 => rfl
    | 1 => rfl
    | 2 => rfl
    | 3 => rfl
    | 4 => rfl
    | 5 => rfl
    | 6 => rfl
    | 7 => rfl
    | 8 => rfl
    | 9 => (by rw [show upd (bv S c) 9 v 9 = v from rfl]; exact mA_s)
    | 10 => (mA_c (by omega))
    | 11 => (mA_c (by omega))
    | 12 => (mA_c (by omega))
    | k + 13 => rfl
  | 1, _ => exact funext fun k => match k with
    | 0 => rfl
    | 1 => rfl
    | 2 => rfl
    | 3 => rfl
    | 4 => rfl
    | 5 => rfl
    | 6 => rfl
    | 7 => rfl
    | 8 => rfl
    | 9 => (mA_c (by omega))
    | 10 => (by rw [show upd (bv S c) 10 v 10 = v from rfl]; exact mA_s)
    | 11 => (mA_c (by omega))
    | 12 => (mA_c (by omega))
    | k + 13 => rfl
  | 2, _ => exact funext fun k => match k with
    | 0 => rfl
    | 1 => rfl
    | 2 => rfl
    | 3 => rfl
    | 4 => rfl
    | 5 => rfl
    | 6 => rfl
    | 7 => rfl
    | 8 => rfl
    | 9 => (mA_c (by omega))
    | 10 => (mA_c (by omega))
    | 11 => (by rw [show upd (bv S c) 11 v 11 = v from rfl]; exact mA_s)
    | 12 => (mA_c (by omega))
    | k + 13 => rfl
  | 3, _ => exact funext fun k => match k with
    | 0 => rfl
    | 1 => rfl
    | 2 => rfl
    | 3 => rfl
    | 4 => rfl
    | 5 => rfl
    | 6 => rfl
    | 7 => rfl
    | 8 => rfl
    | 9 => (mA_c (by omega))
    | 10 => (mA_c (by omega))
    | 11 => (mA_c (by omega))
    | 12 => (by rw [show upd (bv S c) 12 v 12 = v from rfl]; exact mA_s)
    | k + 13 => rfl
  | r + 4, h => exact absurd h (by omega)
theorem bv_n {S : MS} {a i c : Nat} {v : Int32} (ha : a = 0 ∨ a = 1 ∨ a = 2 ∨ a = 3 ∨ a = 8) : bv (mA S a i v) c = bv S c := bv_ext (mA_ro (by omega)) (mA_ro (by omega)) (mA_ro (by omega)) (mA_ro (by omega)) (mA_ro (by omega)) (mA_ro (by omega)) (mA_ro (by omega)) (mA_ro (by omega)) (mA_ro (by omega)) (fun r _ => mA_ro (by omega))
def RC (N : Nat) (E : ES) (c : Nat) (f : Nat → Int32) : Prop := E.2.1 0 c = nI c ∧ E.2.1 1 c = f 0 ∧ E.2.1 3 c = f 1 ∧ E.2.1 6 c = f 4 ∧ E.2.1 7 c = f 5 ∧ E.2.1 8 c = f 8 ∧ E.2.1 9 c = f 6 ∧ E.2.1 10 c = f 7 ∧ (∀ r, r < 4 → E.2.1 (40 + c) r = f (9 + r) ∧ ∃ κ, κ ≤ N ∧ f (9 + r) = nI κ) ∧ (∃ v, v ≤ 9999 ∧ f 1 = nI v) ∧ (f 6 = nI 0 ∨ f 6 = nI 2 ∨ f 6 = nI 3)
def RW (E : ES) (c : Nat) (f : Nat → Int32) : Prop := ∃ σ, σ ≤ 6 ∧ f 2 = nI σ ∧ E.2.1 4 c = nI σ ∧ E.2.1 5 c = wf σ (f 3)
def RZ (f : Nat → Int32) : Prop := f 4 = nI 0 ∧ f 5 = nI 0 ∧ f 6 = nI 0 ∧ f 7 = nI 0 ∧ f 8 = nI 0 ∧ ∀ r, r < 4 → f (9 + r) = nI 0
/-- side by side, but for the state of the bill b -/
def RX (h n N M Y : Nat) (E : ES) (S : MS) (b : Nat) : Prop := RG h n N Y E S ∧ RC M E b (bv S b) ∧ (∀ c, c < n → c ≠ b → RC N E c (bv S c) ∧ RW E c (bv S c)) ∧ ∀ c, n ≤ c → c < 12 → RZ (bv S c)
def Rel (h n N Y : Nat) (E : ES) (S : MS) : Prop := RG h n N Y E S ∧ (∀ c, c < n → RC N E c (bv S c) ∧ RW E c (bv S c)) ∧ ∀ c, n ≤ c → c < 12 → RZ (bv S c)
theorem Rel.x {h n N Y b : Nat} {E : ES} {S : MS} (H : Rel h n N Y E S) (hb : b < n) : RX h n N N Y E S b := ⟨H.1, (H.2.1 b hb).1, fun c hc _ => H.2.1 c hc, H.2.2⟩
theorem RX.rel {h n N Y b : Nat} {E : ES} {S : MS} (H : RX h n N N Y E S b) (hw : RW E b (bv S b)) : Rel h n N Y E S := ⟨H.1, fun c hc => by
  by_cases z : c = b
  · subst z; exact ⟨H.2.1, hw⟩
  · exact H.2.2.1 c hc z, H.2.2.2⟩
theorem RC.mono {N N' c : Nat} {E : ES} {f : Nat → Int32} (h : RC N E c f) (hN : N ≤ N') : RC N' E c f := by
  obtain ⟨q0, q1, q3, q6, q7, q8, q9, q10, qf, ql, qj⟩ := h
  exact ⟨q0, q1, q3, q6, q7, q8, q9, q10, fun r hr => ⟨(qf r hr).1, (qf r hr).2.elim fun κ w => ⟨κ, by omega, w.2⟩⟩, ql, qj⟩
/-- the class's cells of other bills are as they were -/
def OE (E E' : ES) (b : Nat) : Prop := (∀ k c, c ≠ b → k ≤ 10 → E'.2.1 k c = E.2.1 k c) ∧ ∀ c, c ≠ b → E'.2.1 (40 + c) = E.2.1 (40 + c)
theorem oe_rf {E : ES} {b : Nat} : OE E E b := ⟨fun _ _ _ _ => rfl, fun _ _ => rfl⟩
theorem oe_eV {E E' : ES} {b k0 : Nat} {v : Int32} (H : OE E E' b) (hk : k0 < 40 ∨ k0 = 40 + b) : OE E (eV E' k0 b v) b := ⟨fun k c hc hk => (eV_c hc).trans (H.1 k c hc hk), fun c hc => (eV_r (by omega)).trans (H.2 c hc)⟩
theorem oe_eF {E E' : ES} {b i : Nat} {v : Int32} (H : OE E E' b) : OE E (eV E' (40 + b) i v) b := ⟨fun k c hc hk => by rw [eV_r (by omega)]; exact H.1 k c hc hk, fun c hc => (eV_r (by omega)).trans (H.2 c hc)⟩
theorem oe_eV' {E E' : ES} {b k0 i : Nat} {v : Int32} (H : OE E E' b) (hk : 10 < k0 ∧ k0 < 40) : OE E (eV E' k0 i v) b := ⟨fun k c hc hk => by rw [eV_r (by omega)]; exact H.1 k c hc hk, fun c hc => (eV_r (by omega)).trans (H.2 c hc)⟩
theorem oe_c {E E' : ES} {N b c : Nat} {f : Nat → Int32} (O : OE E E' b) (hcb : c ≠ b) (H : RC N E c f ∧ RW E c f) : RC N E' c f ∧ RW E' c f := by
  obtain ⟨⟨q0, q1, q3, q6, q7, q8, q9, q10, qf, ql, qj⟩, σ, w1, w2, w3, w4⟩ := H
  have e := fun k hk => O.1 k c hcb hk
  refine ⟨⟨?_, ?_, ?_, ?_, ?_, ?_, ?_, ?_, fun r hr => ?_, ql, qj⟩, σ, w1, w2, ?_, ?_⟩
  · rw [e 0 (by decide)]; exact q0
  · rw [e 1 (by decide)]; exact q1
  · rw [e 3 (by decide)]; exact q3
  · rw [e 6 (by decide)]; exact q6
  · rw [e 7 (by decide)]; exact q7
  · rw [e 8 (by decide)]; exact q8
  · rw [e 9 (by decide)]; exact q9
  · rw [e 10 (by decide)]; exact q10
  · rw [O.2 c hcb]; exact qf r hr
  · rw [e 4 (by decide)]; exact w3
  · rw [e 5 (by decide)]; exact w4
/-- a step that touches the bill b alone -/
theorem rx_of {h n N N' M M' Y b : Nat} {E E' : ES} {S S' : MS} (H : RX h n N M Y E S b) (hb : b < n) (hG : RG h n N' Y E' S') (hN : N ≤ N') (hC : RC M' E' b (bv S' b)) (hO : OE E E' b) (hS : ∀ c, c ≠ b → c < 12 → bv S' c = bv S c) : RX h n N' M' Y E' S' b := by
  have n12 := hG.n12
  refine ⟨hG, hC, fun c hc hcb => ?_, fun c h1 h2 => ?_⟩
  · rw [hS c hcb (by omega)]
    have := oe_c hO hcb (H.2.2.1 c hc hcb)
    exact ⟨this.1.mono hN, this.2⟩
  · rw [hS c (by omega) h2]; exact H.2.2.2 c h1 h2
theorem bs_u {S : MS} {i : Nat} {v : Int32} : ∀ n, (∀ k, k < n → 12 + k ≠ i) → bs (mA S 4 i v 4) n = bs (S 4) n
  | 0, _ => rfl
  | n + 1, h => by
    unfold bs
    rw [bs_u n (fun k hk => h k (by omega)), mA_c (h n (by omega))]
