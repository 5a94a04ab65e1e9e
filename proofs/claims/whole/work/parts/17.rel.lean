theorem hl_1 {S : MS} {d : Int32} : ∀ (m i : Nat), m_hl S d m i 1 = 1
  | 0, _ => rfl
  | m + 1, i => by
    unfold m_hl
    rw [if_neg (by decide)]
    exact hl_1 m (i + 1)
theorem hl_iff {S : MS} {d : Int32} : ∀ (m i : Nat), i + m < 2 ^ 31 → (m_hl S d m i 0 = 0 ↔ ∀ j, i ≤ j → j < i + m → ¬ S.2 2 j = d)
  | 0, i, _ => ⟨fun _ j h1 h2 => absurd h1 (by omega), fun _ => rfl⟩
  | m + 1, i, hm => by
    unfold m_hl
    rw [if_pos rfl, nI_clamp (by omega)]
    by_cases hd : S.2 2 i = d
    · rw [if_pos hd, hl_1]
      exact ⟨fun h => absurd h (by decide), fun h => absurd hd (h i (by omega) (by omega))⟩
    · rw [if_neg hd, hl_iff m (i + 1) (by omega)]
      constructor
      · intro h j h1 h2
        by_cases hj : j = i
        · subst hj; exact hd
        · exact h j (by omega) (by omega)
      · intro h j h1 h2
        exact h j (by omega) (by omega)
/-- the day a bill waits for, by its state -/
def wf (s d : Int32) : Int32 := if s = 1 then -1 else if s = 5 then -1 else if s = 6 then -1 else d
def bl (f : Nat → Int32) : Nat → Nat → Int32 → Int32
  | 0, _, c => c
  | k + 1, i, c => bl f k (i + 1) (c + f (nI i).toNatClampNeg)
theorem m_bl_eq (S : MS) : ∀ (k i : Nat) (c : Int32), m_bl S k i c = bl (S.2 10) k i c
  | 0, _, _ => rfl
  | k + 1, i, c => by unfold m_bl bl; exact m_bl_eq S k (i + 1) _
def RGp (E : ES) (S : MS) (i : Nat) : Prop := E.1 (14 + i) = S.2 5 (i + 1) ∧ (∀ j, j < 6 → E.2.1 (20 + i) j = S.2 4 (6 * (i + 1) + j)) ∧ ∀ j : Nat, (j : Int) < (S.2 5 (i + 1)).toInt → j < 6 → 1 ≤ (S.2 4 (6 * (i + 1) + j)).toInt
def RC0 (E : ES) (S : MS) : Prop := ∃ m, m < 128 ∧ E.1 12 = nI m ∧ ∀ k, k < 7 → S.2 1 k = nI (m / 2 ^ k % 2)
def RHd (h : Nat) (E : ES) (S : MS) : Prop := ∀ x, x < 2 ^ 31 → (dbit E x = false ↔ ∀ j, j < h → ¬ S.2 2 j = nI x)
def RG (h n : Nat) (E : ES) (S : MS) : Prop := E.1 4 = S.1 8 ∧ E.1 5 = S.1 0 ∧ E.1 6 = S.1 6 ∧ E.1 7 = S.1 7 ∧ E.1 8 = bl (S.2 10) n 0 0 ∧ E.1 9 = S.1 20 ∧ E.1 10 = S.1 21 ∧ E.1 11 = S.1 22 ∧ E.1 13 = S.1 24 ∧ E.2.1 30 = S.2 23 ∧ RGp E S 0 ∧ RGp E S 1 ∧ RGp E S 2 ∧ RGp E S 3 ∧ RC0 E S ∧ RHd h E S
def RZ (S : MS) (b : Nat) : Prop := S.2 14 b = 0 ∧ S.2 16 b = 0 ∧ S.2 17 b = 0 ∧ S.2 18 b = 0 ∧ S.2 19 b = 0 ∧ ∀ k, k < 4 → S.2 15 (5 * b + k + 1) = 0
def RC (E : ES) (S : MS) (b : Nat) : Prop := E.2.1 0 b = nI b ∧ E.2.1 1 b = S.2 9 b ∧ E.2.1 3 b = S.2 11 b ∧ E.2.1 6 b = S.2 14 b ∧ E.2.1 7 b = S.2 16 b ∧ E.2.1 8 b = S.2 17 b ∧ E.2.1 9 b = S.2 18 b ∧ E.2.1 10 b = S.2 19 b ∧ (∀ k, k < 4 → E.2.1 (40 + b) k = S.2 15 (5 * b + k + 1)) ∧ (0 ≤ (S.2 16 b).toInt ∧ (S.2 16 b).toInt ≤ 2) ∧ (S.2 18 b = 0 ∨ S.2 18 b = 2 ∨ S.2 18 b = 3)
def RW (E : ES) (S : MS) (b : Nat) : Prop := E.2.1 4 b = S.2 12 b ∧ E.2.1 5 b = wf (S.2 12 b) (S.2 13 b)
/-- side by side, but for the state of the bill b -/
def RX (h n : Nat) (E : ES) (S : MS) (b : Nat) : Prop := RG h n E S ∧ RC E S b ∧ (∀ c, c < n → c ≠ b → RC E S c ∧ RW E S c) ∧ ∀ c, n ≤ c → c < 30 → RZ S c
def Rel (h n : Nat) (E : ES) (S : MS) : Prop := RG h n E S ∧ (∀ c, c < n → RC E S c ∧ RW E S c) ∧ ∀ c, n ≤ c → c < 30 → RZ S c
theorem Rel.x {h n b : Nat} {E : ES} {S : MS} (H : Rel h n E S) (hb : b < n) : RX h n E S b := ⟨H.1, (H.2.1 b hb).1, fun c hc _ => H.2.1 c hc, H.2.2⟩
theorem RX.rel {h n b : Nat} {E : ES} {S : MS} (H : RX h n E S b) (hw : RW E S b) : Rel h n E S := ⟨H.1, fun c hc => by
  by_cases z : c = b
  · subst z; exact ⟨H.2.1, hw⟩
  · exact H.2.2.1 c hc z, H.2.2.2⟩
theorem eV_c {E : ES} {k0 b k c : Nat} {v : Int32} (h : c ≠ b) : (eV E k0 b v).2.1 k c = E.2.1 k c := by
  show va_up E.2.1 k0 (upd (E.2.1 k0) b v) k c = _
  unfold va_up
  by_cases z : k = k0
  · subst z; rw [if_pos rfl]; exact if_neg h
  · rw [if_neg z]
theorem eV_r {E : ES} {k0 b k : Nat} {v : Int32} (h : k ≠ k0) : (eV E k0 b v).2.1 k = E.2.1 k := if_neg h
theorem eV_s {E : ES} {k0 b : Nat} {v : Int32} : (eV E k0 b v).2.1 k0 b = v := by
  show va_up E.2.1 k0 (upd (E.2.1 k0) b v) k0 b = _
  unfold va_up upd
  rw [if_pos rfl, if_pos rfl]
theorem mA_c {S : MS} {k0 b k c : Nat} {v : Int32} (h : c ≠ b) : (mA S k0 b v).2 k c = S.2 k c := by
  show va_up S.2 k0 (upd (S.2 k0) b v) k c = _
  unfold va_up
  by_cases z : k = k0
  · subst z; rw [if_pos rfl]; exact if_neg h
  · rw [if_neg z]
theorem mA_r {S : MS} {k0 b k : Nat} {v : Int32} (h : k ≠ k0) : (mA S k0 b v).2 k = S.2 k := if_neg h
theorem mA_s {S : MS} {k0 b : Nat} {v : Int32} : (mA S k0 b v).2 k0 b = v := by
  show va_up S.2 k0 (upd (S.2 k0) b v) k0 b = _
  unfold va_up upd
  rw [if_pos rfl, if_pos rfl]
/-- other bills are as they were -/
def OB (E E' : ES) (S S' : MS) (b : Nat) : Prop := (∀ k c, c ≠ b → k ≤ 10 → E'.2.1 k c = E.2.1 k c) ∧ (∀ c, c ≠ b → E'.2.1 (40 + c) = E.2.1 (40 + c)) ∧ (∀ k c, c ≠ b → 9 ≤ k → k ≤ 19 → k ≠ 15 → S'.2 k c = S.2 k c) ∧ ∀ c k, c ≠ b → k < 4 → S'.2 15 (5 * c + k + 1) = S.2 15 (5 * c + k + 1)
theorem rx_of {h n b : Nat} {E E' : ES} {S S' : MS} (H : RX h n E S b) (hb : b < n) (hG : RG h n E' S') (hC : RC E' S' b) (hO : OB E E' S S' b) : RX h n E' S' b := by
  obtain ⟨o1, o2, o3, o4⟩ := hO
  refine ⟨hG, hC, fun c hc hcb => ?_, fun c h1 h2 => ?_⟩
  · obtain ⟨⟨q0, q1, q3, q6, q7, q8, q9, q10, qf, qi, qj⟩, w4, w5⟩ := H.2.2.1 c hc hcb
    have e := fun k hk => o1 k c hcb hk
    have f := fun k h1 h2 h3 => o3 k c hcb h1 h2 h3
    refine ⟨⟨?_, ?_, ?_, ?_, ?_, ?_, ?_, ?_, fun k hk => ?_, ?_, ?_⟩, ?_, ?_⟩
    · rw [e 0 (by decide)]; exact q0
    · rw [e 1 (by decide), f 9 (by decide) (by decide) (by decide)]; exact q1
    · rw [e 3 (by decide), f 11 (by decide) (by decide) (by decide)]; exact q3
    · rw [e 6 (by decide), f 14 (by decide) (by decide) (by decide)]; exact q6
    · rw [e 7 (by decide), f 16 (by decide) (by decide) (by decide)]; exact q7
    · rw [e 8 (by decide), f 17 (by decide) (by decide) (by decide)]; exact q8
    · rw [e 9 (by decide), f 18 (by decide) (by decide) (by decide)]; exact q9
    · rw [e 10 (by decide), f 19 (by decide) (by decide) (by decide)]; exact q10
    · rw [o2 c hcb, o4 c k hcb hk]; exact qf k hk
    · rw [f 16 (by decide) (by decide) (by decide)]; exact qi
    · rw [f 18 (by decide) (by decide) (by decide)]; exact qj
    · rw [e 4 (by decide), f 12 (by decide) (by decide) (by decide)]; exact w4
    · rw [e 5 (by decide), f 12 (by decide) (by decide) (by decide), f 13 (by decide) (by decide) (by decide)]; exact w5
  · obtain ⟨z1, z2, z3, z4, z5, z6⟩ := H.2.2.2 c h1 h2
    have hcb : c ≠ b := by omega
    have f := fun k h1 h2 h3 => o3 k c hcb h1 h2 h3
    refine ⟨?_, ?_, ?_, ?_, ?_, fun k hk => ?_⟩
    · rw [f 14 (by decide) (by decide) (by decide)]; exact z1
    · rw [f 16 (by decide) (by decide) (by decide)]; exact z2
    · rw [f 17 (by decide) (by decide) (by decide)]; exact z3
    · rw [f 18 (by decide) (by decide) (by decide)]; exact z4
    · rw [f 19 (by decide) (by decide) (by decide)]; exact z5
    · rw [o4 c k hcb hk]; exact z6 k hk
theorem ob_rf {E : ES} {S : MS} {b : Nat} : OB E E S S b := ⟨fun _ _ _ _ => rfl, fun _ _ => rfl, fun _ _ _ _ _ _ => rfl, fun _ _ _ _ => rfl⟩
theorem ob_eG {E E' : ES} {S S' : MS} {b k : Nat} {v : Int32} (H : OB E E' S S' b) : OB E (eG E' k v) S S' b := H
theorem ob_mG {E E' : ES} {S S' : MS} {b k : Nat} {v : Int32} (H : OB E E' S S' b) : OB E E' S (mG S' k v) b := H
theorem ob_eV {E E' : ES} {S S' : MS} {b k0 : Nat} {v : Int32} (H : OB E E' S S' b) (hk : k0 < 40 ∨ k0 = 40 + b) : OB E (eV E' k0 b v) S S' b := by
  obtain ⟨o1, o2, o3, o4⟩ := H
  exact ⟨fun k c hc hk => (eV_c hc).trans (o1 k c hc hk), fun c hc => (eV_r (by omega)).trans (o2 c hc), o3, o4⟩
theorem ob_mA {E E' : ES} {S S' : MS} {b k0 : Nat} {v : Int32} (H : OB E E' S S' b) (hk : k0 ≠ 15) : OB E E' S (mA S' k0 b v) b := by
  obtain ⟨o1, o2, o3, o4⟩ := H
  exact ⟨o1, o2, fun k c hc h1 h2 h3 => (mA_c hc).trans (o3 k c hc h1 h2 h3), fun c k hc hk2 => by rw [mA_r (Ne.symm hk)]; exact o4 c k hc hk2⟩
/-- a row that no bill has -/
theorem ob_eV' {E E' : ES} {S S' : MS} {b k0 i : Nat} {v : Int32} (H : OB E E' S S' b) (hk : 10 < k0 ∧ k0 < 40) : OB E (eV E' k0 i v) S S' b := by
  obtain ⟨o1, o2, o3, o4⟩ := H
  exact ⟨fun k c hc hk => by rw [eV_r (by omega)]; exact o1 k c hc hk, fun c hc => (eV_r (by omega)).trans (o2 c hc), o3, o4⟩
theorem ob_mA' {E E' : ES} {S S' : MS} {b k0 i : Nat} {v : Int32} (H : OB E E' S S' b) (hk : k0 < 9 ∨ 19 < k0) : OB E E' S (mA S' k0 i v) b := by
  obtain ⟨o1, o2, o3, o4⟩ := H
  exact ⟨o1, o2, fun k c hc h1 h2 h3 => by rw [mA_r (by omega)]; exact o3 k c hc h1 h2 h3, fun c k hc hk2 => by rw [mA_r (by omega)]; exact o4 c k hc hk2⟩
theorem ob_f {E : ES} {S : MS} {b r : Nat} {v w : Int32} (hr : r < 4) : OB E (eV E (40 + b) r v) S (mA S 15 (5 * b + r + 1) w) b :=
  ⟨fun k c hc hk => by rw [eV_r (by omega)], fun c hc => eV_r (by omega), fun k c hc h1 h2 h3 => by rw [mA_r h3], fun c k hc hk => mA_c (by omega)⟩
section SIM
variable {h n b nm : Nat} {Y T : Int} {E : ES} {S : MS}
theorem RG.day (G : RG h n E S) : E.1 5 = S.1 0 := G.2.1
theorem sim_chg (G : RG h n E S) (M : MI h nm Y T S) {d : Int32} (hd : 0 ≤ d.toInt) : e_chg E d = m_chg S d := by
  have e0 : (0 : Int32).toInt = 0 := by decide
  have e7 : (7 : Int32).toInt = 7 := by decide
  obtain ⟨x, hx, rfl⟩ := nI_of (x := d) (by rw [i32_lt]; omega)
  obtain ⟨-, -, -, -, -, -, -, -, -, -, -, -, -, -, ⟨m, hm, e12, hk⟩, gh⟩ := G
  have e1 : nI x - nI x / 7 * 7 = nI (x % 7) := pk_rem (d := 7) hx (by decide) (by decide)
  unfold e_chg m_chg
  rw [e12, fm_nn hd (by rw [e7]; decide), e1, nI_clamp (by omega), hk (x % 7) (by omega)]
  have eh : e_hol E (nI x) = 0 ↔ m_hol S (nI x) = 0 := by
    rw [hol_bit E hx, gh x hx, m_hol, M.1.1, nI_clamp (by have := M.1.2; omega), hl_iff h 0 (by have := M.1.2; omega)]
    exact ⟨fun z j _ hj => z j (by omega), fun z j hj => z j (by omega) (by omega)⟩
  by_cases q : nI (m / 2 ^ (x % 7) % 2) = 0
  · rw [if_pos ((wk_bit m hm (x % 7) (by omega)).mpr q), if_pos q]
  · rw [if_neg (fun z => q ((wk_bit m hm (x % 7) (by omega)).mp z)), if_neg q]
    by_cases q2 : e_hol E (nI x) = 0
    · rw [if_pos q2, if_pos (eh.mp q2)]
    · rw [if_neg q2, if_neg (fun z => q2 (eh.mpr z))]
theorem sim_fcf (G : RG h n E S) (M : MI h nm Y T S) : ∀ (K : Nat) (d : Int32), 0 ≤ d.toInt → d.toInt + K < 2147483648 → e_fcf E K d = m_cf S K d
  | 0, _, _, _ => rfl
  | K + 1, d, h1, h2 => by
    unfold e_fcf m_cf
    rw [sim_chg G M h1]
    have e := i32_inc (a := d) (by omega)
    rw [sim_fcf G M K (d + 1) (by omega) (by omega)]
theorem sim_enter (H : RX h n E S b) (hb : b < n) (hn : n ≤ 30) (M : MI h nm Y T S) {s wd : Int32} (hwd : wd = wf s (S.2 13 b)) : Rel h n (e_enter E b s wd) (m_enter S (nI b) s) := by
  have cb : (nI b).toNatClampNeg = b := nI_clamp (by omega)
  have hG := H.1
  have hC := H.2.1
  obtain ⟨g4, g5, g6, g7, g8, g9, g10, g11, g13, g30, p0, p1, p2, p3, gw, gh⟩ := hG
  have e4 : (400 : Int32).toInt = 400 := by decide
  have hix : (fmod (E.1 13) 400).toNatClampNeg = (S.1 24 - S.1 24 / 400 * 400).toNatClampNeg := by
    rw [g13, fm_nn M.2.2.2.1.1 (by rw [e4]; decide)]
  have hlog : upd (E.2.1 30) (fmod (E.1 13) 400).toNatClampNeg (1000 * E.1 5 + 10 * E.2.1 0 b + s) = upd (S.2 23) (S.1 24 - S.1 24 / 400 * 400).toNatClampNeg (1000 * S.1 0 + 10 * nI b + s) := by
    rw [hix, g30, g5, hC.1]
  have hG' : RG h n (e_enter E b s wd) (m_enter S (nI b) s) := ⟨g4, g5, g6, g7, g8, g9, g10, g11, (show E.1 13 + 1 = S.1 24 + 1 by rw [g13]), hlog, p0, p1, p2, p3, gw, gh⟩
  have hO : OB E (e_enter E b s wd) S (m_enter S (nI b) s) b := by
    have q1 : OB E (eV (eV E 4 b s) 5 b wd) S (mA S 12 b s) b := ob_mA (ob_eV (ob_eV ob_rf (Or.inl (by decide))) (Or.inl (by decide))) (by decide)
    have q2 := ob_mA' (k0 := 23) (i := (S.1 24 - S.1 24 / 400 * 400).toNatClampNeg) (v := 1000 * S.1 0 + 10 * nI b + s) (ob_eV' (k0 := 30) (i := (fmod (E.1 13) 400).toNatClampNeg) (v := 1000 * E.1 5 + 10 * E.2.1 0 b + s) q1 (by decide)) (by decide)
    unfold m_enter
    rw [cb]
    exact q2
  have hw4 : (e_enter E b s wd).2.1 4 b = s := by
    show (eV (eV E 4 b s) 5 b wd).2.1 4 b = s
    rw [eV_r (by decide), eV_s]
  have hw5 : (e_enter E b s wd).2.1 5 b = wd := by
    show (eV (eV E 4 b s) 5 b wd).2.1 5 b = wd
    rw [eV_s]
  have hm12 : (m_enter S (nI b) s).2 12 b = s := by
    unfold m_enter
    rw [cb]
    show (mA S 12 b s).2 12 b = s
    exact mA_s
  have hm13 : (m_enter S (nI b) s).2 13 b = S.2 13 b := rfl
  have hX : RX h n (e_enter E b s wd) (m_enter S (nI b) s) b := by
    refine rx_of H hb hG' ?_ hO
    obtain ⟨q0, q1, q3, q6, q7, q8, q9, q10, qf, qi, qj⟩ := hC
    have r40 : ∀ k, (e_enter E b s wd).2.1 (40 + b) k = E.2.1 (40 + b) k := fun k => by
      show (eV (eV (eV E 4 b s) 5 b wd) 30 (fmod (E.1 13) 400).toNatClampNeg (1000 * E.1 5 + 10 * E.2.1 0 b + s)).2.1 (40 + b) k = _
      rw [eV_r (by omega), eV_r (by omega), eV_r (by omega)]
    exact ⟨q0, q1, q3, q6, q7, q8, q9, q10, fun k hk => (r40 k).trans (qf k hk), qi, qj⟩
  exact hX.rel ⟨hw4.trans hm12.symm, by rw [hw5, hm12, hm13]; exact hwd⟩
end SIM
