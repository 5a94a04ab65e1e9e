section SIM6
variable {h n b k : Nat} {Y T : Int} {E : ES} {S : MS}
theorem sim_sw (H : Rel h n E S) (hb : b < n) (hn : n ≤ 30) : e_sw E b = m_sw S (nI b) := by
  obtain ⟨⟨q0, q1, q3, q6, q7, q8, q9, q10, qf, qi, qj⟩, w4, w5⟩ := H.2.1 b hb
  unfold e_sw m_sw
  rw [nI_clamp (show b < 2 ^ 31 by omega), w4, q9]
  by_cases z3 : S.2 12 b = 3
  · rw [if_pos z3, if_pos z3]
  · rw [if_neg z3, if_neg z3]
    by_cases z5 : S.2 12 b = 5
    · rw [if_pos z5, if_pos z5]
    · rw [if_neg z5, if_neg z5]
      by_cases z4 : S.2 12 b = 4
      · have z2 : ¬ S.2 12 b = 2 := by rw [z4]; decide
        rw [if_pos z4, if_pos z4, if_neg z2]
      · rw [if_neg z4, if_neg z4]
theorem svc_hi {x : Int32} : ∀ (j i : Nat) (c : Int32), n ≤ i → e_svc n E x j i c = c
  | 0, _, _, _ => rfl
  | j + 1, i, c, hi => by
    unfold e_svc
    rw [if_neg (by omega)]
    exact svc_hi j (i + 1) c (by omega)
theorem sim_svc (H : Rel h n E S) (hn : n ≤ 30) {x : Int32} : ∀ (j j2 i : Nat) (c : Int32), i + j = n → j ≤ j2 → e_svc n E x j2 i c = m_svc S x j i c
  | 0, j2, i, c, hi, _ => svc_hi j2 i c (by omega)
  | j + 1, 0, i, c, hi, h2 => absurd h2 (by omega)
  | j + 1, j2 + 1, i, c, hi, h2 => by
    have q1 := (H.2.1 i (by omega)).1.2.1
    have sw := sim_sw H (b := i) (by omega) hn
    unfold e_svc m_svc
    rw [if_pos (show i < n by omega), nI_clamp (show i < 2 ^ 31 by omega), q1, sw]
    by_cases z : S.2 9 i = x
    · rw [if_pos z, if_pos z]
      have e : (if m_sw S (nI i) < c then m_sw S (nI i) else c) = (if c ≤ m_sw S (nI i) then c else m_sw S (nI i)) := by
        by_cases y : c ≤ m_sw S (nI i)
        · rw [if_pos y, if_neg (by rw [i32_lt]; rw [i32_le] at y; omega)]
        · rw [if_neg y, if_pos (by rw [i32_lt]; rw [i32_le] at y; omega)]
      rw [e]
      exact sim_svc H hn j j2 (i + 1) _ (by omega) (by omega)
    · rw [if_neg z, if_neg z]
      exact sim_svc H hn j j2 (i + 1) _ (by omega) (by omega)
theorem s_service (I : Inv k n E S) {x : Int32} : SimR k n [xIO] E (e_service n E x) (m_service n S x) := by
  unfold e_service m_service
  rcases acc_or x with ⟨r1, r2⟩ | ⟨r1, r2⟩
  · rw [ck_none r1, r2, if_neg n01]
    have I0 := I
    obtain ⟨h, Y, T, a1, a2, a3, H, M⟩ := I
    exact Or.inl ⟨rfl, rfl, sim_svc (S := mG S 25 0) H M.2.1.2 n 30 0 2 (by omega) M.2.1.2, inv_1 I0 0⟩
  · rw [ck_some r1, r2, if_pos rfl]
    exact thr xIO (by decide) rfl (show (1 : Int32) = _ by decide) (inv_1 I 1)
theorem lin_hi {x y : Int32} : ∀ (j i : Nat) (c : Int32), n ≤ i → e_lin n E x y j i c = c
  | 0, _, _, _ => rfl
  | j + 1, i, c, hi => by
    unfold e_lin
    rw [if_neg (by omega)]
    exact lin_hi j (i + 1) c (by omega)
theorem sim_lin (H : Rel h n E S) (hn : n ≤ 30) {x y : Int32} : ∀ (j j2 i : Nat) (c : Int32), i + j = n → j ≤ j2 → e_lin n E x y j2 i c = m_lin S x y j i c
  | 0, j2, i, c, hi, _ => lin_hi j2 i c (by omega)
  | j + 1, 0, i, c, hi, h2 => absurd h2 (by omega)
  | j + 1, j2 + 1, i, c, hi, h2 => by
    have q1 := (H.2.1 i (by omega)).1.2.1
    have q3 := (H.2.1 i (by omega)).1.2.2.1
    have w4 := (H.2.1 i (by omega)).2.1
    unfold e_lin m_lin
    rw [if_pos (show i < n by omega), nI_clamp (show i < 2 ^ 31 by omega), q1, q3, w4]
    by_cases z : S.2 9 i = x
    · rw [if_pos z, if_pos z]
      by_cases z2 : S.2 12 i = y
      · rw [if_pos z2, if_pos z2]
        exact sim_lin H hn j j2 (i + 1) _ (by omega) (by omega)
      · rw [if_neg z2, if_neg z2, Int32.add_zero]
        exact sim_lin H hn j j2 (i + 1) _ (by omega) (by omega)
    · rw [if_neg z, if_neg z, Int32.add_zero]
      exact sim_lin H hn j j2 (i + 1) _ (by omega) (by omega)
theorem s_leftIn (I : Inv k n E S) {x y : Int32} : SimR k n [xIO, xIA] E (e_leftIn n E x y) (m_leftIn n S x y) := by
  unfold e_leftIn m_leftIn
  rcases acc_or x with ⟨r1, r2⟩ | ⟨r1, r2⟩
  · rcases rng_or y 0 6 with ⟨v1, v2, -, -⟩ | ⟨v1, v2⟩
    · rw [ck_none r1, ck_none v1, r2, v2, if_neg n01, if_neg n01]
      have I0 := I
      obtain ⟨h, Y, T, a1, a2, a3, H, M⟩ := I
      exact Or.inl ⟨rfl, rfl, sim_lin (S := mG S 25 0) H M.2.1.2 n 30 0 0 (by omega) M.2.1.2, inv_1 I0 0⟩
    · rw [ck_none r1, ck_some v1, r2, v2, if_neg n01, if_pos rfl]
      exact thr xIA (by decide) rfl (show (2 : Int32) = _ by decide) (inv_1 I 2)
  · rw [ck_some r1, r2, if_pos rfl]
    exact thr xIO (by decide) rfl (show (1 : Int32) = _ by decide) (inv_1 I 1)
theorem sim_tld (H : Rel h n E S) (M : MI h n Y T S) {x : Int32} (h1 : 0 ≤ x.toInt) (h2 : x.toInt < (S.1 24).toInt) : e_cda E x = m_tld S x := by
  obtain ⟨-, -, -, -, -, -, -, -, g13, g30, -⟩ := H.1
  have e1 : (1 : Int32).toInt = 1 := by decide
  have hT := M.2.2.2.1
  have t1 : (S.1 24 - 1).toInt = (S.1 24).toInt - 1 := by rw [i32_sub (by omega) (by omega), e1]
  have t2 : (S.1 24 - 1 - x).toInt = (S.1 24).toInt - 1 - x.toInt := by rw [i32_sub (by omega) (by omega), t1]
  unfold e_cda m_tld
  rw [g13, g30, fm_nn (by omega) (by decide)]
theorem told_in (H : Rel h n E S) (M : MI h n Y T S) : (e_told E).toInt = if 400 < (S.1 24).toInt then 400 else (S.1 24).toInt := by
  obtain ⟨-, -, -, -, -, -, -, -, g13, g30, -⟩ := H.1
  have e4 : (400 : Int32).toInt = 400 := by decide
  unfold e_told
  rw [g13]
  by_cases z : (400 : Int32) < S.1 24
  · rw [if_pos z, e4]
    rw [i32_lt, e4] at z
    rw [if_pos z]
  · rw [if_neg z]
    rw [i32_lt, e4] at z
    rw [if_neg z]
theorem told_nn (I : Inv k n E S) : 0 ≤ (e_told E).toInt := by
  obtain ⟨h, Y, T, a1, a2, a3, H, M⟩ := I
  have hT := M.2.2.2.1
  rw [told_in H M]
  split <;> omega
theorem s_event (I : Inv k n E S) {x : Int32} : SimR k n [xIO] E (e_event E x) (m_event S x) := by
  have e0 : (0 : Int32).toInt = 0 := by decide
  have e3 : (399 : Int32).toInt = 399 := by decide
  have I0 := I
  obtain ⟨h, Y, T, a1, a2, a3, H, M⟩ := I
  have ht := told_in H M
  unfold e_event m_event m_in
  by_cases h1 : x < 0
  · rw [if_pos h1, if_pos h1, if_pos rfl]
    exact thr xIO (by decide) rfl (show (1 : Int32) = _ by decide) (inv_1 I0 1)
  · have hx := h1
    rw [i32_lt, e0] at hx
    rw [if_neg h1, if_neg h1]
    by_cases h2 : x < e_told E
    · have h2' := h2
      rw [i32_lt, ht] at h2'
      have h3 : ¬ (399 : Int32) < x := by
        rw [i32_lt, e3]
        split at h2' <;> omega
      have h4 : ¬ S.1 24 ≤ x := by
        rw [i32_le]
        split at h2' <;> omega
      rw [if_pos h2, if_neg h3, if_neg n01, if_neg h4]
      refine Or.inl ⟨rfl, rfl, sim_tld (S := mG S 25 0) H (mi_G M 25 _ (by decide)) (by omega) ?_, inv_1 I0 0⟩
      show x.toInt < (S.1 24).toInt
      rw [i32_le] at h4; omega
    · have h2' := h2
      rw [i32_lt, ht] at h2'
      rw [if_neg h2]
      by_cases h3 : (399 : Int32) < x
      · rw [if_pos h3, if_pos rfl]
        exact thr xIO (by decide) rfl (show (1 : Int32) = _ by decide) (inv_1 I0 1)
      · have h4 : S.1 24 ≤ x := by
          rw [i32_lt, e3] at h3
          rw [i32_le]
          split at h2' <;> omega
        rw [if_neg h3, if_neg n01, if_pos h4]
        exact thr xIO (by decide) rfl (show (1 : Int32) = _ by decide) (inv_1 I0 1)
theorem sim_lso (H : Rel h n E S) (M : MI h n Y T S) {p d : Int32} {t : Nat} (ht : (t : Int) = if 400 < (S.1 24).toInt then 400 else (S.1 24).toInt) : ∀ (j j2 i : Nat), i + j = t → i + j2 = 400 → e_lso E p d j (nI i) = m_lso S p d j2 i
  | 0, 0, i, _, _ => rfl
  | 0, j2 + 1, i, hi, h2 => by
    unfold e_lso m_lso
    have : S.1 24 ≤ nI i := by
      rw [i32_le, nI_toInt (by omega)]
      split at ht <;> omega
    rw [if_pos this]
  | j + 1, 0, i, hi, h2 => by
    exfalso
    split at ht <;> omega
  | j + 1, j2 + 1, i, hi, h2 => by
    have hlt : (i : Int) < (S.1 24).toInt := by split at ht <;> omega
    have h4 : ¬ S.1 24 ≤ nI i := by rw [i32_le, nI_toInt (by omega)]; omega
    have et := sim_tld H M (x := nI i) (by rw [nI_toInt (by omega)]; omega) (by rw [nI_toInt (by omega)]; omega)
    unfold e_lso m_lso
    rw [if_neg h4, et, nI_1]
    have ih := sim_lso H M (p := p) (d := d) ht j j2 (i + 1) (by omega) (by omega)
    rw [ih]
    by_cases z : (m_tld S (nI i) - m_tld S (nI i) / 1000 * 1000) / 10 = p
    · rw [if_pos z, if_pos z]
    · rw [if_neg z, if_neg z]
      split <;> rfl
theorem s_stateAt (I : Inv k n E S) {p d : Int32} : SimR k n [xIO, xIA] E (e_stateAt n E p d) (m_stateAt S p d) := by
  unfold e_stateAt m_stateAt
  have I0 := I
  obtain ⟨h, Y, T, a1, a2, a3, H, M⟩ := I
  have hn := M.2.1.2
  have hT := M.2.2.2.1
  have hday := H.1.2.1
  rcases fb_or M p with ⟨r1, r2, b, hb, rfl⟩ | ⟨r1, r2⟩
  · rw [ck_none r1, r2]
    dsimp only
    rw [if_neg n01, hday, show (mG S 25 0).1 0 = S.1 0 from rfl]
    rcases rng_or d 0 (S.1 0) with ⟨v1, v2, -, -⟩ | ⟨v1, v2⟩
    · rw [ck_none v1, v2, if_neg n01]
      have ht := told_in H M
      obtain ⟨t, ht2⟩ : ∃ t : Nat, (e_told E).toNatClampNeg = t := ⟨_, rfl⟩
      have ht3 : (t : Int) = if 400 < (S.1 24).toInt then 400 else (S.1 24).toInt := by
        rw [← ht, ← ht2]
        show ((e_told E).toInt.toNat : Int) = _
        have : 0 ≤ (e_told E).toInt := told_nn I0
        omega
      rw [ht2]
      refine Or.inl ⟨rfl, rfl, ?_, inv_2 I0 0 0⟩
      exact sim_lso (S := mG (mG S 25 0) 25 0) H (mi_G (mi_G M 25 _ (by decide)) 25 _ (by decide)) ht3 t 400 0 (by omega) (by omega)
    · rw [ck_some v1, v2, if_pos rfl]
      exact thr xIA (by decide) rfl (show (2 : Int32) = _ by decide) (inv_2 I0 0 2)
  · rw [ck_some r1, r2]
    dsimp only
    rw [if_pos rfl]
    exact thr xIO (by decide) rfl (show (1 : Int32) = _ by decide) (inv_1 I0 1)
/-! a new bill -/
theorem ob_c {E' : ES} {S' : MS} {c : Nat} (hO : OB E E' S S' b) (hcb : c ≠ b) (H : RC E S c ∧ RW E S c) : RC E' S' c ∧ RW E' S' c := by
  obtain ⟨o1, o2, o3, o4⟩ := hO
  have e := fun k hk => o1 k c hcb hk
  have f := fun k h1 h2 h3 => o3 k c hcb h1 h2 h3
  obtain ⟨⟨q0, q1, q3, q6, q7, q8, q9, q10, qf, qi, qj⟩, w4, w5⟩ := H
  refine ⟨⟨?_, ?_, ?_, ?_, ?_, ?_, ?_, ?_, fun k hk => ?_, ?_, ?_⟩, ?_, ?_⟩
  · rw [e 0 (by decide)]; exact q0
  · rw [e 1 (by decide), f 9 (by decide) (by decide) (by decide)]; exact q1
  · rw [e 3 (by decide), f 11 (by decide) (by decide) (by decide)]; exact q3
  · rw [e 6 (by decide), f 14 (by decide) (by decide) (by decide)]; exact q6
  · rw [e 7 (by decide), f 16 (by decide) (by decide) (by decide)]; exact q7
  · rw [e 8 (by decide), f 17 (by decide) (by decide) (by decide)]; exact q8
  · rw [e 9 (by decide), f 18 (by decide) (by decide) (by decide)]; exact q9
  · rw [e 10 (by decide), f 19 (by decide) (by decide) (by decide)]; exact q10
  · rw [o2 c hcb, o4 c k hcb hk]; exact qf k hk
  · rw [f 16 (by decide) (by decide) (by decide)]; exact qi
  · rw [f 18 (by decide) (by decide) (by decide)]; exact qj
  · rw [e 4 (by decide), f 12 (by decide) (by decide) (by decide)]; exact w4
  · rw [e 5 (by decide), f 12 (by decide) (by decide) (by decide), f 13 (by decide) (by decide) (by decide)]; exact w5
theorem ob_z {E' : ES} {S' : MS} {c : Nat} (hO : OB E E' S S' b) (hcb : c ≠ b) (H : RZ S c) : RZ S' c := by
  obtain ⟨o1, o2, o3, o4⟩ := hO
  have f := fun k h1 h2 h3 => o3 k c hcb h1 h2 h3
  obtain ⟨z1, z2, z3, z4, z5, z6⟩ := H
  refine ⟨?_, ?_, ?_, ?_, ?_, fun k hk => ?_⟩
  · rw [f 14 (by decide) (by decide) (by decide)]; exact z1
  · rw [f 16 (by decide) (by decide) (by decide)]; exact z2
  · rw [f 17 (by decide) (by decide) (by decide)]; exact z3
  · rw [f 18 (by decide) (by decide) (by decide)]; exact z4
  · rw [f 19 (by decide) (by decide) (by decide)]; exact z5
  · rw [o4 c k hcb hk]; exact z6 k hk
theorem bl_snoc (f : Nat → Int32) : ∀ (j i : Nat) (c : Int32), i + j < 2 ^ 31 → bl f (j + 1) i c = bl f j i c + f (i + j)
  | 0, i, c, hj => by
    unfold bl bl
    rw [nI_clamp (by omega)]
    rfl
  | j + 1, i, c, hj => by
    rw [bl, bl_snoc f j (i + 1) _ (by omega)]
    rw [show i + 1 + j = i + (j + 1) by omega]
    rfl
theorem bl_u (f : Nat → Int32) (v : Int32) {m : Nat} : ∀ (j i : Nat) (c : Int32), i + j ≤ m → m < 2 ^ 31 → bl (upd f m v) j i c = bl f j i c
  | 0, _, _, _, _ => rfl
  | j + 1, i, c, hj, hm => by
    unfold bl
    rw [nI_clamp (show i < 2 ^ 31 by omega), upd, if_neg (by omega)]
    exact bl_u f v j (i + 1) _ (by omega) hm
def m_b4 (S : MS) (n : Nat) (x v : Int32) : MS := mA (mA (mA (mG (mG S 25 0) 8 (S.1 8 + 1)) 9 n x) 10 n v) 11 n v
theorem sim_bill (H : Rel h n E S) (M : MI h n Y T S) (hn : n < 30) {x v : Int32} : Rel h (n + 1) (e_billE E n x v) (m_enter (mA (m_b4 S n x v) 13 n (m_cf (m_b4 S n x v) 1000 (S.1 0 + 1))) (nI n) 0) ∧ MI h (n + 1) Y T (mA (m_b4 S n x v) 13 n (m_cf (m_b4 S n x v) 1000 (S.1 0 + 1))) := by
  have M4 : MI h (n + 1) Y T (m_b4 S n x v) := mi_A (mi_A (mi_A (mi_n (mi_G M 25 0 (by decide)) hn) 9 _ _ (by decide)) 10 _ _ (by decide)) 11 _ _ (by decide)
  have M5 := mi_A M4 13 n (m_cf (m_b4 S n x v) 1000 (S.1 0 + 1)) (by decide)
  refine ⟨?_, M5⟩
  have hn1 := now_cf M
  have hY := M.2.2.1
  have hhi : ∀ k, 10 < k → k ≠ 40 + n → (e_bill1 E n x v).2.1 k = E.2.1 k := fun k h1 h2 => e_bill0_hi E n x v k h1 h2
  have G4 : RG h (n + 1) (e_bill1 E n x v) (m_b4 S n x v) := by
    obtain ⟨g4, g5, g6, g7, g8, g9, g10, g11, g13, g30, p0, p1, p2, p3, gw, gh⟩ := H.1
    refine ⟨?_, g5, g6, g7, ?_, g9, g10, g11, g13, (hhi 30 (by decide) (by omega)).trans g30, ⟨p0.1, fun j hj => by rw [hhi _ (by decide) (by omega)]; exact p0.2.1 j hj, p0.2.2⟩, ⟨p1.1, fun j hj => by rw [hhi _ (by decide) (by omega)]; exact p1.2.1 j hj, p1.2.2⟩, ⟨p2.1, fun j hj => by rw [hhi _ (by decide) (by omega)]; exact p2.2.1 j hj, p2.2.2⟩, ⟨p3.1, fun j hj => by rw [hhi _ (by decide) (by omega)]; exact p3.2.1 j hj, p3.2.2⟩, gw, gh⟩
    · show nI n + 1 = S.1 8 + 1
      rw [M.2.1.1]
    · show E.1 8 + v = bl (upd (S.2 10) n v) (n + 1) 0 0
      rw [bl_snoc _ n 0 0 (by omega), bl_u _ _ n 0 0 (by omega) (by omega), g8, Nat.zero_add, upd, if_pos rfl]
  have hO : OB E (e_bill1 E n x v) S (mA (m_b4 S n x v) 13 n (m_cf (m_b4 S n x v) 1000 (S.1 0 + 1))) n := by
    have q1 : OB E (e_bill1 E n x v) S S n := ⟨fun k c hc hk => e_bill0_lo E n x v k c hk hc, fun c hc => hhi (40 + c) (by omega) (by omega), fun _ _ _ _ _ _ => rfl, fun _ _ _ _ => rfl⟩
    exact ob_mA (ob_mA (ob_mA (ob_mA (ob_mG (ob_mG q1)) (by decide)) (by decide)) (by decide)) (by decide)
  have hb := fun k hk => e_bill0_n E n x v k hk
  have hX : RX h (n + 1) (e_bill1 E n x v) (mA (m_b4 S n x v) 13 n (m_cf (m_b4 S n x v) 1000 (S.1 0 + 1))) n := by
    refine ⟨G4, ?_, fun c hc hcn => ob_c hO hcn (H.2.1 c (by omega)), fun c h1 h2 => ob_z hO (by omega) (H.2.2 c (by omega) h2)⟩
    obtain ⟨z1, z2, z3, z4, z5, z6⟩ := H.2.2 n (Nat.le_refl n) hn
    refine ⟨hb 0 (by decide), ?_, ?_, (hb 6 (by decide)).trans z1.symm, (hb 7 (by decide)).trans z2.symm, (hb 8 (by decide)).trans z3.symm, (hb 9 (by decide)).trans z4.symm, (hb 10 (by decide)).trans z5.symm, fun k hk => ?_, ?_, Or.inl z4⟩
    · refine (hb 1 (by decide)).trans ?_
      show x = (mA (mG (mG S 25 0) 8 (S.1 8 + 1)) 9 n x).2 9 n
      exact mA_s.symm
    · refine (hb 3 (by decide)).trans ?_
      show v = (m_b4 S n x v).2 11 n
      exact (mA_s (k0 := 11)).symm
    · exact (congrFun (e_bill0_f E n x v) k).trans (z6 k hk).symm
    · have : (mA (m_b4 S n x v) 13 n (m_cf (m_b4 S n x v) 1000 (S.1 0 + 1))).2 16 n = 0 := z2
      rw [this]; decide
  refine sim_enter hX (Nat.lt_succ_self n) hn M5 ?_
  rw [wf_0, mA_s]
  have e5 : (e_bill1 E n x v).1 5 = S.1 0 := H.1.2.1
  rw [e5]
  exact sim_fcf G4 M4 1000 _ (by omega) (by omega)
theorem s_bill (I : Inv k n E S) (hk : k < 512) {x v : Int32} : (e_billT E x v = none ∧ n < 30 ∧ (m_bill S x v).2.1 25 = 0 ∧ nI n = (m_bill S x v).1 ∧ Inv (k + 1) (n + 1) (e_billE E n x v) (m_bill S x v).2) ∨ ∃ t, t ∈ [xIO, xIA, xIS] ∧ e_billT E x v = some t ∧ (m_bill S x v).2.1 25 = wc [xIO, xIA, xIS] t ∧ Inv (k + 1) n E (m_bill S x v).2 := by
  unfold e_billT m_bill
  have I0 := I
  obtain ⟨h, Y, T, a1, a2, a3, H, M⟩ := I
  have hn := M.2.1.2
  rcases acc_or x with ⟨r1, r2⟩ | ⟨r1, r2⟩
  · rcases rng_or v 1 9999 with ⟨v1, v2, -, -⟩ | ⟨v1, v2⟩
    · rw [r1, v1, r2, v2, if_neg n01, if_neg n01]
      dsimp only
      rw [H.1.1, M.2.1.1, if_neg (nI_pos (by omega))]
      by_cases z : n < 30
      · have z1 : nI n < 30 := nI_lt (b := 30) z (by decide)
        have z2 : ¬ nI n = 30 := fun w => by have := (nI_eq (b := 30) (by omega) (by decide)).mp w; omega
        rw [if_pos z1, if_neg z2]
        obtain ⟨R1, R2⟩ := sim_bill H M z (x := x) (v := v)
        have e8 : (mG S 25 0).1 8 = nI n := M.2.1.1
        have cn : (nI n).toNatClampNeg = n := nI_clamp (by omega)
        rw [e8, cn]
        have eb : mA (mA (mA (mG (mG S 25 0) 8 (nI n + 1)) 9 n x) 10 n v) 11 n v = m_b4 S n x v := by unfold m_b4; rw [M.2.1.1]
        rw [eb]
        exact Or.inl ⟨rfl, z, rfl, rfl, Inv.mk R1 (mi_enter R2 (by omega) _ _) (by omega) (by omega) (by omega)⟩
      · have hn30 : n = 30 := by omega
        subst hn30
        rw [if_neg (by decide), if_pos (show nI 30 = 30 from rfl)]
        exact Or.inr ⟨xIS, by decide, rfl, (show (3 : Int32) = _ by decide), inv_1 I0 3⟩
    · rw [r1, v1, r2, v2, if_neg n01, if_pos rfl]
      exact Or.inr ⟨xIA, by decide, rfl, (show (2 : Int32) = _ by decide), inv_1 I0 2⟩
  · rw [r1, r2, if_pos rfl]
    exact Or.inr ⟨xIO, by decide, rfl, (show (1 : Int32) = _ by decide), inv_1 I0 1⟩
end SIM6
