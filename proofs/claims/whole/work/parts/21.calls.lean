section SIM5
variable {h n b k : Nat} {Y T : Int} {E : ES} {S : MS}
theorem sim_prom (H : Rel h n E S) (M : MI h n Y T S) (hb : b < n) (hn : n ≤ 30) {v : Int32} (hs : S.2 12 b = 0 ∨ S.2 12 b = 2 ∨ S.2 12 b = 3) (h7 : ¬ S.2 16 b = 2) : Rel h n (e_prom1 E b v) (m_prom1 S (nI b) v).2 ∧ (e_prom1 E b v).2.1 5 b = (m_prom1 S (nI b) v).1 := by
  have cb : (nI b).toNatClampNeg = b := nI_clamp (by omega)
  obtain ⟨⟨q0, q1, q3, q6, q7, q8, q9, q10, qf, qi, qj⟩, w4, w5⟩ := H.2.1 b hb
  have e1 : (1 : Int32).toInt = 1 := by decide
  have e2 : (2 : Int32).toInt = 2 := by decide
  have h72 : ¬ (S.2 16 b).toInt = 2 := fun z => h7 (Int32.toInt_inj.mp (by rw [z, e2]))
  have hinc := i32_inc (a := S.2 16 b) (by omega)
  have w5' : E.2.1 5 b = S.2 13 b := by
    rw [w5]
    rcases hs with z | z | z
    · rw [z, wf_0]
    · rw [z, wf_2]
    · rw [z, wf_3]
  have hX : RX h n (eV (eV (eV E 7 b (E.2.1 7 b + 1)) 9 b (E.2.1 4 b)) 10 b (E.2.1 5 b - E.1 5)) (mA (mA (mA (mA S 16 b (S.2 16 b + 1)) 18 b (S.2 12 b)) 19 b (S.2 13 b - S.1 0)) 13 b (S.1 0 + v)) b := by
    refine rx_of (H.x hb) hb H.1 ⟨q0, q1, q3, q6, ?_, q8, ?_, ?_, fun k hk => ?_, ?_, ?_⟩ (ob_mA (ob_mA (ob_mA (ob_mA (ob_eV (ob_eV (ob_eV ob_rf (Or.inl (by decide))) (Or.inl (by decide))) (Or.inl (by decide))) (by decide)) (by decide)) (by decide)) (by decide))
    · show (eV E 7 b (E.2.1 7 b + 1)).2.1 7 b = (mA S 16 b (S.2 16 b + 1)).2 16 b
      rw [eV_s, mA_s, q7]
    · show (eV (eV E 7 b (E.2.1 7 b + 1)) 9 b (E.2.1 4 b)).2.1 9 b = (mA (mA S 16 b (S.2 16 b + 1)) 18 b (S.2 12 b)).2 18 b
      rw [eV_s, mA_s, w4]
    · show _ = (mA (mA (mA S 16 b (S.2 16 b + 1)) 18 b (S.2 12 b)) 19 b (S.2 13 b - S.1 0)).2 19 b
      rw [eV_s, mA_s, w5', H.1.2.1]
    · exact (congrFun ((eV_r (by omega)).trans ((eV_r (by omega)).trans (eV_r (by omega)))) k).trans (qf k hk)
    · have t : (mA (mA (mA (mA S 16 b (S.2 16 b + 1)) 18 b (S.2 12 b)) 19 b (S.2 13 b - S.1 0)) 13 b (S.1 0 + v)).2 16 b = S.2 16 b + 1 := by
        show (mA S 16 b (S.2 16 b + 1)).2 16 b = _
        exact mA_s
      rw [t, hinc]
      omega
    · have t : (mA (mA (mA (mA S 16 b (S.2 16 b + 1)) 18 b (S.2 12 b)) 19 b (S.2 13 b - S.1 0)) 13 b (S.1 0 + v)).2 18 b = S.2 12 b := by
        show (mA (mA S 16 b (S.2 16 b + 1)) 18 b (S.2 12 b)).2 18 b = _
        exact mA_s
      rw [t]; exact hs
  have M2 : MI h n Y T (mA (mA (mA (mA S 16 b (S.2 16 b + 1)) 18 b (S.2 12 b)) 19 b (S.2 13 b - S.1 0)) 13 b (S.1 0 + v)) := mi_A (mi_A (mi_A (mi_A M 16 _ _ (by decide)) 18 _ _ (by decide)) 19 _ _ (by decide)) 13 _ _ (by decide)
  have ee : e_prom1 E b v = e_enter (eV (eV (eV E 7 b (E.2.1 7 b + 1)) 9 b (E.2.1 4 b)) 10 b (E.2.1 5 b - E.1 5)) b 4 (E.1 5 + v) := rfl
  have em : m_prom1 S (nI b) v = ((m_enter (mA (mA (mA (mA S 16 b (S.2 16 b + 1)) 18 b (S.2 12 b)) 19 b (S.2 13 b - S.1 0)) 13 b (S.1 0 + v)) (nI b) 4).2 13 b, m_enter (mA (mA (mA (mA S 16 b (S.2 16 b + 1)) 18 b (S.2 12 b)) 19 b (S.2 13 b - S.1 0)) 13 b (S.1 0 + v)) (nI b) 4) := by
    unfold m_prom1
    rw [cb]
    rfl
  have R := sim_enter (s := 4) (wd := E.1 5 + v) hX hb hn M2 (by rw [wf_4, mA_s, H.1.2.1])
  rw [ee, em]
  refine ⟨R, ?_⟩
  have w := (R.2.1 b hb).2.2
  have t12 : (m_enter (mA (mA (mA (mA S 16 b (S.2 16 b + 1)) 18 b (S.2 12 b)) 19 b (S.2 13 b - S.1 0)) 13 b (S.1 0 + v)) (nI b) 4).2 12 b = 4 := by
    unfold m_enter
    rw [cb]
    exact mA_s (k0 := 12)
  rw [t12, wf_4] at w
  exact w
theorem mi_prom (M : MI h n Y T S) (hT : T + 1 ≤ 1000000000) (p v : Int32) : MI h n Y (T + 1) (m_prom1 S p v).2 := mi_enter (mi_A (mi_A (mi_A (mi_A M 16 _ _ (by decide)) 18 _ _ (by decide)) 19 _ _ (by decide)) 13 _ _ (by decide)) hT _ _
theorem s_promise (I : Inv k n E S) (hk : k < 512) {p v : Int32} : SimR k n [xIO, xIA, xIS] E (e_promise n E p v) (m_promise S p v) := by
  unfold e_promise m_promise
  have I0 := I
  obtain ⟨h, Y, T, a1, a2, a3, H, M⟩ := I
  have hn := M.2.1.2
  rcases fb_or M p with ⟨r1, r2, b, hb, rfl⟩ | ⟨r1, r2⟩
  · rw [ck_none r1, r2]
    dsimp only
    rw [if_neg n01]
    have cb : (nI b).toNatClampNeg = b := nI_clamp (by omega)
    obtain ⟨⟨q0, q1, q3, q6, q7, q8, q9, q10, qf, qi, qj⟩, w4, w5⟩ := H.2.1 b hb
    rw [cb, w4, show (mG S 25 0).2 12 b = S.2 12 b from rfl]
    have P : (S.2 12 b = 0 ∨ S.2 12 b = 2 ∨ S.2 12 b = 3) → SimR k n [xIO, xIA, xIS] E (ck (e_rng v 1 30) E (e_prom0 E b v)) (m_prom0 (mG S 25 0) (nI b) v) := fun hs => by
      unfold m_prom0 e_prom0
      rcases rng_or v 1 30 with ⟨v1, v2, v3, v4⟩ | ⟨v1, v2⟩
      · rw [ck_none v1, v2, if_neg n01, cb, q7, show (mG S 25 0).2 16 b = S.2 16 b from rfl]
        have e2 : (2 : Int32).toInt = 2 := by decide
        by_cases z : S.2 16 b = 2
        · rw [if_pos z, if_neg (by rw [z]; decide)]
          exact thr xIS (by decide) rfl (show (3 : Int32) = _ by decide) (inv_2 I0 0 3)
        · have z2 : S.2 16 b < 2 := by
            rw [i32_lt, e2]
            have : ¬ (S.2 16 b).toInt = 2 := fun w => z (Int32.toInt_inj.mp (by rw [w, e2]))
            omega
          rw [if_neg z, if_pos z2]
          have M2 : MI h n Y T (mG (mG S 25 0) 25 0) := mi_G (mi_G M 25 _ (by decide)) 25 _ (by decide)
          obtain ⟨R1, R2⟩ := sim_prom (S := mG (mG S 25 0) 25 0) (v := v) H M2 hb hn hs z
          exact Or.inl ⟨rfl, rfl, R2, Inv.mk R1 (mi_prom M2 (by omega) _ _) (by omega) (by omega) (by omega)⟩
      · rw [ck_some v1, v2, if_pos rfl]
        exact thr xIA (by decide) rfl (show (2 : Int32) = _ by decide) (inv_2 I0 0 2)
    by_cases z0 : S.2 12 b = 0
    · rw [if_pos z0, if_pos z0]; exact P (Or.inl z0)
    · rw [if_neg z0, if_neg z0]
      by_cases z2 : S.2 12 b = 2
      · rw [if_pos z2, if_pos z2]; exact P (Or.inr (Or.inl z2))
      · rw [if_neg z2, if_neg z2]
        by_cases z3 : S.2 12 b = 3
        · rw [if_pos z3, if_pos z3]; exact P (Or.inr (Or.inr z3))
        · rw [if_neg z3, if_neg z3]
          rcases rng_or v 1 30 with ⟨v1, v2, v3, v4⟩ | ⟨v1, v2⟩
          · rw [ck_none v1, v2, if_neg n01]
            exact thr xIS (by decide) rfl (show (3 : Int32) = _ by decide) (inv_2 I0 0 3)
          · rw [ck_some v1, v2, if_pos rfl]
            exact thr xIA (by decide) rfl (show (2 : Int32) = _ by decide) (inv_2 I0 0 2)
  · rw [ck_some r1, r2]
    dsimp only
    rw [if_pos rfl]
    exact thr xIO (by decide) rfl (show (1 : Int32) = _ by decide) (inv_1 I0 1)
theorem th_days : ∀ (j : Nat) (c : Int32) (S : MS), (m_days n j c S).2.1 25 = S.1 25
  | 0, _, _ => rfl
  | j + 1, c, S => by
    unfold m_days
    rw [th_days j _ _, th_day]
theorem s_pass (I : Inv k n E S) (hk : k < 512) {p : Int32} : SimR k n [xIA] E (e_pass n E p) (m_pass n S p) := by
  unfold e_pass m_pass
  have I0 := I
  obtain ⟨h, Y, T, a1, a2, a3, H, M⟩ := I
  have hn := M.2.1.2
  have e1 : (1 : Int32).toInt = 1 := by decide
  have e60 : (60 : Int32).toInt = 60 := by decide
  rcases rng_or p 1 60 with ⟨r1, r2, r3, r4⟩ | ⟨r1, r2⟩
  · rw [ck_none r1, r2, if_neg n01]
    obtain ⟨j, hj, rfl⟩ := nI_of (x := p) (by rw [i32_lt, show (0 : Int32).toInt = 0 from by decide]; omega)
    rw [nI_toInt hj] at r3 r4
    rw [nI_clamp hj]
    have M2 : MI h n Y T (mG S 25 0) := mi_G M 25 _ (by decide)
    obtain ⟨d1, d2⟩ := sim_days (S := mG S 25 0) hn j 0 H M2 (by omega) (by omega)
    exact Or.inl ⟨rfl, th_days j 0 _, d1, Inv.mk d2 (mi_days j 0 M2 (by omega) (by omega)) (by omega) (by omega) (by omega)⟩
  · rw [ck_some r1, r2, if_pos rfl]
    exact thr xIA (by decide) rfl (show (1 : Int32) = _ by decide) (inv_1 I0 1)
theorem s_isCharging (I : Inv k n E S) {d : Int32} : SimR k n [xIA] E (e_isCharging E d) (m_isCharging S d) := by
  unfold e_isCharging m_isCharging
  rcases rng_or d 0 1000000 with ⟨r1, r2, r3, r4⟩ | ⟨r1, r2⟩
  · rw [ck_none r1, r2, if_neg n01]
    have I0 := I
    obtain ⟨h, Y, T, a1, a2, a3, H, M⟩ := I
    exact Or.inl ⟨rfl, rfl, sim_chg (S := mG S 25 0) H.1 (mi_G M 25 _ (by decide)) (by rw [show (0 : Int32).toInt = 0 from by decide] at r3; exact r3), inv_1 I0 0⟩
  · rw [ck_some r1, r2, if_pos rfl]
    exact thr xIA (by decide) rfl (show (1 : Int32) = _ by decide) (inv_1 I 1)
theorem s_bf {q q2 : Nat} (hq : ∀ h E S b, b < n → Rel h n E S → E.2.1 q b = S.2 q2 b) (I : Inv k n E S) {p : Int32} : SimR k n [xIO] E (e_bf n E q p) (m_bf S q2 p) := by
  unfold e_bf m_bf
  have I0 := I
  obtain ⟨h, Y, T, a1, a2, a3, H, M⟩ := I
  have hn := M.2.1.2
  rcases fb_or M p with ⟨r1, r2, b, hb, rfl⟩ | ⟨r1, r2⟩
  · rw [ck_none r1, r2]
    dsimp only
    rw [if_neg n01, nI_clamp (by omega)]
    exact Or.inl ⟨rfl, rfl, hq h E S b hb H, inv_1 I0 0⟩
  · rw [ck_some r1, r2]
    dsimp only
    rw [if_pos rfl]
    exact thr xIO (by decide) rfl (show (1 : Int32) = _ by decide) (inv_1 I0 1)
theorem s_stateOf (I : Inv k n E S) {p : Int32} : SimR k n [xIO] E (e_bf n E 4 p) (m_bf S 12 p) := s_bf (fun h E S b hb H => (H.2.1 b hb).2.1) I
theorem s_left (I : Inv k n E S) {p : Int32} : SimR k n [xIO] E (e_bf n E 3 p) (m_bf S 11 p) := s_bf (fun h E S b hb H => (H.2.1 b hb).1.2.2.1) I
theorem s_tries (I : Inv k n E S) {p : Int32} : SimR k n [xIO] E (e_bf n E 6 p) (m_bf S 14 p) := s_bf (fun h E S b hb H => (H.2.1 b hb).1.2.2.2.1) I
theorem s_broken (I : Inv k n E S) {p : Int32} : SimR k n [xIO] E (e_bf n E 8 p) (m_bf S 17 p) := s_bf (fun h E S b hb H => (H.2.1 b hb).1.2.2.2.2.2.1) I
theorem s_waitsFor (I : Inv k n E S) {p : Int32} : SimR k n [xIO] E (e_bf n E 5 p) (m_waitsFor S p) := by
  unfold e_bf m_waitsFor
  have I0 := I
  obtain ⟨h, Y, T, a1, a2, a3, H, M⟩ := I
  have hn := M.2.1.2
  rcases fb_or M p with ⟨r1, r2, b, hb, rfl⟩ | ⟨r1, r2⟩
  · rw [ck_none r1, r2]
    dsimp only
    rw [if_neg n01, nI_clamp (by omega), show (mG S 25 0).2 12 b = S.2 12 b from rfl, show (mG S 25 0).2 13 b = S.2 13 b from rfl]
    have w5 := (H.2.1 b hb).2.2
    unfold wf at w5
    by_cases z1 : S.2 12 b = 1
    · rw [if_pos z1] at w5 ⊢
      exact Or.inl ⟨rfl, rfl, w5, inv_1 I0 0⟩
    · rw [if_neg z1] at w5 ⊢
      by_cases z5 : S.2 12 b = 5
      · rw [if_pos z5] at w5 ⊢
        exact Or.inl ⟨rfl, rfl, w5, inv_1 I0 0⟩
      · rw [if_neg z5] at w5 ⊢
        by_cases z6 : S.2 12 b = 6
        · rw [if_pos z6] at w5 ⊢
          exact Or.inl ⟨rfl, rfl, w5, inv_1 I0 0⟩
        · rw [if_neg z6] at w5 ⊢
          exact Or.inl ⟨rfl, rfl, w5, inv_1 I0 0⟩
  · rw [ck_some r1, r2]
    dsimp only
    rw [if_pos rfl]
    exact thr xIO (by decide) rfl (show (1 : Int32) = _ by decide) (inv_1 I0 1)
theorem s_failures (I : Inv k n E S) {p r : Int32} : SimR k n [xIO] E (e_failures n E p r) (m_failures S p r) := by
  unfold e_failures m_failures
  have I0 := I
  obtain ⟨h, Y, T, a1, a2, a3, H, M⟩ := I
  have hn := M.2.1.2
  rcases fb_or M p with ⟨r1, r2, b, hb, rfl⟩ | ⟨r1, r2⟩
  · have r3 : ¬ m_in (nI b) 0 (S.1 8 - 1) = 0 := fun z => by
      rw [m_isBill, if_pos z] at r2
      exact absurd (show (0 : Int32) = 1 from congrArg Prod.fst r2) (by decide)
    rw [ck_none r1, if_neg r3]
    rcases rsn_or r with ⟨v1, v2, i, hi, rfl⟩ | ⟨v1, v2⟩
    · have ci : (nI (i + 1) - 1).toNatClampNeg = i := by rw [nI_pred]; exact nI_clamp (by omega)
      rw [ck_none v1, v2, if_neg n01, nI_clamp (show b < 2 ^ 31 by omega), ci, c15 b (by omega) (i + 1) (by omega)]
      exact Or.inl ⟨rfl, rfl, (H.2.1 b hb).1.2.2.2.2.2.2.2.2.1 i hi, inv_1 I0 0⟩
    · rw [ck_some v1, v2, if_pos rfl]
      exact thr xIO (by decide) rfl (show (1 : Int32) = _ by decide) (inv_1 I0 1)
  · have r3 : m_in p 0 (S.1 8 - 1) = 0 := by
      by_cases z : m_in p 0 (S.1 8 - 1) = 0
      · exact z
      · rw [m_isBill, if_neg z] at r2
        exact absurd (show (1 : Int32) = 0 from congrArg Prod.fst r2) (by decide)
    rw [ck_some r1, if_pos r3]
    exact thr xIO (by decide) rfl (show (1 : Int32) = _ by decide) (inv_1 I0 1)
end SIM5
