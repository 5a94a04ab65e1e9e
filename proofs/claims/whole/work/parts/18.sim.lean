section SIM2
variable {h n b : Nat} {Y T : Int} {E : ES} {S : MS}
theorem RG.gp (G : RG h n E S) : ∀ {i : Nat}, i < 4 → RGp E S i := by
  obtain ⟨-, -, -, -, -, -, -, -, -, -, p0, p1, p2, p3, -, -⟩ := G
  intro i hi
  match i, hi with
  | 0, _ => exact p0
  | 1, _ => exact p1
  | 2, _ => exact p2
  | 3, _ => exact p3
  | i + 4, h => exact absurd h (by omega)
theorem rx_13 (H : RX h n E S b) (hb : b < n) (v : Int32) : RX h n E (mA S 13 b v) b := rx_of H hb H.1 H.2.1 (ob_mA ob_rf (by decide))
theorem wf_0 (d : Int32) : wf 0 d = d := by unfold wf; rw [if_neg (by decide), if_neg (by decide), if_neg (by decide)]
theorem wf_2 (d : Int32) : wf 2 d = d := by unfold wf; rw [if_neg (by decide), if_neg (by decide), if_neg (by decide)]
theorem wf_3 (d : Int32) : wf 3 d = d := by unfold wf; rw [if_neg (by decide), if_neg (by decide), if_neg (by decide)]
theorem wf_4 (d : Int32) : wf 4 d = d := by unfold wf; rw [if_neg (by decide), if_neg (by decide), if_neg (by decide)]
theorem wf_1 (d : Int32) : wf 1 d = -1 := by unfold wf; rw [if_pos (by decide)]
theorem wf_5 (d : Int32) : wf 5 d = -1 := by unfold wf; rw [if_neg (by decide), if_pos (by decide)]
theorem wf_6 (d : Int32) : wf 6 d = -1 := by unfold wf; rw [if_neg (by decide), if_neg (by decide), if_pos (by decide)]
theorem sim_take {S1 : MS} (H : Rel h n E S) (hb : b < n) (hn : n ≤ 30) (M : MI h n Y T S1) {v : Int32} (h1 : S1.2 = S.2) (h2 : ∀ k, k ≠ 22 → k ≠ 25 → S1.1 k = S.1 k) (h3 : S1.1 22 = S.1 22 + (if S.2 12 b = 5 then v else 0)) : Rel h n (e_take E b v) (m_recv S1 (nI b) v) := by
  have cb : (nI b).toNatClampNeg = b := nI_clamp (by omega)
  obtain ⟨⟨q0, q1, q3, q6, q7, q8, q9, q10, qf, qi, qj⟩, w4, w5⟩ := H.2.1 b hb
  obtain ⟨g4, g5, g6, g7, g8, g9, g10, g11, g13, g30, p0, p1, p2, p3, gw, gh⟩ := H.1
  obtain ⟨S1a, S1b⟩ := S1
  have h1 : S1b = S.2 := h1
  subst h1
  have hx := h2
  have e3 : ∀ E9 : ES, E9.2 = (eV E 3 b (E.2.1 3 b - v)).2 → E9.1 4 = E.1 4 → E9.1 5 = E.1 5 → E9.1 6 = E.1 6 → E9.1 7 = E.1 7 → E9.1 8 = E.1 8 → E9.1 9 = E.1 9 + v → E9.1 10 = E.1 10 → E9.1 11 = S1a 22 → (∀ k, 12 ≤ k → E9.1 k = E.1 k) → RX h n E9 (mG (mA (S1a, S.2) 11 b (S.2 11 b - v)) 20 (S1a 20 + v)) b := by
    intro E9 f2 f4 f5 f6 f7 f8 f9 f10 f11 f12
    obtain ⟨E9a, E9b⟩ := E9
    have f2 : E9b = (eV E 3 b (E.2.1 3 b - v)).2 := f2
    subst f2
    refine rx_of (H.x hb) hb ⟨?_, ?_, ?_, ?_, ?_, ?_, ?_, ?_, ?_, g30, ?_, ?_, ?_, ?_, ?_, gh⟩ ⟨q0, q1, ?_, q6, q7, q8, q9, q10, fun k hk => ?_, qi, qj⟩ ?_
    · exact f4.trans (g4.trans (hx 8 (by decide) (by decide)).symm)
    · exact f5.trans (g5.trans (hx 0 (by decide) (by decide)).symm)
    · exact f6.trans (g6.trans (hx 6 (by decide) (by decide)).symm)
    · exact f7.trans (g7.trans (hx 7 (by decide) (by decide)).symm)
    · exact f8.trans g8
    · exact f9.trans (by rw [g9]; show S.1 20 + v = S1a 20 + v; rw [show S1a 20 = S.1 20 from hx 20 (by decide) (by decide)])
    · exact f10.trans (g10.trans (hx 21 (by decide) (by decide)).symm)
    · exact f11
    · exact (f12 13 (by decide)).trans (g13.trans (hx 24 (by decide) (by decide)).symm)
    · exact ⟨(f12 14 (by decide)).trans p0.1, p0.2⟩
    · exact ⟨(f12 15 (by decide)).trans p1.1, p1.2⟩
    · exact ⟨(f12 16 (by decide)).trans p2.1, p2.2⟩
    · exact ⟨(f12 17 (by decide)).trans p3.1, p3.2⟩
    · obtain ⟨m, z1, z2, z3⟩ := gw
      exact ⟨m, z1, (f12 12 (by decide)).trans z2, z3⟩
    · show (eV E 3 b (E.2.1 3 b - v)).2.1 3 b = (mA (S1a, S.2) 11 b (S.2 11 b - v)).2 11 b
      rw [eV_s, mA_s, q3]
    · have t : (eV E 3 b (E.2.1 3 b - v)).2.1 (40 + b) = E.2.1 (40 + b) := eV_r (by omega)
      exact (congrFun t k).trans (qf k hk)
    · have z : OB E (eV E 3 b (E.2.1 3 b - v)) S (mA S 11 b (S.2 11 b - v)) b := ob_mA (ob_eV ob_rf (Or.inl (by decide))) (by decide)
      exact z
  have hX : RX h n (if E.2.1 4 b = 5 then eG (eG (eV E 3 b (E.2.1 3 b - v)) 9 (E.1 9 + v)) 11 (E.1 11 + v) else eG (eV E 3 b (E.2.1 3 b - v)) 9 (E.1 9 + v)) (mG (mA (S1a, S.2) 11 b (S.2 11 b - v)) 20 (S1a 20 + v)) b := by
    have h3 : S1a 22 = S.1 22 + (if S.2 12 b = 5 then v else 0) := h3
    by_cases z : E.2.1 4 b = 5
    · rw [if_pos z]
      rw [if_pos (w4 ▸ z)] at h3
      refine e3 _ rfl rfl rfl rfl rfl rfl rfl rfl ?_ (fun k hk => ?_)
      · show E.1 11 + v = S1a 22
        rw [h3, g11]
      · show upd (upd E.1 9 (E.1 9 + v)) 11 (E.1 11 + v) k = E.1 k
        rw [upd, if_neg (by omega), upd, if_neg (by omega)]
    · rw [if_neg z]
      rw [if_neg (w4 ▸ z), Int32.add_zero] at h3
      refine e3 _ rfl rfl rfl rfl rfl rfl rfl rfl ?_ (fun k hk => ?_)
      · show E.1 11 = S1a 22
        rw [h3, g11]
      · show upd E.1 9 (E.1 9 + v) k = E.1 k
        rw [upd, if_neg (by omega)]
  have M2 : MI h n Y T (mG (mA (S1a, S.2) 11 b (S.2 11 b - v)) 20 (S1a 20 + v)) := mi_G (mi_A M 11 _ _ (by decide)) 20 _ (by decide)
  have hl2 : (mG (mA (S1a, S.2) 11 b (S.2 11 b - v)) 20 (S1a 20 + v)).2 11 b = S.2 11 b - v := by
    show (mA (S1a, S.2) 11 b (S.2 11 b - v)).2 11 b = S.2 11 b - v
    exact mA_s
  have hl1 : (if E.2.1 4 b = 5 then eG (eG (eV E 3 b (E.2.1 3 b - v)) 9 (E.1 9 + v)) 11 (E.1 11 + v) else eG (eV E 3 b (E.2.1 3 b - v)) 9 (E.1 9 + v)).2 = (eV E 3 b (E.2.1 3 b - v)).2 := by split <;> rfl
  have hl3 : (eV E 3 b (E.2.1 3 b - v)).2.1 3 b = S.2 11 b - v := by rw [eV_s, q3]
  have ee : e_take E b v = (if (if E.2.1 4 b = 5 then eG (eG (eV E 3 b (E.2.1 3 b - v)) 9 (E.1 9 + v)) 11 (E.1 11 + v) else eG (eV E 3 b (E.2.1 3 b - v)) 9 (E.1 9 + v)).2.1 3 b = 0 then e_enter (if E.2.1 4 b = 5 then eG (eG (eV E 3 b (E.2.1 3 b - v)) 9 (E.1 9 + v)) 11 (E.1 11 + v) else eG (eV E 3 b (E.2.1 3 b - v)) 9 (E.1 9 + v)) b 6 (-1) else (if E.2.1 4 b = 5 then eG (eG (eV E 3 b (E.2.1 3 b - v)) 9 (E.1 9 + v)) 11 (E.1 11 + v) else eG (eV E 3 b (E.2.1 3 b - v)) 9 (E.1 9 + v))) := rfl
  have em : m_recv (S1a, S.2) (nI b) v = (if (mG (mA (S1a, S.2) 11 b (S.2 11 b - v)) 20 (S1a 20 + v)).2 11 b = 0 then m_enter (mG (mA (S1a, S.2) 11 b (S.2 11 b - v)) 20 (S1a 20 + v)) (nI b) 6 else (mG (mA (S1a, S.2) 11 b (S.2 11 b - v)) 20 (S1a 20 + v))) := by
    unfold m_recv
    rw [cb]
    rfl
  rw [ee, em, hl1, hl3, hl2]
  by_cases z : S.2 11 b - v = 0
  · rw [if_pos z, if_pos z]
    exact sim_enter hX hb hn M2 (wf_6 _).symm
  · rw [if_neg z, if_neg z]
    refine hX.rel ⟨?_, ?_⟩
    · rw [hl1]; exact w4
    · rw [hl1]; exact w5
theorem c15 : ∀ b, b < 30 → ∀ r, r < 5 → (5 * nI b + nI r).toNatClampNeg = 5 * b + r := by decide +kernel
theorem c64 : ∀ i, i < 4 → ∀ k, k < 7 → (6 * nI (i + 1) + nI (k + 1) - 1).toNatClampNeg = 6 * (i + 1) + k := by decide +kernel
theorem sim_fail (H : Rel h n E S) (hb : b < n) (hn : n ≤ 30) (M : MI h n Y T S) (hT : T + 1 ≤ 1000000000) {i : Nat} (hi : i < 4) : Rel h n (e_fail E b (nI (i + 1))) (m_fail S (nI b) (nI (i + 1))) := by
  have cb : (nI b).toNatClampNeg = b := nI_clamp (by omega)
  have cr : (nI (i + 1)).toNatClampNeg = i + 1 := nI_clamp (by omega)
  have ci : (nI (i + 1) - 1).toNatClampNeg = i := by rw [nI_pred]; exact nI_clamp (by omega)
  have cf : (5 * nI b + nI (i + 1)).toNatClampNeg = 5 * b + i + 1 := c15 b (by omega) (i + 1) (by omega)
  obtain ⟨⟨q0, q1, q3, q6, q7, q8, q9, q10, qf, qi, qj⟩, w4, w5⟩ := H.2.1 b hb
  obtain ⟨gp1, gp2, gp3⟩ := H.1.gp hi
  have hX : RX h n (eV E (40 + b) i (E.2.1 (40 + b) i + 1)) (mA S 15 (5 * b + i + 1) (S.2 15 (5 * b + i + 1) + 1)) b := by
    have rw_ : ∀ k, k < 40 → (eV E (40 + b) i (E.2.1 (40 + b) i + 1)).2.1 k = E.2.1 k := fun k hk => eV_r (by omega)
    have G := H.1
    obtain ⟨g4, g5, g6, g7, g8, g9, g10, g11, g13, g30, p0, p1, p2, p3, gw, gh⟩ := G
    refine rx_of (H.x hb) hb ⟨g4, g5, g6, g7, g8, g9, g10, g11, g13, (rw_ 30 (by decide)).trans g30, ⟨p0.1, fun j hj => by rw [rw_ _ (by decide)]; exact p0.2.1 j hj, p0.2.2⟩, ⟨p1.1, fun j hj => by rw [rw_ _ (by decide)]; exact p1.2.1 j hj, p1.2.2⟩, ⟨p2.1, fun j hj => by rw [rw_ _ (by decide)]; exact p2.2.1 j hj, p2.2.2⟩, ⟨p3.1, fun j hj => by rw [rw_ _ (by decide)]; exact p3.2.1 j hj, p3.2.2⟩, gw, gh⟩ ⟨?_, ?_, ?_, ?_, ?_, ?_, ?_, ?_, fun k hk => ?_, qi, qj⟩ (ob_f hi)
    · rw [rw_ 0 (by decide)]; exact q0
    · rw [rw_ 1 (by decide)]; exact q1
    · rw [rw_ 3 (by decide)]; exact q3
    · rw [rw_ 6 (by decide)]; exact q6
    · rw [rw_ 7 (by decide)]; exact q7
    · rw [rw_ 8 (by decide)]; exact q8
    · rw [rw_ 9 (by decide)]; exact q9
    · rw [rw_ 10 (by decide)]; exact q10
    · by_cases z : k = i
      · subst z; rw [eV_s, mA_s, qf k hk]
      · rw [eV_c z, mA_c (by omega)]; exact qf k hk
  have M1 : MI h n Y (T + 1) (mA S 15 (5 * b + i + 1) (S.2 15 (5 * b + i + 1) + 1)) := mi_f M hT _
  have hk1 := cnt_pos M (5 * b + i + 1) (by omega)
  obtain ⟨κ, hκ, ek⟩ := nI_of (x := S.2 15 (5 * b + i + 1) + 1) (by rw [i32_lt]; have e0 : (0 : Int32).toInt = 0 := by decide
                                                                    omega)
  have hcnt := M.2.2.2.2.2.2.2.1 (i + 1) (by omega)
  have hN := M.2.2.1
  have hκ1 : 1 ≤ κ := by rw [ek, nI_toInt hκ] at hk1; omega
  have e1 : (1 : Int32).toInt = 1 := by decide
  have e6 : (6 : Int32).toInt = 6 := by decide
  have em : m_fail S (nI b) (nI (i + 1)) = (if S.2 5 (i + 1) < nI κ then m_enter (mA (mA S 15 (5 * b + i + 1) (S.2 15 (5 * b + i + 1) + 1)) 13 b (S.1 0 + S.1 6)) (nI b) 2 else m_enter (mA (mA S 15 (5 * b + i + 1) (S.2 15 (5 * b + i + 1) + 1)) 13 b (m_cf (mA S 15 (5 * b + i + 1) (S.2 15 (5 * b + i + 1) + 1)) 1000 (S.1 0 + S.2 4 (6 * nI (i + 1) + nI κ - 1).toNatClampNeg))) (nI b) 0) := by
    unfold m_fail
    rw [cf, cr, cb]
    dsimp only
    rw [mA_s, ← ek]
    rfl
  have ee : e_fail E b (nI (i + 1)) = (if e_db E i (nI κ) = 0 then e_enter (eV E (40 + b) i (E.2.1 (40 + b) i + 1)) b 2 (E.1 5 + E.1 6) else e_enter (eV E (40 + b) i (E.2.1 (40 + b) i + 1)) b 0 (e_fcf (eV E (40 + b) i (E.2.1 (40 + b) i + 1)) 1000 (E.1 5 + e_db E i (nI κ)))) := by
    have t : e_db (eV E (40 + b) i (E.2.1 (40 + b) i + 1)) i ((eV E (40 + b) i (E.2.1 (40 + b) i + 1)).2.1 (40 + b) i) = e_db E i (nI κ) := by
      rw [eV_s, qf i hi, ek]
      unfold e_db
      have r20 : (eV E (40 + b) i (nI κ)).2.1 (20 + i) = E.2.1 (20 + i) := eV_r (by omega)
      rw [r20]
      rfl
    unfold e_fail
    dsimp only
    rw [ci, t]
    rfl
  rw [ee, em]
  by_cases z : S.2 5 (i + 1) < nI κ
  · have hd0 : e_db E i (nI κ) = 0 := by
      unfold e_db
      rw [gp1]
      by_cases q : nI κ < 1
      · rw [if_pos q]
      · rw [if_neg q, if_pos z]
    rw [if_pos hd0, if_pos z]
    refine sim_enter (rx_13 hX hb _) hb hn (mi_A M1 13 _ _ (by decide)) ?_
    rw [wf_2, mA_s, H.1.2.1, H.1.2.2.1]
  · have zz := z
    rw [i32_lt, nI_toInt hκ] at zz
    obtain ⟨j, rfl⟩ : ∃ j, κ = j + 1 := ⟨κ - 1, by omega⟩
    have hj6 : j < 6 := by omega
    have hg := gp3 j (by omega) hj6
    have hd0 : e_db E i (nI (j + 1)) = S.2 4 (6 * (i + 1) + j) := by
      unfold e_db
      rw [gp1, if_neg (by rw [i32_lt, nI_toInt hκ]; omega), if_neg z, if_neg (by rw [i32_lt, nI_toInt hκ]; omega), nI_pred, nI_clamp (by omega)]
      exact gp2 j hj6
    have hg30 := M.2.2.2.2.2.2.1 (6 * (i + 1) + j) (by omega)
    have hne : ¬ S.2 4 (6 * (i + 1) + j) = 0 := fun y => by
      rw [y] at hg
      exact absurd hg (by decide)
    have hsum : (S.1 0 + S.2 4 (6 * (i + 1) + j)).toInt = (S.1 0).toInt + (S.2 4 (6 * (i + 1) + j)).toInt := i32_add (by omega) (by omega)
    rw [hd0, if_neg hne, if_neg z, c64 i hi j (by omega), H.1.2.1]
    refine sim_enter (rx_13 hX hb _) hb hn (mi_A M1 13 _ _ (by decide)) ?_
    rw [wf_0, mA_s]
    exact sim_fcf hX.1 M1 1000 _ (by rw [hsum]; omega) (by rw [hsum]; omega)
theorem sim_bp (H : Rel h n E S) (hb : b < n) (hn : n ≤ 30) (M : MI h n Y T S) : Rel h n (e_bp E b) (m_bp S (nI b)) := by
  have cb : (nI b).toNatClampNeg = b := nI_clamp (by omega)
  obtain ⟨⟨q0, q1, q3, q6, q7, q8, q9, q10, qf, qi, qj⟩, w4, w5⟩ := H.2.1 b hb
  have hX : RX h n (eV E 8 b (E.2.1 8 b + 1)) (mA S 17 b (S.2 17 b + 1)) b := by
    refine rx_of (H.x hb) hb H.1 ⟨q0, q1, q3, q6, q7, ?_, q9, q10, fun k hk => ?_, qi, qj⟩ (ob_mA (ob_eV ob_rf (Or.inl (by decide))) (by decide))
    · rw [eV_s, mA_s, q8]
    · exact (congrFun (eV_r (by omega)) k).trans (qf k hk)
  have M1 : MI h n Y T (mA S 17 b (S.2 17 b + 1)) := mi_A M 17 _ _ (by decide)
  have hn1 := now_cf M
  have em : m_bp S (nI b) = m_enter (mA (mA S 17 b (S.2 17 b + 1)) 13 b (if S.2 18 b = 0 then m_cf (mA S 17 b (S.2 17 b + 1)) 1000 (S.1 0 + 1) else S.1 0 + S.2 19 b)) (nI b) (S.2 18 b) := by
    unfold m_bp
    rw [cb]
    rfl
  have ee : e_bp E b = (if E.2.1 9 b = 0 then e_enter (eV E 8 b (E.2.1 8 b + 1)) b 0 (e_fcf (eV E 8 b (E.2.1 8 b + 1)) 1000 (E.1 5 + 1)) else e_enter (eV E 8 b (E.2.1 8 b + 1)) b (E.2.1 9 b) (E.1 5 + E.2.1 10 b)) := rfl
  rw [ee, em, q9]
  by_cases z : S.2 18 b = 0
  · rw [if_pos z, if_pos z, z, H.1.2.1]
    refine sim_enter (rx_13 hX hb _) hb hn (mi_A M1 13 _ _ (by decide)) ?_
    rw [wf_0, mA_s]
    exact sim_fcf hX.1 M1 1000 _ (by have := M.2.2.1; omega) (by omega)
  · rw [if_neg z, if_neg z, H.1.2.1, q10]
    refine sim_enter (rx_13 hX hb _) hb hn (mi_A M1 13 _ _ (by decide)) ?_
    rw [mA_s]
    rcases qj with y | y | y
    · exact absurd y z
    · rw [y, wf_2]
    · rw [y, wf_3]
theorem sim_look (H : Rel h n E S) (hb : b < n) (hn : n ≤ 30) (M : MI h n Y T S) : (e_look E b).1 = (m_look S (nI b)).1 ∧ Rel h n (e_look E b).2 (m_look S (nI b)).2 := by
  have cb : (nI b).toNatClampNeg = b := nI_clamp (by omega)
  have e0 : (0 : Int32).toInt = 0 := by decide
  have em1 : (-1 : Int32).toInt = -1 := by decide
  obtain ⟨⟨q0, q1, q3, q6, q7, q8, q9, q10, qf, qi, qj⟩, w4, w5⟩ := H.2.1 b hb
  have hday := H.1.2.1
  have hn1 := now_cf M
  have hY := M.2.2.1
  unfold e_look m_look m_l1 m_l2 m_l3
  rw [cb, w4, hday]
  by_cases s0 : S.2 12 b = 0
  · have n2 : ¬ S.2 12 b = 2 := by rw [s0]; decide
    have n3 : ¬ S.2 12 b = 3 := by rw [s0]; decide
    have n4 : ¬ S.2 12 b = 4 := by rw [s0]; decide
    have w5' : E.2.1 5 b = S.2 13 b := by rw [w5, s0, wf_0]
    rw [if_pos s0, if_pos s0, w5', if_neg n2, if_neg n3, if_neg n4]
    by_cases ht : S.1 0 < S.2 13 b
    · rw [if_pos ht, if_pos ht]
      exact ⟨rfl, H⟩
    · rw [if_neg ht, if_neg ht]
      unfold e_bt
      rw [hday, sim_chg H.1 M hY.1]
      by_cases hc : m_chg S (S.1 0) = 0
      · rw [if_pos hc, if_pos hc]
        refine ⟨rfl, ?_⟩
        have hX : RX h n (eV E 5 b (e_fcf E 1000 (S.1 0 + 1))) (mA S 13 b (m_cf S 1000 (S.1 0 + 1))) b := by
          refine rx_of (H.x hb) hb H.1 ⟨q0, q1, q3, q6, q7, q8, q9, q10, fun k hk => ?_, qi, qj⟩ (ob_mA (ob_eV ob_rf (Or.inl (by decide))) (by decide))
          exact (congrFun (eV_r (by omega)) k).trans (qf k hk)
        refine hX.rel ⟨w4, ?_⟩
        rw [eV_s, show (mA S 13 b (m_cf S 1000 (S.1 0 + 1))).2 12 b = S.2 12 b from rfl, s0, wf_0, mA_s]
        exact sim_fcf H.1 M 1000 _ (by omega) (by omega)
      · rw [if_neg hc, if_neg hc]
        refine ⟨rfl, ?_⟩
        have hX : RX h n (eV E 6 b (E.2.1 6 b + 1)) (mA S 14 b (S.2 14 b + 1)) b := by
          refine rx_of (H.x hb) hb H.1 ⟨q0, q1, q3, ?_, q7, q8, q9, q10, fun k hk => ?_, qi, qj⟩ (ob_mA (ob_eV ob_rf (Or.inl (by decide))) (by decide))
          · rw [eV_s, mA_s, q6]
          · exact (congrFun (eV_r (by omega)) k).trans (qf k hk)
        exact sim_enter hX hb hn (mi_A M 14 _ _ (by decide)) (wf_1 _).symm
  · rw [if_neg s0, if_neg s0]
    by_cases s2 : S.2 12 b = 2
    · have n3 : ¬ S.2 12 b = 3 := by rw [s2]; decide
      have n4 : ¬ S.2 12 b = 4 := by rw [s2]; decide
      have w5' : E.2.1 5 b = S.2 13 b := by rw [w5, s2, wf_2]
      rw [if_pos s2, if_pos s2, w5', if_neg n3, if_neg n4]
      by_cases ht : S.2 13 b = S.1 0
      · rw [if_pos ht, if_pos ht]
        refine ⟨rfl, sim_enter (rx_13 (H.x hb) hb _) hb hn (mi_A M 13 _ _ (by decide)) ?_⟩
        rw [wf_3, mA_s, H.1.2.2.2.1]
      · rw [if_neg ht, if_neg ht]
        exact ⟨rfl, H⟩
    · rw [if_neg s2, if_neg s2]
      by_cases s3 : S.2 12 b = 3
      · have n4 : ¬ S.2 12 b = 4 := by rw [s3]; decide
        have w5' : E.2.1 5 b = S.2 13 b := by rw [w5, s3, wf_3]
        rw [if_pos s3, if_pos s3, w5', if_neg n4]
        by_cases ht : S.2 13 b = S.1 0
        · rw [if_pos ht, if_pos ht]
          refine ⟨rfl, ?_⟩
          have hX : RX h n (eG E 10 (E.1 10 + E.2.1 3 b)) (mG S 21 (S.1 21 + S.2 11 b)) b := by
            obtain ⟨g4, g5, g6, g7, g8, g9, g10, g11, g13, g30, p0, p1, p2, p3, gw, gh⟩ := H.1
            exact ⟨⟨g4, g5, g6, g7, g8, g9, (show E.1 10 + E.2.1 3 b = S.1 21 + S.2 11 b by rw [g10, q3]), g11, g13, g30, p0, p1, p2, p3, gw, gh⟩, (H.x hb).2⟩
          exact sim_enter hX hb hn (mi_G M 21 _ (by decide)) (wf_5 _).symm
        · rw [if_neg ht, if_neg ht]
          exact ⟨rfl, H⟩
      · rw [if_neg s3, if_neg s3]
        by_cases s4 : S.2 12 b = 4
        · have w5' : E.2.1 5 b = S.2 13 b := by rw [w5, s4, wf_4]
          rw [if_pos s4, if_pos s4, w5']
          by_cases ht : S.2 13 b = S.1 0
          · rw [if_pos ht, if_pos ht]
            exact ⟨rfl, sim_bp H hb hn M⟩
          · rw [if_neg ht, if_neg ht]
            exact ⟨rfl, H⟩
        · rw [if_neg s4, if_neg s4]
          split
          · exact ⟨rfl, H⟩
          · exact ⟨rfl, H⟩
theorem fut_hi : ∀ (k i : Nat) (E : ES), n ≤ i → e_fut n k i E = E
  | 0, _, _, _ => rfl
  | k + 1, i, E, h => by
    unfold e_fut
    rw [if_neg (by omega)]
    exact fut_hi k (i + 1) E (by omega)
theorem sim_fut (hn : n ≤ 30) : ∀ (k k2 i : Nat) {T : Int} {E : ES} {S : MS}, i + k = n → k ≤ k2 → Rel h n E S → MI h n Y T S → T + 2 * k ≤ 1000000000 → Rel h n (e_fut n k2 i E) (m_fut k i S)
  | 0, k2, i, T, E, S, hi, _, H, _, _ => by rw [fut_hi k2 i E (by omega)]; exact H
  | k + 1, 0, i, T, E, S, hi, h2, H, M, hT => absurd h2 (by omega)
  | k + 1, k2 + 1, i, T, E, S, hi, h2, H, M, hT => by
    unfold e_fut m_fut
    have ci : (nI i).toNatClampNeg = i := nI_clamp (by omega)
    have w4 := (H.2.1 i (by omega)).2.1
    rw [if_pos (show i < n by omega), ci, w4]
    by_cases z : S.2 12 i = 1
    · rw [if_pos z, if_pos z]
      exact sim_fut hn k k2 (i + 1) (by omega) (by omega) (sim_fail (i := 3) H (by omega) hn M (by omega) (by decide)) (mi_fail M (by omega) _ _) (by omega)
    · rw [if_neg z, if_neg z]
      exact sim_fut hn k k2 (i + 1) (by omega) (by omega) H M (by omega)
theorem lab_hi : ∀ (k i : Nat) (c : Int32) (E : ES), n ≤ i → e_lab n k i c E = (c, E)
  | 0, _, _, _, _ => rfl
  | k + 1, i, c, E, h => by
    unfold e_lab
    rw [if_neg (by omega)]
    exact lab_hi k (i + 1) c E (by omega)
theorem sim_lab (hn : n ≤ 30) : ∀ (k k2 i : Nat) (c : Int32) {T : Int} {E : ES} {S : MS}, i + k = n → k ≤ k2 → Rel h n E S → MI h n Y T S → T + k ≤ 1000000000 → (e_lab n k2 i c E).1 = (m_lab k i c S).1 ∧ Rel h n (e_lab n k2 i c E).2 (m_lab k i c S).2
  | 0, k2, i, c, T, E, S, hi, _, H, _, _ => by rw [lab_hi k2 i c E (by omega)]; exact ⟨rfl, H⟩
  | k + 1, 0, i, c, T, E, S, hi, h2, H, M, hT => absurd h2 (by omega)
  | k + 1, k2 + 1, i, c, T, E, S, hi, h2, H, M, hT => by
    unfold e_lab m_lab
    obtain ⟨l1, l2⟩ := sim_look H (b := i) (by omega) hn M
    have ec : (if (e_look E i).1 = 0 then c else c + 1) = c + (if (m_look S (nI i)).1 = 0 then 0 else 1) := by
      rw [l1]
      split
      · rw [Int32.add_zero]
      · rfl
    rw [if_pos (show i < n by omega), ec]
    exact sim_lab hn k k2 (i + 1) _ (by omega) (by omega) l2 (mi_look M (by omega) _) (by omega)
theorem sim_day (hn : n ≤ 30) (H : Rel h n E S) (M : MI h n Y T S) (hY : Y + 1 ≤ 100000) (hT : T + 90 ≤ 1000000000) : (e_day n E).1 = (m_day n S).1 ∧ Rel h n (e_day n E).2 (m_day n S).2 := by
  have H1 := sim_fut (h := h) (Y := Y) hn n 30 0 (by omega) hn H M (by omega)
  have M1 := mi_now (mi_fut n 0 M (by omega)) hY
  have H2 : Rel h n (eG (e_fut n 30 0 E) 5 ((e_fut n 30 0 E).1 5 + 1)) (mG (m_fut n 0 S) 0 ((m_fut n 0 S).1 0 + 1)) := by
    obtain ⟨⟨g4, g5, g6, g7, g8, g9, g10, g11, g13, g30, p0, p1, p2, p3, gw, gh⟩, H3⟩ := H1
    exact ⟨⟨g4, (show (e_fut n 30 0 E).1 5 + 1 = (m_fut n 0 S).1 0 + 1 by rw [g5]), g6, g7, g8, g9, g10, g11, g13, g30, p0, p1, p2, p3, gw, gh⟩, H3⟩
  exact sim_lab hn n 30 0 0 (by omega) hn H2 M1 (by omega)
theorem sim_days (hn : n ≤ 30) : ∀ (k : Nat) (c : Int32) {Y T : Int} {E : ES} {S : MS}, Rel h n E S → MI h n Y T S → Y + k ≤ 100000 → T + 90 * k ≤ 1000000000 → (e_days n k c E).1 = (m_days n k c S).1 ∧ Rel h n (e_days n k c E).2 (m_days n k c S).2
  | 0, _, _, _, _, _, H, _, _, _ => ⟨rfl, H⟩
  | k + 1, c, Y, T, E, S, H, M, hY, hT => by
    unfold e_days m_days
    obtain ⟨d1, d2⟩ := sim_day hn H M (by omega) (by omega)
    rw [d1]
    exact sim_days hn k _ d2 (mi_day M (by omega) (by omega)) (by omega) (by omega)
end SIM2
