theorem all4 {P : Nat → Prop} (h0 : P 0) (h1 : P 1) (h2 : P 2) (h3 : P 3) : ∀ i, i < 4 → P i
  | 0, _ => h0
  | 1, _ => h1
  | 2, _ => h2
  | 3, _ => h3
  | i + 4, h => absurd h (by omega)
theorem upd_ne {f : Nat → Int32} {j k : Nat} {v : Int32} (h : k ≠ j) : upd f j v k = f k := if_neg h
theorem wf_d {σ : Nat} {d : Int32} (h : σ = 0 ∨ σ = 2 ∨ σ = 3 ∨ σ = 4) : wf σ d = d := by
  unfold wf
  rw [if_neg (by omega)]
theorem wf_m {σ : Nat} {d : Int32} (h : σ = 1 ∨ σ = 5 ∨ σ = 6) : wf σ d = -1 := if_pos h
/-- a new state of the bill b and its event -/
abbrev m_ent (S : MS) (Y N b σ : Nat) : MS := mA (mA (mA S 5 b (nI σ)) 8 (N % 60) (nI ((Y * 100 + b) * 10 + σ))) 0 8 (nI (N + 1))
theorem rc_w {N c : Nat} {E E' : ES} {f f' : Nat → Int32} (H : RC N E c f) (hE : ∀ k, k ≠ 4 → k ≠ 5 → k ≤ 10 → E'.2.1 k c = E.2.1 k c) (hF : E'.2.1 (40 + c) = E.2.1 (40 + c)) (hf : ∀ k, k ≠ 2 → k ≠ 3 → f' k = f k) : RC N E' c f' := by
  obtain ⟨q0, q1, q3, q6, q7, q8, q9, q10, qf, ql, qj⟩ := H
  have e := hE
  refine ⟨?_, ?_, ?_, ?_, ?_, ?_, ?_, ?_, fun r hr => ?_, ?_, ?_⟩
  · rw [e 0 (by decide) (by decide) (by decide)]; exact q0
  · rw [e 1 (by decide) (by decide) (by decide), hf 0 (by decide) (by decide)]; exact q1
  · rw [e 3 (by decide) (by decide) (by decide), hf 1 (by decide) (by decide)]; exact q3
  · rw [e 6 (by decide) (by decide) (by decide), hf 4 (by decide) (by decide)]; exact q6
  · rw [e 7 (by decide) (by decide) (by decide), hf 5 (by decide) (by decide)]; exact q7
  · rw [e 8 (by decide) (by decide) (by decide), hf 8 (by decide) (by decide)]; exact q8
  · rw [e 9 (by decide) (by decide) (by decide), hf 6 (by decide) (by decide)]; exact q9
  · rw [e 10 (by decide) (by decide) (by decide), hf 7 (by decide) (by decide)]; exact q10
  · rw [hF, hf (9 + r) (by omega) (by omega)]; exact qf r hr
  · rw [hf 1 (by decide) (by decide)]; exact ql
  · rw [hf 6 (by decide) (by decide)]; exact qj
section SIM
variable {h n N M Y b : Nat} {E : ES} {S : MS}
theorem sim_chg (G : RG h n N Y E S) {x : Nat} (hx : x < 2 ^ 31) : e_chg E (nI x) = m_chg (S 0 1) (S 1) h x := by
  obtain ⟨m, hm, m0, e12, s1⟩ := G.rk
  have e1 : nI x - nI x / 7 * 7 = nI (x % 7) := pk_rem (d := 7) hx (by decide) (by decide)
  unfold e_chg m_chg
  rw [e12, s1, fm_nn (by rw [nI_toInt hx]; omega) (by decide), e1]
  have wb := wk_b m hm (x % 7) (by omega)
  by_cases q : (nI m >>> (nI (x % 7) &&& 31)) &&& nI 1 = nI 1
  · rw [if_neg (fun z => wb.mp z q), if_pos q]
    rcases wl_1 (w := S 1) (d := nI x) h 0 with ⟨h1, h2⟩ | ⟨h1, j, j1, j2, j3⟩
    · rw [h1, if_pos ((hol_bit E hx).mpr ((G.hd x hx).mpr fun j hj => h2 j (by omega) (by omega)))]
    · rw [h1, if_neg (fun z => (G.hd x hx).mp ((hol_bit E hx).mp z) j (by omega) j3)]
  · rw [if_pos (wb.mpr q), if_neg q, wl_0]
theorem sim_fcf (G : RG h n N Y E S) : ∀ (K x : Nat), x + K < 2 ^ 31 → e_fcf E K (nI x) = nI (m_cf (S 0 1) (S 1) h K x)
  | 0, _, _ => rfl
  | K + 1, x, hx => by
    unfold e_fcf m_cf
    rw [sim_chg G (by omega)]
    by_cases z : m_chg (S 0 1) (S 1) h x = 0
    · rw [if_pos z, if_pos z, nI_1]
      exact sim_fcf G K (x + 1) (by omega)
    · rw [if_neg z, if_neg z]
theorem from_ok (G : RG h n N Y E S) {x : Nat} (h1 : Y ≤ x) (h2 : x ≤ 1000000) : ¬ m_chg (S 0 1) (S 1) h (m_cf (S 0 1) (S 1) h 1000 x) = 0 := by
  obtain ⟨m, hm, m0, e12, s1⟩ := G.rk
  obtain ⟨k, hk, hb⟩ := wk_e m hm m0
  refine cf_ok 1000 x (61 + (k + 7 - (x + 61) % 7) % 7) (by omega) ?_
  have hmod : (x + (61 + (k + 7 - (x + 61) % 7) % 7)) % 7 = k := by omega
  unfold m_chg
  rw [hmod, s1, if_pos hb]
  rcases wl_1 (w := S 1) (d := nI (x + (61 + (k + 7 - (x + 61) % 7) % 7))) h 0 with ⟨h1, -⟩ | ⟨-, j, j1, j2, j3⟩
  · rw [h1]; decide
  · exfalso
    obtain ⟨y, y1, y2⟩ := G.hl j (by omega)
    rw [y2] at j3
    have := (nI_eq (by omega) (by omega)).mp j3
    omega
theorem ent_bv {c σ : Nat} (hb : b < 12) (hc : c < 12) (hcb : c ≠ b) : bv (m_ent S Y N b σ) c = bv S c := by
  rw [bv_n (by omega), bv_n (by omega), bv_o (by refine ⟨?_, ?_, ?_, ?_⟩ <;> omega) hcb hc hb]
theorem ent_bvb {σ : Nat} (hb : b < 12) : bv (m_ent S Y N b σ) b = upd (bv S b) 2 (nI σ) := by
  rw [bv_n (by omega), bv_n (by omega), bv_2 hb]
theorem sim_ent (H : RX h n N M Y E S b) (hb : b < n) (hY : Y ≤ 8000) (hN : N ≤ 200000) (hM : M ≤ N + 1) {σ : Nat} (hσ : σ ≤ 6) {s wd : Int32} (hs : s = nI σ) (hwd : wd = wf σ (S 5 (12 + b))) : Rel h n (N + 1) Y (e_enter E b s wd) (m_ent S Y N b σ) := by
  subst hs
  have G := H.1
  have n12 := G.n12
  have hix : (fmod (E.1 13) 400).toNatClampNeg = N % 400 := by
    have e1 : nI N - nI N / 400 * 400 = nI (N % 400) := pk_rem (d := 400) (by omega) (by decide) (by decide)
    rw [G.t13, fm_nn (by rw [nI_toInt (by omega)]; omega) (by decide), e1, nI_clamp (by omega)]
  have hcode : 1000 * E.1 5 + 10 * E.2.1 0 b + nI σ = nI ((Y * 100 + b) * 10 + σ) := by
    have e1 : (1000 : Int32) * nI Y = nI (1000 * Y) := pk_mul 1000 Y
    have e2 : (10 : Int32) * nI b = nI (10 * b) := pk_mul 10 b
    rw [G.d5, H.2.1.1, e1, e2, nI_add, nI_add]
    congr 1
    omega
  have ee : e_enter E b (nI σ) wd = eG (eV (eV (eV E 4 b (nI σ)) 5 b wd) 30 (N % 400) (nI ((Y * 100 + b) * 10 + σ))) 13 (nI (N + 1)) := by
    show eG (eV (eV (eV E 4 b (nI σ)) 5 b wd) 30 (fmod (E.1 13) 400).toNatClampNeg (1000 * E.1 5 + 10 * E.2.1 0 b + nI σ)) 13 (E.1 13 + 1) = _
    rw [hix, hcode, G.t13, nI_1]
  rw [ee]
  have hX : RX h n (N + 1) (N + 1) Y (eG (eV (eV (eV E 4 b (nI σ)) 5 b wd) 30 (N % 400) (nI ((Y * 100 + b) * 10 + σ))) 13 (nI (N + 1))) (m_ent S Y N b σ) b := by
    refine rx_of H hb ⟨G.n4, G.n2, G.d5, G.d0, G.g6, G.g7, G.g8, G.g9, G.g10, G.g11, rfl, rfl, fun t t1 t2 => ?_, fun j hj => ?_, (all4 (G.gp 0 (by decide)) (G.gp 1 (by decide)) (G.gp 2 (by decide)) (G.gp 3 (by decide))), G.rk, G.w63, G.hd, G.hl, G.h60, G.n12⟩ (Nat.le_succ N) ?_ ?_ (fun c h1 h2 => ent_bv (by omega) h2 h1)
    · show mA S 8 (N % 60) (nI ((Y * 100 + b) * 10 + σ)) 8 (t % 60) = (eV E 30 (N % 400) (nI ((Y * 100 + b) * 10 + σ))).2.1 30 (t % 400)
      by_cases z : t = N
      · subst z; rw [mA_s, eV_s]
      · rw [mA_c (by omega), eV_c (by omega)]; exact G.ring t (by omega) (by omega)
    · show ∃ c, c < 2 ^ 31 ∧ mA S 8 (N % 60) (nI ((Y * 100 + b) * 10 + σ)) 8 j = nI c
      by_cases z : j = N % 60
      · rw [z]; exact ⟨_, (by omega), mA_s⟩
      · rw [mA_c z]; exact G.cod j hj
    · rw [ent_bvb (by omega)]
      refine (rc_w H.2.1 (fun k h4 h5 h10 => ?_) ?_ (fun k h2 h3 => upd_ne h2)).mono hM
      · show (eV (eV (eV E 4 b (nI σ)) 5 b wd) 30 (N % 400) (nI ((Y * 100 + b) * 10 + σ))).2.1 k b = _
        rw [eV_r (by omega), eV_r h5, eV_r h4]
      · show (eV (eV (eV E 4 b (nI σ)) 5 b wd) 30 (N % 400) (nI ((Y * 100 + b) * 10 + σ))).2.1 (40 + b) = _
        rw [eV_r (by omega), eV_r (by omega), eV_r (by omega)]
    · exact oe_eV' (oe_eV (oe_eV oe_rf (Or.inl (by decide))) (Or.inl (by decide))) (by decide)
  refine hX.rel ⟨σ, hσ, ?_, ?_, ?_⟩
  · rw [ent_bvb (by omega)]; rfl
  · show (eV E 4 b (nI σ)).2.1 4 b = _
    exact eV_s
  · rw [ent_bvb (by omega)]
    show (eV (eV E 4 b (nI σ)) 5 b wd).2.1 5 b = wf σ (S 5 (12 + b))
    rw [eV_s]; exact hwd
/-- another day to wait for -/
theorem rx_13 (H : RX h n N M Y E S b) (hb : b < n) (v : Int32) : RX h n N M Y E (mA S 5 (12 + b) v) b := by
  have n12 := H.1.n12
  refine rx_of H hb H.1 (Nat.le_refl N) ?_ oe_rf (fun c h1 h2 => bv_o (by refine ⟨?_, ?_, ?_, ?_⟩ <;> omega) h1 h2 (by omega))
  rw [bv_3 (by omega)]
  exact rc_w H.2.1 (fun _ _ _ _ => rfl) rfl (fun k h2 h3 => upd_ne h3)
theorem sim_fail (H : Rel h n N Y E S) (hb : b < n) (hY : Y ≤ 8000) (hN : N ≤ 200000) {i κ q : Nat} (hi : i < 4) (eκ : S 6 (5 * b + (i + 1)) = nI κ) (hκ : κ ≤ N) (eq : S 3 (i + 1) = nI q) (hq : q ≤ 6) :
    (∀ g, κ < q → S 2 (6 * (i + 1) + κ) = nI g → g ≤ 30 → Rel h n (N + 1) Y (e_fail E b (nI (i + 1))) (m_ent (mA (mA S 6 (5 * b + (i + 1)) (nI (κ + 1))) 5 (12 + b) (nI (m_cf (S 0 1) (S 1) h 1000 (Y + g)))) Y N b 0)) ∧ (¬ κ < q → Rel h n (N + 1) Y (e_fail E b (nI (i + 1))) (m_ent (mA (mA S 6 (5 * b + (i + 1)) (nI (κ + 1))) 5 (12 + b) (nI Y + S 0 3)) Y N b 2)) := by
  have G := H.1
  have n12 := G.n12
  have ci : (nI (i + 1) - 1).toNatClampNeg = i := by rw [nI_pred]; exact nI_clamp (by omega)
  obtain ⟨qc, qc6, gp1, gp2, gp3⟩ := G.gp i hi
  have hqc : qc = q := (nI_eq (by omega) (by omega)).mp (gp2.symm.trans eq)
  subst hqc
  obtain ⟨⟨q0, q1, q3, q6, q7, q8, q9, q10, qf, ql, qj⟩, w⟩ := H.2.1 b hb
  have qfi : E.2.1 (40 + b) i = nI κ := ((qf i hi).1.trans (bv_f S b i hi)).trans eκ
  have hX : RX h n N (N + 1) Y (eV E (40 + b) i (nI (κ + 1))) (mA S 6 (5 * b + (i + 1)) (nI (κ + 1))) b := by
    have rw_ : ∀ k, k < 40 → (eV E (40 + b) i (nI (κ + 1))).2.1 k = E.2.1 k := fun k hk => eV_r (by omega)
    refine rx_of (H.x hb) hb ⟨G.n4, G.n2, G.d5, G.d0, G.g6, G.g7, G.g8, G.g9, G.g10, G.g11, G.t13, G.t8, fun t t1 t2 => by rw [rw_ 30 (by decide)]; exact G.ring t t1 t2, G.cod, fun j hj => (G.gp j hj).elim fun c w => ⟨c, w.1, w.2.1, w.2.2.1, fun k hk => by rw [rw_ (20 + j) (by omega)]; exact w.2.2.2 k hk⟩, G.rk, G.w63, G.hd, G.hl, G.h60, G.n12⟩ (Nat.le_refl N) ?_ (oe_eF oe_rf) (fun c h1 h2 => bv_o (by refine ⟨?_, ?_, ?_, ?_⟩ <;> omega) h1 h2 (by omega))
    rw [bv_9 hi]
    have u : ∀ k, k < 9 → upd (bv S b) (9 + i) (nI (κ + 1)) k = bv S b k := fun k hk => upd_ne (by omega)
    refine ⟨?_, ?_, ?_, ?_, ?_, ?_, ?_, ?_, fun r hr => ?_, ?_, ?_⟩
    · rw [rw_ 0 (by decide)]; exact q0
    · rw [rw_ 1 (by decide), u 0 (by decide)]; exact q1
    · rw [rw_ 3 (by decide), u 1 (by decide)]; exact q3
    · rw [rw_ 6 (by decide), u 4 (by decide)]; exact q6
    · rw [rw_ 7 (by decide), u 5 (by decide)]; exact q7
    · rw [rw_ 8 (by decide), u 8 (by decide)]; exact q8
    · rw [rw_ 9 (by decide), u 6 (by decide)]; exact q9
    · rw [rw_ 10 (by decide), u 7 (by decide)]; exact q10
    · by_cases z : r = i
      · subst z
        rw [eV_s]
        have e9 : upd (bv S b) (9 + r) (nI (κ + 1)) (9 + r) = nI (κ + 1) := if_pos rfl
        rw [e9]
        exact ⟨rfl, κ + 1, by omega, rfl⟩
      · rw [eV_c z, upd_ne (by omega)]
        obtain ⟨a1, κ2, a2, a3⟩ := qf r hr
        exact ⟨a1, κ2, by omega, a3⟩
    · rw [u 1 (by decide)]; exact ql
    · rw [u 6 (by decide)]; exact qj
  have ee : e_fail E b (nI (i + 1)) = (if e_db E i (nI (κ + 1)) = 0 then e_enter (eV E (40 + b) i (nI (κ + 1))) b 2 (E.1 5 + E.1 6) else e_enter (eV E (40 + b) i (nI (κ + 1))) b 0 (e_fcf (eV E (40 + b) i (nI (κ + 1))) 1000 (E.1 5 + e_db E i (nI (κ + 1))))) := by
    have t : e_db (eV E (40 + b) i (E.2.1 (40 + b) i + 1)) i ((eV E (40 + b) i (E.2.1 (40 + b) i + 1)).2.1 (40 + b) i) = e_db E i (nI (κ + 1)) := by
      rw [eV_s, qfi, nI_1]
      unfold e_db
      have r20 : (eV E (40 + b) i (nI (κ + 1))).2.1 (20 + i) = E.2.1 (20 + i) := eV_r (by omega)
      rw [r20]
      rfl
    unfold e_fail
    dsimp only
    rw [ci, t, qfi, nI_1]
    rfl
  rw [ee]
  constructor
  · intro g z eg hg
    obtain ⟨g', g1, g30, gE, gS⟩ := gp3 κ z
    have hgg : g' = g := (nI_eq (by omega) (by omega)).mp (gS.symm.trans eg)
    subst hgg
    have hd0 : e_db E i (nI (κ + 1)) = nI g' := by
      unfold e_db
      have z1 : ¬ nI (κ + 1) < 1 := nI_nlt (a := κ + 1) (b := 1) (by omega) (by omega)
      have z2 : ¬ nI qc < nI (κ + 1) := nI_nlt (by omega) (by omega)
      have z3 : ¬ (6 : Int32) < nI (κ + 1) := nI_nlt (a := 6) (b := κ + 1) (by omega) (by omega)
      rw [gp1, if_neg z1, if_neg z2, if_neg z3, nI_pred, nI_clamp (by omega)]
      exact gE
    rw [hd0, if_neg (nI_n0 (by omega) (by omega)), G.d5, nI_add]
    refine sim_ent (rx_13 hX hb _) hb hY hN (Nat.le_refl _) (by decide) rfl ?_
    rw [wf_d (by omega), mA_s]
    exact sim_fcf hX.1 1000 (Y + g') (by omega)
  · intro z
    have hd0 : e_db E i (nI (κ + 1)) = 0 := by
      unfold e_db
      have z1 : ¬ nI (κ + 1) < 1 := nI_nlt (a := κ + 1) (b := 1) (by omega) (by omega)
      have z2 : nI qc < nI (κ + 1) := nI_lt (by omega) (by omega)
      rw [gp1, if_neg z1, if_pos z2]
    rw [hd0, if_pos rfl]
    refine sim_ent (rx_13 hX hb _) hb hY hN (Nat.le_refl _) (by decide) rfl ?_
    rw [wf_d (by omega), mA_s, G.d5, G.g6]
theorem lk_0w (H : Rel h n N Y E S) (hb : b < n) (hY : Y ≤ 8000) (hN : N ≤ 200000) (s : S 5 b = nI 0) (hd : nI Y < S 5 (12 + b)) : (e_look E b).1 = 0 ∧ Rel h n N Y (e_look E b).2 (S) := by
  have G := H.1
  have n12 := G.n12
  obtain ⟨⟨q0, q1, q3, q6, q7, q8, q9, q10, qf, ql, qj⟩, σ, w1, w2, w3, w4⟩ := H.2.1 b hb
  have hσ : nI σ = nI 0 := w2.symm.trans s
  have hσ2 : σ = 0 := (nI_eq (by omega) (by decide)).mp hσ
  subst hσ2
  have w4' : E.2.1 5 b = S 5 (12 + b) := w4.trans (wf_d (by omega))
  have w3 : E.2.1 4 b = 0 := w3
  unfold e_look
  rw [if_pos w3, G.d5, w4', if_pos hd]
  exact ⟨rfl, H⟩
theorem lk_0t (H : Rel h n N Y E S) (hb : b < n) (hY : Y ≤ 8000) (hN : N ≤ 200000) (s : S 5 b = nI 0) (hd : ¬ nI Y < S 5 (12 + b)) (hc : ¬ m_chg (S 0 1) (S 1) h Y = 0) : (e_look E b).1 = 1 ∧ Rel h n (N + 1) Y (e_look E b).2 (m_ent (mA S 5 (24 + b) (S 5 (24 + b) + nI 1)) Y N b 1) := by
  have G := H.1
  have n12 := G.n12
  obtain ⟨⟨q0, q1, q3, q6, q7, q8, q9, q10, qf, ql, qj⟩, σ, w1, w2, w3, w4⟩ := H.2.1 b hb
  have hσ : nI σ = nI 0 := w2.symm.trans s
  have hσ2 : σ = 0 := (nI_eq (by omega) (by decide)).mp hσ
  subst hσ2
  have w4' : E.2.1 5 b = S 5 (12 + b) := w4.trans (wf_d (by omega))
  have w3 : E.2.1 4 b = 0 := w3
  unfold e_look
  rw [if_pos w3, G.d5, w4', if_neg hd]
  unfold e_bt
  rw [G.d5, sim_chg G (by omega), if_neg hc]
  refine ⟨rfl, ?_⟩
  have hX : RX h n N N Y (eV E 6 b (E.2.1 6 b + 1)) (mA S 5 (24 + b) (S 5 (24 + b) + nI 1)) b := by
    refine rx_of (H.x hb) hb ⟨G.n4, G.n2, G.d5, G.d0, G.g6, G.g7, G.g8, G.g9, G.g10, G.g11, G.t13, G.t8, G.ring, G.cod, (all4 (G.gp 0 (by decide)) (G.gp 1 (by decide)) (G.gp 2 (by decide)) (G.gp 3 (by decide))), G.rk, G.w63, G.hd, G.hl, G.h60, G.n12⟩ (Nat.le_refl N) ?_ (oe_eV oe_rf (Or.inl (by decide))) (fun c h1 h2 => bv_o (by refine ⟨?_, ?_, ?_, ?_⟩ <;> omega) h1 h2 (by omega))
    rw [bv_4 (by omega)]
    refine ⟨q0, q1, q3, ?_, q7, q8, q9, q10, fun r hr => ?_, ql, qj⟩
    · rw [eV_s, q6]; rfl
    · rw [eV_r (by omega), upd_ne (by omega)]; exact qf r hr
  exact sim_ent hX hb hY hN (Nat.le_succ N) (by decide) rfl (wf_m (by omega)).symm
theorem lk_0f (H : Rel h n N Y E S) (hb : b < n) (hY : Y ≤ 8000) (hN : N ≤ 200000) (s : S 5 b = nI 0) (hd : ¬ nI Y < S 5 (12 + b)) (hc : m_chg (S 0 1) (S 1) h Y = 0) : (e_look E b).1 = 0 ∧ Rel h n N Y (e_look E b).2 (mA S 5 (12 + b) (nI (m_cf (S 0 1) (S 1) h 1000 (Y + 1)))) := by
  have G := H.1
  have n12 := G.n12
  obtain ⟨⟨q0, q1, q3, q6, q7, q8, q9, q10, qf, ql, qj⟩, σ, w1, w2, w3, w4⟩ := H.2.1 b hb
  have hσ : nI σ = nI 0 := w2.symm.trans s
  have hσ2 : σ = 0 := (nI_eq (by omega) (by decide)).mp hσ
  subst hσ2
  have w4' : E.2.1 5 b = S 5 (12 + b) := w4.trans (wf_d (by omega))
  have w3 : E.2.1 4 b = 0 := w3
  unfold e_look
  rw [if_pos w3, G.d5, w4', if_neg hd]
  unfold e_bt
  rw [G.d5, sim_chg G (by omega), if_pos hc]
  refine ⟨rfl, ?_⟩
  have e1 : e_fcf E 1000 (nI Y + 1) = nI (m_cf (S 0 1) (S 1) h 1000 (Y + 1)) := by rw [nI_1]; exact sim_fcf G 1000 (Y + 1) (by omega)
  rw [e1]
  have hX : RX h n N N Y (eV E 5 b (nI (m_cf (S 0 1) (S 1) h 1000 (Y + 1)))) (mA S 5 (12 + b) (nI (m_cf (S 0 1) (S 1) h 1000 (Y + 1)))) b := by
    refine rx_of (H.x hb) hb ⟨G.n4, G.n2, G.d5, G.d0, G.g6, G.g7, G.g8, G.g9, G.g10, G.g11, G.t13, G.t8, G.ring, G.cod, (all4 (G.gp 0 (by decide)) (G.gp 1 (by decide)) (G.gp 2 (by decide)) (G.gp 3 (by decide))), G.rk, G.w63, G.hd, G.hl, G.h60, G.n12⟩ (Nat.le_refl N) ?_ (oe_eV oe_rf (Or.inl (by decide))) (fun c h1 h2 => bv_o (by refine ⟨?_, ?_, ?_, ?_⟩ <;> omega) h1 h2 (by omega))
    rw [bv_3 (by omega)]
    exact rc_w (H.2.1 b hb).1 (fun k h4 h5 _ => by rw [eV_r h5]) (by rw [eV_r (by omega)]) (fun k h2 h3 => upd_ne h3)
  refine hX.rel ⟨0, by decide, ?_, w3, ?_⟩
  · rw [bv_3 (by omega)]; exact w2
  · rw [eV_s, bv_3 (by omega), wf_d (by omega)]; rfl
theorem lk_2 (H : Rel h n N Y E S) (hb : b < n) (hY : Y ≤ 8000) (hN : N ≤ 200000) (s : S 5 b = nI 2) (hd : S 5 (12 + b) = nI Y) : (e_look E b).1 = 0 ∧ Rel h n (N + 1) Y (e_look E b).2 (m_ent (mA S 5 (12 + b) (S 5 (12 + b) + S 0 4)) Y N b 3) := by
  have G := H.1
  have n12 := G.n12
  obtain ⟨⟨q0, q1, q3, q6, q7, q8, q9, q10, qf, ql, qj⟩, σ, w1, w2, w3, w4⟩ := H.2.1 b hb
  have hσ : nI σ = nI 2 := w2.symm.trans s
  have hσ2 : σ = 2 := (nI_eq (by omega) (by decide)).mp hσ
  subst hσ2
  have w4' : E.2.1 5 b = S 5 (12 + b) := w4.trans (wf_d (by omega))
  have w3 : E.2.1 4 b = 2 := w3
  have z0 : ¬ E.2.1 4 b = 0 := by rw [w3]; decide
  unfold e_look
  rw [if_neg z0, G.d5, w4', if_pos hd, if_pos w3]
  refine ⟨rfl, sim_ent (rx_13 (H.x hb) hb _) hb hY hN (Nat.le_succ N) (by decide) rfl ?_⟩
  rw [wf_d (by omega), mA_s, G.g7, hd]
theorem lk_3 (H : Rel h n N Y E S) (hb : b < n) (hY : Y ≤ 8000) (hN : N ≤ 200000) (s : S 5 b = nI 3) (hd : S 5 (12 + b) = nI Y) : (e_look E b).1 = 0 ∧ Rel h n (N + 1) Y (e_look E b).2 (m_ent (mA S 0 6 (S 0 6 + S 4 (24 + b))) Y N b 5) := by
  have G := H.1
  have n12 := G.n12
  obtain ⟨⟨q0, q1, q3, q6, q7, q8, q9, q10, qf, ql, qj⟩, σ, w1, w2, w3, w4⟩ := H.2.1 b hb
  have hσ : nI σ = nI 3 := w2.symm.trans s
  have hσ2 : σ = 3 := (nI_eq (by omega) (by decide)).mp hσ
  subst hσ2
  have w4' : E.2.1 5 b = S 5 (12 + b) := w4.trans (wf_d (by omega))
  have w3 : E.2.1 4 b = 3 := w3
  have z0 : ¬ E.2.1 4 b = 0 := by rw [w3]; decide
  have z2 : ¬ E.2.1 4 b = 2 := by rw [w3]; decide
  unfold e_look
  rw [if_neg z0, G.d5, w4', if_pos hd, if_neg z2, if_pos w3]
  have q3' : E.2.1 3 b = S 4 (24 + b) := q3
  have hX : RX h n N N Y (eG E 10 (E.1 10 + E.2.1 3 b)) (mA S 0 6 (S 0 6 + S 4 (24 + b))) b := by
    refine rx_of (H.x hb) hb ⟨G.n4, G.n2, G.d5, G.d0, G.g6, G.g7, G.g8, G.g9, (by show E.1 10 + E.2.1 3 b = S 0 6 + S 4 (24 + b); rw [G.g10, q3']), G.g11, G.t13, G.t8, G.ring, G.cod, (all4 (G.gp 0 (by decide)) (G.gp 1 (by decide)) (G.gp 2 (by decide)) (G.gp 3 (by decide))), G.rk, G.w63, G.hd, G.hl, G.h60, G.n12⟩ (Nat.le_refl N) ?_ oe_rf (fun c h1 h2 => bv_n (by omega))
    rw [bv_n (by omega)]
    exact (H.2.1 b hb).1
  exact ⟨rfl, sim_ent hX hb hY hN (Nat.le_succ N) (by decide) rfl (wf_m (by omega)).symm⟩
theorem lk_4a (H : Rel h n N Y E S) (hb : b < n) (hY : Y ≤ 8000) (hN : N ≤ 200000) (s : S 5 b = nI 4) (hd : S 5 (12 + b) = nI Y) (hk : S 7 b = 0) : (e_look E b).1 = 0 ∧ Rel h n (N + 1) Y (e_look E b).2 (m_ent (mA (mA S 7 (24 + b) (S 7 (24 + b) + nI 1)) 5 (12 + b) (nI (m_cf (S 0 1) (S 1) h 1000 (Y + 1)))) Y N b 0) := by
  have G := H.1
  have n12 := G.n12
  obtain ⟨⟨q0, q1, q3, q6, q7, q8, q9, q10, qf, ql, qj⟩, σ, w1, w2, w3, w4⟩ := H.2.1 b hb
  have hσ : nI σ = nI 4 := w2.symm.trans s
  have hσ2 : σ = 4 := (nI_eq (by omega) (by decide)).mp hσ
  subst hσ2
  have w4' : E.2.1 5 b = S 5 (12 + b) := w4.trans (wf_d (by omega))
  have w3 : E.2.1 4 b = 4 := w3
  have z0 : ¬ E.2.1 4 b = 0 := by rw [w3]; decide
  have z2 : ¬ E.2.1 4 b = 2 := by rw [w3]; decide
  have z3 : ¬ E.2.1 4 b = 3 := by rw [w3]; decide
  unfold e_look
  rw [if_neg z0, G.d5, w4', if_pos hd, if_neg z2, if_neg z3, if_pos w3]
  have hX : RX h n N N Y (eV E 8 b (E.2.1 8 b + 1)) (mA S 7 (24 + b) (S 7 (24 + b) + nI 1)) b := by
    refine rx_of (H.x hb) hb ⟨G.n4, G.n2, G.d5, G.d0, G.g6, G.g7, G.g8, G.g9, G.g10, G.g11, G.t13, G.t8, G.ring, G.cod, (all4 (G.gp 0 (by decide)) (G.gp 1 (by decide)) (G.gp 2 (by decide)) (G.gp 3 (by decide))), G.rk, G.w63, G.hd, G.hl, G.h60, G.n12⟩ (Nat.le_refl N) ?_ (oe_eV oe_rf (Or.inl (by decide))) (fun c h1 h2 => bv_o (by refine ⟨?_, ?_, ?_, ?_⟩ <;> omega) h1 h2 (by omega))
    rw [bv_8 (by omega)]
    refine ⟨q0, q1, q3, q6, q7, ?_, q9, q10, fun r hr => ?_, ql, qj⟩
    · rw [eV_s, q8]; rfl
    · rw [eV_r (by omega), upd_ne (by omega)]; exact qf r hr
  have ebp : e_bp E b = (if E.2.1 9 b = 0 then e_enter (eV E 8 b (E.2.1 8 b + 1)) b 0 (e_fcf (eV E 8 b (E.2.1 8 b + 1)) 1000 (E.1 5 + 1)) else e_enter (eV E 8 b (E.2.1 8 b + 1)) b (E.2.1 9 b) (E.1 5 + E.2.1 10 b)) := rfl
  have q9' : E.2.1 9 b = S 7 b := q9
  have q10' : E.2.1 10 b = S 7 (12 + b) := q10
  rw [ebp, q9', if_pos hk, G.d5, nI_1]
  refine ⟨rfl, sim_ent (rx_13 hX hb _) hb hY hN (Nat.le_succ N) (by decide) rfl ?_⟩
  rw [wf_d (by omega), mA_s]
  exact sim_fcf hX.1 1000 (Y + 1) (by omega)
theorem lk_4b (H : Rel h n N Y E S) (hb : b < n) (hY : Y ≤ 8000) (hN : N ≤ 200000) (s : S 5 b = nI 4) (hd : S 5 (12 + b) = nI Y) (hk : ¬ S 7 b = 0) {τ : Nat} (hτ : S 7 b = nI τ) (hτ2 : τ = 0 ∨ τ = 2 ∨ τ = 3) : (e_look E b).1 = 0 ∧ Rel h n (N + 1) Y (e_look E b).2 (m_ent (mA (mA S 7 (24 + b) (S 7 (24 + b) + nI 1)) 5 (12 + b) (nI Y + S 7 (12 + b))) Y N b τ) := by
  have G := H.1
  have n12 := G.n12
  obtain ⟨⟨q0, q1, q3, q6, q7, q8, q9, q10, qf, ql, qj⟩, σ, w1, w2, w3, w4⟩ := H.2.1 b hb
  have hσ : nI σ = nI 4 := w2.symm.trans s
  have hσ2 : σ = 4 := (nI_eq (by omega) (by decide)).mp hσ
  subst hσ2
  have w4' : E.2.1 5 b = S 5 (12 + b) := w4.trans (wf_d (by omega))
  have w3 : E.2.1 4 b = 4 := w3
  have z0 : ¬ E.2.1 4 b = 0 := by rw [w3]; decide
  have z2 : ¬ E.2.1 4 b = 2 := by rw [w3]; decide
  have z3 : ¬ E.2.1 4 b = 3 := by rw [w3]; decide
  unfold e_look
  rw [if_neg z0, G.d5, w4', if_pos hd, if_neg z2, if_neg z3, if_pos w3]
  have hX : RX h n N N Y (eV E 8 b (E.2.1 8 b + 1)) (mA S 7 (24 + b) (S 7 (24 + b) + nI 1)) b := by
    refine rx_of (H.x hb) hb ⟨G.n4, G.n2, G.d5, G.d0, G.g6, G.g7, G.g8, G.g9, G.g10, G.g11, G.t13, G.t8, G.ring, G.cod, (all4 (G.gp 0 (by decide)) (G.gp 1 (by decide)) (G.gp 2 (by decide)) (G.gp 3 (by decide))), G.rk, G.w63, G.hd, G.hl, G.h60, G.n12⟩ (Nat.le_refl N) ?_ (oe_eV oe_rf (Or.inl (by decide))) (fun c h1 h2 => bv_o (by refine ⟨?_, ?_, ?_, ?_⟩ <;> omega) h1 h2 (by omega))
    rw [bv_8 (by omega)]
    refine ⟨q0, q1, q3, q6, q7, ?_, q9, q10, fun r hr => ?_, ql, qj⟩
    · rw [eV_s, q8]; rfl
    · rw [eV_r (by omega), upd_ne (by omega)]; exact qf r hr
  have ebp : e_bp E b = (if E.2.1 9 b = 0 then e_enter (eV E 8 b (E.2.1 8 b + 1)) b 0 (e_fcf (eV E 8 b (E.2.1 8 b + 1)) 1000 (E.1 5 + 1)) else e_enter (eV E 8 b (E.2.1 8 b + 1)) b (E.2.1 9 b) (E.1 5 + E.2.1 10 b)) := rfl
  have q9' : E.2.1 9 b = S 7 b := q9
  have q10' : E.2.1 10 b = S 7 (12 + b) := q10
  rw [ebp, q9', if_neg hk, G.d5]
  refine ⟨rfl, sim_ent (rx_13 hX hb _) hb hY hN (Nat.le_succ N) (by omega) hτ ?_⟩
  rw [wf_d (by omega), mA_s, q10']
theorem lk_n (H : Rel h n N Y E S) (hb : b < n) (hy : (∃ σ, (σ = 2 ∨ σ = 3 ∨ σ = 4) ∧ S 5 b = nI σ ∧ ¬ S 5 (12 + b) = nI Y) ∨ ∃ σ, (σ = 1 ∨ σ = 5 ∨ σ = 6) ∧ S 5 b = nI σ) : (e_look E b).1 = 0 ∧ Rel h n N Y (e_look E b).2 S := by
  have G := H.1
  obtain ⟨-, σ, w1, w2, w3, w4⟩ := H.2.1 b hb
  have key : e_look E b = (0, E) := by
    unfold e_look
    rcases hy with ⟨τ, t1, t2, t3⟩ | ⟨τ, t1, t2⟩
    · have hσ : σ = τ := (nI_eq (by omega) (by omega)).mp (w2.symm.trans t2)
      subst hσ
      have z0 : ¬ E.2.1 4 b = 0 := by rw [w3]; exact nI_n0 (by omega) (by omega)
      have w4' : E.2.1 5 b = S 5 (12 + b) := w4.trans (wf_d (by omega))
      rw [if_neg z0, w4', G.d5, if_neg t3]
    · have hσ : σ = τ := (nI_eq (by omega) (by omega)).mp (w2.symm.trans t2)
      subst hσ
      have ne : ∀ k, k < 5 → k ≠ 1 → ¬ nI σ = nI k := fun k hk h1 z => by have := (nI_eq (by omega) (by omega)).mp z; omega
      have z0 : ¬ E.2.1 4 b = 0 := by rw [w3]; exact ne 0 (by decide) (by decide)
      have z2 : ¬ E.2.1 4 b = 2 := by rw [w3]; exact ne 2 (by decide) (by decide)
      have z3 : ¬ E.2.1 4 b = 3 := by rw [w3]; exact ne 3 (by decide) (by decide)
      have z4 : ¬ E.2.1 4 b = 4 := by rw [w3]; exact ne 4 (by decide) (by decide)
      rw [if_neg z0, if_neg z2, if_neg z3, if_neg z4]
      split <;> rfl
  rw [key]
  exact ⟨rfl, H⟩
theorem fut_hi : ∀ (k i : Nat) (E : ES), n ≤ i → e_fut n k i E = E
  | 0, _, _, _ => rfl
  | k + 1, i, E, h => by
    unfold e_fut
    rw [if_neg (by omega)]
    exact fut_hi k (i + 1) E (by omega)
theorem lab_hi : ∀ (k i : Nat) (c : Int32) (E : ES), n ≤ i → e_lab n k i c E = (c, E)
  | 0, _, _, _, _ => rfl
  | k + 1, i, c, E, h => by
    unfold e_lab
    rw [if_neg (by omega)]
    exact lab_hi k (i + 1) c E (by omega)
end SIM
