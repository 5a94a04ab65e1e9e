theorem bv_12 {S : MS} {i c : Nat} {v : Int32} (h1 : c ≠ i) (h2 : 24 + c ≠ i) : bv (mA S 4 i v) c = bv S c := bv_ext (mA_c h1) (mA_c h2) rfl rfl rfl rfl rfl rfl rfl (fun _ _ => rfl)
section SIM2
variable {h n N Y b : Nat} {E : ES} {S : MS}
theorem Rel.st (H : Rel h n N Y E S) (hb : b < n) : E.2.1 4 b = S 5 b := by
  obtain ⟨-, σ, -, w2, w3, -⟩ := H.2.1 b hb
  exact w3.trans w2.symm
theorem Rel.le (H : Rel h n N Y E S) (hb : b < n) : E.2.1 3 b = S 4 (24 + b) := (H.2.1 b hb).1.2.2.1
theorem Rel.lv (H : Rel h n N Y E S) (hb : b < n) : ∃ v, v ≤ 9999 ∧ S 4 (24 + b) = nI v := (H.2.1 b hb).1.2.2.2.2.2.2.2.2.2.1
theorem Rel.sg (H : Rel h n N Y E S) (hb : b < n) : ∃ σ, σ ≤ 6 ∧ S 5 b = nI σ := by
  obtain ⟨-, σ, w1, w2, -⟩ := H.2.1 b hb
  exact ⟨σ, w1, w2⟩
theorem sim_take (H : Rel h n N Y E S) (hb : b < n) (hY : Y ≤ 8000) (hN : N ≤ 200000) {l ν : Nat} (hl : S 4 (24 + b) = nI l) (hl9 : l ≤ 9999) (hν : ν ≤ l) {S1 : MS} (h0 : ∀ j, j ≠ 5 → j ≠ 7 → S1 0 j = S 0 j) (h5 : S1 0 5 = S 0 5 + nI ν) (h7 : S1 0 7 = if S 5 b = nI 5 then S 0 7 + nI ν else S 0 7) (h4 : S1 4 = mA S 4 (24 + b) (nI (l - ν)) 4) (hr : ∀ a, a ≠ 0 → a ≠ 4 → S1 a = S a) :
    (l - ν = 0 → Rel h n (N + 1) Y (e_take E b (nI ν)) (m_ent S1 Y N b 6)) ∧ (¬ l - ν = 0 → Rel h n N Y (e_take E b (nI ν)) S1) := by
  have G := H.1
  have n12 := G.n12
  obtain ⟨⟨q0, q1, q3, q6, q7, q8, q9, q10, qf, ql, qj⟩, w⟩ := H.2.1 b hb
  have hst := H.st hb
  have q3' : E.2.1 3 b = nI l := q3.trans hl
  have hbv : ∀ c, bv S1 c = bv (mA S 4 (24 + b) (nI (l - ν))) c := fun c => bv_ext (congrFun h4 _) (congrFun h4 _) (congrFun (hr 5 (by decide) (by decide)) _) (congrFun (hr 5 (by decide) (by decide)) _) (congrFun (hr 5 (by decide) (by decide)) _) (congrFun (hr 5 (by decide) (by decide)) _) (congrFun (hr 7 (by decide) (by decide)) _) (congrFun (hr 7 (by decide) (by decide)) _) (congrFun (hr 7 (by decide) (by decide)) _) (fun r _ => congrFun (hr 6 (by decide) (by decide)) _)
  have e3 : ∀ E9 : ES, E9.2 = (eV E 3 b (nI (l - ν))).2 → E9.1 9 = S 0 5 + nI ν → E9.1 11 = S1 0 7 → (∀ k, k ≠ 9 → k ≠ 11 → E9.1 k = E.1 k) → RX h n N N Y E9 S1 b := by
    intro E9 f2 f9 f11 fo
    obtain ⟨E9a, E9b⟩ := E9
    have f2 : E9b = (eV E 3 b (nI (l - ν))).2 := f2
    subst f2
    refine rx_of (H.x hb) hb ⟨(fo 4 (by decide) (by decide)).trans G.n4, (h0 2 (by decide) (by decide)).trans G.n2, (fo 5 (by decide) (by decide)).trans G.d5, (h0 0 (by decide) (by decide)).trans G.d0, (fo 6 (by decide) (by decide)).trans (G.g6.trans (h0 3 (by decide) (by decide)).symm), (fo 7 (by decide) (by decide)).trans (G.g7.trans (h0 4 (by decide) (by decide)).symm), ?_, f9.trans h5.symm, (fo 10 (by decide) (by decide)).trans (G.g10.trans (h0 6 (by decide) (by decide)).symm), f11, (fo 13 (by decide) (by decide)).trans G.t13, (h0 8 (by decide) (by decide)).trans G.t8, (by rw [hr 8 (by decide) (by decide)]; exact G.ring), (by rw [hr 8 (by decide) (by decide)]; exact G.cod), fun i hi => ?_, ?_, (by rw [hr 1 (by decide) (by decide)]; exact G.w63), (by rw [hr 1 (by decide) (by decide)]; exact G.hd), (by rw [hr 1 (by decide) (by decide)]; exact G.hl), G.h60, G.n12⟩ (Nat.le_refl N) ?_ ?_ (fun c h1 h2 => by rw [hbv]; exact bv_o (by refine ⟨?_, ?_, ?_, ?_⟩ <;> omega) h1 h2 (by omega))
    · refine (fo 8 (by decide) (by decide)).trans (G.g8.trans ?_)
      rw [h4]
      exact (bs_u n (fun k hk => by omega)).symm
    · obtain ⟨c, c1, c2, c3, c4⟩ := G.gp i hi
      refine ⟨c, c1, (fo (14 + i) (by omega) (by omega)).trans c2, by rw [hr 3 (by decide) (by decide)]; exact c3, fun j hj => ?_⟩
      obtain ⟨g, g1, g2, g3, g4⟩ := c4 j hj
      exact ⟨g, g1, g2, (congrFun (eV_r (by omega)) j).trans g3, by rw [hr 2 (by decide) (by decide)]; exact g4⟩
    · obtain ⟨m, m1, m2, m3, m4⟩ := G.rk
      exact ⟨m, m1, m2, (fo 12 (by decide) (by decide)).trans m3, (h0 1 (by decide) (by decide)).trans m4⟩
    · rw [hbv, bv_1 (by omega)]
      refine ⟨q0, q1, eV_s, q6, q7, q8, q9, q10, fun r hr9 => ?_, ⟨l - ν, by omega, rfl⟩, qj⟩
      rw [upd_ne (by omega)]
      obtain ⟨a1, a2⟩ := qf r hr9
      exact ⟨(congrFun (eV_r (by omega)) r).trans a1, a2⟩
    · exact oe_eV oe_rf (Or.inl (by decide))
  obtain ⟨E9, hE9⟩ : ∃ E9 : ES, E9 = (if E.2.1 4 b = 5 then eG (eG (eV E 3 b (nI (l - ν))) 9 (E.1 9 + nI ν)) 11 (E.1 11 + nI ν) else eG (eV E 3 b (nI (l - ν))) 9 (E.1 9 + nI ν)) := ⟨_, rfl⟩
  have hX : RX h n N N Y E9 S1 b := by
    rw [hst] at hE9
    by_cases z : S 5 b = nI 5
    · rw [if_pos (show S 5 b = 5 from z)] at hE9
      subst hE9
      rw [if_pos z] at h7
      refine e3 _ rfl ?_ ?_ (fun k h1 h2 => ?_)
      · show E.1 9 + nI ν = _; rw [G.g9]
      · show E.1 11 + nI ν = _; rw [h7, G.g11]
      · show upd (upd E.1 9 _) 11 _ k = E.1 k
        rw [upd_ne h2, upd_ne h1]
    · rw [if_neg (show ¬ S 5 b = 5 from z)] at hE9
      subst hE9
      rw [if_neg z] at h7
      refine e3 _ rfl ?_ ?_ (fun k h1 h2 => ?_)
      · show E.1 9 + nI ν = _; rw [G.g9]
      · show E.1 11 = _; rw [h7, G.g11]
      · show upd E.1 9 _ k = E.1 k
        rw [upd_ne h1]
  have ee : e_take E b (nI ν) = if E9.2.1 3 b = 0 then e_enter E9 b 6 (-1) else E9 := by
    have e1 : E.2.1 3 b - nI ν = nI (l - ν) := by rw [q3', pk_sub hν]
    rw [hE9, ← e1]
    rfl
  have hl3 : E9.2.1 3 b = nI (l - ν) := by
    rw [hE9]
    split
    · exact eV_s
    · exact eV_s
  rw [ee, hl3]
  constructor
  · intro z
    rw [z, if_pos (show nI 0 = 0 from rfl)]
    exact sim_ent hX hb hY hN (Nat.le_succ N) (by decide) rfl (wf_m (by omega)).symm
  · intro z
    rw [if_neg (nI_n0 (by omega) (by omega))]
    obtain ⟨σ, w1, w2, w3, w4⟩ := w
    have e5 : S1 5 b = S 5 b := congrFun (hr 5 (by decide) (by decide)) b
    have e6 : S1 5 (12 + b) = S 5 (12 + b) := congrFun (hr 5 (by decide) (by decide)) _
    have r4 : E9.2 = (eV E 3 b (nI (l - ν))).2 := by
      rw [hE9]
      split
      · rfl
      · rfl
    refine hX.rel ⟨σ, w1, e5.trans w2, ?_, ?_⟩
    · rw [r4]; exact w3
    · rw [r4, show bv S1 b 3 = S1 5 (12 + b) from rfl, e6]; exact w4
/-- a new bill -/
theorem sim_bill (H : Rel h n N Y E S) (hn : n < 12) (hY : Y ≤ 8000) (hN : N ≤ 200000) {α ν : Nat} (hν : ν ≤ 9999) : Rel h (n + 1) (N + 1) Y (e_billE E n (nI α) (nI ν)) (m_ent (mA (mA (mA (mA (mA S 4 n (nI α)) 4 (12 + n) (nI ν)) 4 (24 + n) (nI ν)) 5 (12 + n) (nI (m_cf (S 0 1) (S 1) h 1000 (Y + 1)))) 0 2 (nI (n + 1))) Y N n 0) := by
  have G := H.1
  have hhi : ∀ k, 10 < k → k ≠ 40 + n → (e_bill1 E n (nI α) (nI ν)).2.1 k = E.2.1 k := fun k h1 h2 => e_bill0_hi E n _ _ k h1 h2
  have hlo : ∀ k c, k ≤ 10 → c ≠ n → (e_bill1 E n (nI α) (nI ν)).2.1 k c = E.2.1 k c := fun k c h1 h2 => e_bill0_lo E n _ _ k c h1 h2
  have hb := fun k hk => e_bill0_n E n (nI α) (nI ν) k hk
  have hX : RX h (n + 1) N N Y (e_bill1 E n (nI α) (nI ν)) (mA (mA (mA (mA (mA S 4 n (nI α)) 4 (12 + n) (nI ν)) 4 (24 + n) (nI ν)) 5 (12 + n) (nI (m_cf (S 0 1) (S 1) h 1000 (Y + 1)))) 0 2 (nI (n + 1))) n := by
    refine ⟨⟨(show nI n + 1 = nI (n + 1) from nI_1 n), rfl, G.d5, G.d0, G.g6, G.g7, ?_, G.g9, G.g10, G.g11, G.t13, G.t8, fun t t1 t2 => by rw [hhi 30 (by decide) (by omega)]; exact G.ring t t1 t2, G.cod, fun i hi => (G.gp i hi).elim fun c w => ⟨c, w.1, (upd_ne (show 14 + i ≠ 8 by omega)).trans ((upd_ne (show 14 + i ≠ 4 by omega)).trans w.2.1), w.2.2.1, fun k hk => by rw [hhi (20 + i) (by omega) (by omega)]; exact w.2.2.2 k hk⟩, G.rk, G.w63, G.hd, G.hl, G.h60, hn⟩, ?_, fun c hc hcn => ?_, fun c h1 h2 => ?_⟩
    · show E.1 8 + nI ν = bs (mA (mA (mA S 4 n (nI α)) 4 (12 + n) (nI ν)) 4 (24 + n) (nI ν) 4) (n + 1)
      rw [bs, bs_u n (fun k hk => by omega), bs_u n (fun k hk => by omega), bs_u n (fun k hk => by omega), mA_c (by omega), mA_s, G.g8]
    · rw [bv_n (by omega), bv_3 (by omega), bv_1 (by omega), bv_12 (by omega) (by omega), bv_0 (by omega)]
      obtain ⟨z4, z5, z6, z7, z8, zf⟩ := H.2.2 n (Nat.le_refl n) hn
      refine ⟨hb 0 (by decide), hb 1 (by decide), hb 3 (by decide), (hb 6 (by decide)).trans z4.symm, (hb 7 (by decide)).trans z5.symm, (hb 8 (by decide)).trans z8.symm, (hb 9 (by decide)).trans z6.symm, (hb 10 (by decide)).trans z7.symm, fun r hr => ?_, ⟨ν, hν, rfl⟩, Or.inl z6⟩
      rw [upd_ne (by omega), upd_ne (by omega), upd_ne (by omega)]
      exact ⟨(congrFun (e_bill0_f E n (nI α) (nI ν)) r).trans (zf r hr).symm, 0, Nat.zero_le _, zf r hr⟩
    · rw [bv_n (by omega), bv_o (b := n) (by refine ⟨?_, ?_, ?_, ?_⟩ <;> omega) hcn (by omega) hn, bv_o (b := n) (by refine ⟨?_, ?_, ?_, ?_⟩ <;> omega) hcn (by omega) hn, bv_o (b := n) (by refine ⟨?_, ?_, ?_, ?_⟩ <;> omega) hcn (by omega) hn, bv_o (b := n) (by refine ⟨?_, ?_, ?_, ?_⟩ <;> omega) hcn (by omega) hn]
      exact oe_c ⟨fun k c h1 h2 => hlo k c h2 h1, fun c h1 => hhi (40 + c) (by omega) (by omega)⟩ hcn (H.2.1 c (by omega))
    · rw [bv_n (by omega), bv_o (b := n) (by refine ⟨?_, ?_, ?_, ?_⟩ <;> omega) (by omega) h2 hn, bv_o (b := n) (by refine ⟨?_, ?_, ?_, ?_⟩ <;> omega) (by omega) h2 hn, bv_o (b := n) (by refine ⟨?_, ?_, ?_, ?_⟩ <;> omega) (by omega) h2 hn, bv_o (b := n) (by refine ⟨?_, ?_, ?_, ?_⟩ <;> omega) (by omega) h2 hn]
      exact H.2.2 c (by omega) h2
  refine sim_ent hX (Nat.lt_succ_self n) hY hN (Nat.le_succ N) (by decide) rfl ?_
  rw [wf_d (by omega), mA_ro (by decide), mA_s]
  have e5 : (e_bill1 E n (nI α) (nI ν)).1 5 = nI Y := G.d5
  rw [e5, nI_1]
  exact sim_fcf hX.1 1000 (Y + 1) (by omega)
theorem sim_prom (H : Rel h n N Y E S) (hb : b < n) (hY : Y ≤ 8000) (hN : N ≤ 200000) {d : Nat} (hs : S 5 b = nI 0 ∨ S 5 b = nI 2 ∨ S 5 b = nI 3) : Rel h n (N + 1) Y (e_prom1 E b (nI d)) (m_ent (mA (mA (mA (mA S 5 (36 + b) (S 5 (36 + b) + nI 1)) 7 b (S 5 b)) 7 (12 + b) (S 5 (12 + b) - nI Y)) 5 (12 + b) (nI (Y + d))) Y N b 4) ∧ (e_prom1 E b (nI d)).2.1 5 b = nI (Y + d) := by
  have G := H.1
  have n12 := G.n12
  obtain ⟨⟨q0, q1, q3, q6, q7, q8, q9, q10, qf, ql, qj⟩, σ, w1, w2, w3, w4⟩ := H.2.1 b hb
  have w2' : S 5 b = nI σ := w2
  have w5' : E.2.1 5 b = S 5 (12 + b) := by
    refine w4.trans (wf_d ?_)
    rcases hs with z | z | z
    · have := (nI_eq (by omega) (by omega)).mp (w2'.symm.trans z); omega
    · have := (nI_eq (by omega) (by omega)).mp (w2'.symm.trans z); omega
    · have := (nI_eq (by omega) (by omega)).mp (w2'.symm.trans z); omega
  have hX : RX h n N N Y (eV (eV (eV E 7 b (E.2.1 7 b + 1)) 9 b (E.2.1 4 b)) 10 b (E.2.1 5 b - E.1 5)) (mA (mA (mA (mA S 5 (36 + b) (S 5 (36 + b) + nI 1)) 7 b (S 5 b)) 7 (12 + b) (S 5 (12 + b) - nI Y)) 5 (12 + b) (nI (Y + d))) b := by
    refine rx_of (H.x hb) hb ⟨G.n4, G.n2, G.d5, G.d0, G.g6, G.g7, G.g8, G.g9, G.g10, G.g11, G.t13, G.t8, G.ring, G.cod, (all4 (G.gp 0 (by decide)) (G.gp 1 (by decide)) (G.gp 2 (by decide)) (G.gp 3 (by decide))), G.rk, G.w63, G.hd, G.hl, G.h60, G.n12⟩ (Nat.le_refl N) ?_ (oe_eV (oe_eV (oe_eV oe_rf (Or.inl (by decide))) (Or.inl (by decide))) (Or.inl (by decide))) (fun c h1 h2 => ?_)
    · rw [bv_3 (by omega), bv_7 (by omega), bv_6 (by omega), bv_5 (by omega)]
      refine ⟨q0, q1, q3, q6, ?_, q8, ?_, ?_, fun r hr => ?_, ql, hs⟩
      · show (eV E 7 b (E.2.1 7 b + 1)).2.1 7 b = S 5 (36 + b) + nI 1
        rw [eV_s, q7]; rfl
      · show (eV (eV E 7 b (E.2.1 7 b + 1)) 9 b (E.2.1 4 b)).2.1 9 b = S 5 b
        rw [eV_s, w3, w2']
      · show _ = S 5 (12 + b) - nI Y
        rw [eV_s, w5', G.d5]
      · rw [eV_r (by omega), eV_r (by omega), eV_r (by omega), upd_ne (by omega), upd_ne (by omega), upd_ne (by omega), upd_ne (by omega)]
        exact qf r hr
    · rw [bv_o (b := b) (by refine ⟨?_, ?_, ?_, ?_⟩ <;> omega) h1 h2 (by omega), bv_o (b := b) (by refine ⟨?_, ?_, ?_, ?_⟩ <;> omega) h1 h2 (by omega), bv_o (b := b) (by refine ⟨?_, ?_, ?_, ?_⟩ <;> omega) h1 h2 (by omega), bv_o (b := b) (by refine ⟨?_, ?_, ?_, ?_⟩ <;> omega) h1 h2 (by omega)]
  have ee : e_prom1 E b (nI d) = e_enter (eV (eV (eV E 7 b (E.2.1 7 b + 1)) 9 b (E.2.1 4 b)) 10 b (E.2.1 5 b - E.1 5)) b 4 (nI (Y + d)) := by
    rw [← nI_add, ← G.d5]
    rfl
  rw [ee]
  refine ⟨sim_ent hX hb hY hN (Nat.le_succ N) (by decide) rfl ?_, ?_⟩
  · rw [wf_d (by omega), mA_s]
  · show (eV (eV _ 4 b _) 5 b (nI (Y + d))).2.1 5 b = _
    exact eV_s
theorem khol_12 (E : ES) (d : Int32) : (e_khol E d).1 = E.1 ∧ (e_khol E d).2.1 = E.2.1 := by
  unfold e_khol
  split
  · exact ⟨rfl, rfl⟩
  · split
    · exact ⟨rfl, rfl⟩
    · exact ⟨rfl, rfl⟩
theorem hol_eq (G : RG h n N Y E S) {x : Nat} (hx : x < 2 ^ 31) : m_wl (S 1) (nI x) h 0 1 = if e_hol E (nI x) = 0 then 1 else 0 := by
  rcases wl_1 (w := S 1) (d := nI x) h 0 with ⟨h1, h2⟩ | ⟨h1, j, j1, j2, j3⟩
  · rw [h1, if_pos ((hol_bit E hx).mpr ((G.hd x hx).mpr fun j hj => h2 j (by omega) (by omega)))]
  · rw [h1, if_neg (fun z => (G.hd x hx).mp ((hol_bit E hx).mp z) j (by omega) j3)]
/-- a holiday more -/
theorem sim_hol (H : Rel h n N Y E S) {x : Nat} (hY : Y ≤ 8000) (hx : x ≤ Y + 60) : (m_wl (S 1) (nI x) h 0 1 = 1 → h < 60 → Rel (h + 1) n N Y (e_khol E (nI x)) (mA (mA S 1 h (nI x)) 1 63 (nI (h + 1)))) ∧ (¬ m_wl (S 1) (nI x) h 0 1 = 1 → Rel h n N Y (e_khol E (nI x)) S) := by
  have G := H.1
  obtain ⟨k1, k2⟩ := khol_12 E (nI x)
  have kb := fun y => khol_bit E (x := x) (y := y) (by omega)
  have hb : ∀ c f, RC N E c f ∧ RW E c f → RC N (e_khol E (nI x)) c f ∧ RW (e_khol E (nI x)) c f := fun c f w => by
    unfold RC RW
    rw [k2]
    exact w
  have he := hol_eq G (x := x) (by omega)
  constructor
  · intro z hh
    have q5 : ∀ j, j ≠ 63 → mA (mA S 1 h (nI x)) 1 63 (nI (h + 1)) 1 j = if j = h then nI x else S 1 j := fun j hj => by
      rw [mA_c hj]
      by_cases y : j = h
      · subst y; rw [mA_s, if_pos rfl]
      · rw [mA_c y, if_neg y]
    refine ⟨⟨(by rw [k1]; exact G.n4), G.n2, (by rw [k1]; exact G.d5), G.d0, (by rw [k1]; exact G.g6), (by rw [k1]; exact G.g7), (by rw [k1]; exact G.g8), (by rw [k1]; exact G.g9), (by rw [k1]; exact G.g10), (by rw [k1]; exact G.g11), (by rw [k1]; exact G.t13), G.t8, (by rw [k2]; exact G.ring), G.cod, (by unfold RGp; rw [k1, k2]; exact G.gp), (by unfold RK; rw [k1]; exact G.rk), mA_s, fun y hy => ?_, fun j hj => ?_, hh, G.n12⟩, fun c hc => ?_, fun c h1 h2 => ?_⟩
    · rw [kb y]
      have g := G.hd y hy
      constructor
      · intro q j hj
        rw [q5 j (by omega)]
        rw [Bool.or_eq_false_iff] at q
        by_cases jh : j = h
        · rw [if_pos jh]
          intro w
          exact absurd ((nI_eq (by omega) hy).mp w).symm (by simpa using q.1)
        · rw [if_neg jh]
          exact g.mp q.2 j (by omega)
      · intro q
        rw [Bool.or_eq_false_iff]
        refine ⟨?_, g.mpr fun j hj => ?_⟩
        · have := q h (by omega)
          rw [q5 h (by omega), if_pos rfl] at this
          simpa using fun w : y = x => this (by rw [w])
        · have := q j (by omega)
          rw [q5 j (by omega), if_neg (by omega)] at this
          exact this
    · rw [q5 j (by omega)]
      by_cases jh : j = h
      · rw [if_pos jh]; exact ⟨x, hx, rfl⟩
      · rw [if_neg jh]; exact G.hl j (by omega)
    · rw [bv_n (by omega), bv_n (by omega)]; exact hb c _ (H.2.1 c hc)
    · rw [bv_n (by omega), bv_n (by omega)]; exact H.2.2 c h1 h2
  · intro z
    refine ⟨⟨(by rw [k1]; exact G.n4), G.n2, (by rw [k1]; exact G.d5), G.d0, (by rw [k1]; exact G.g6), (by rw [k1]; exact G.g7), (by rw [k1]; exact G.g8), (by rw [k1]; exact G.g9), (by rw [k1]; exact G.g10), (by rw [k1]; exact G.g11), (by rw [k1]; exact G.t13), G.t8, (by rw [k2]; exact G.ring), G.cod, (by unfold RGp; rw [k1, k2]; exact G.gp), (by unfold RK; rw [k1]; exact G.rk), G.w63, fun y hy => ?_, G.hl, G.h60, G.n12⟩, fun c hc => hb c _ (H.2.1 c hc), H.2.2⟩
    rw [kb y]
    have hd : dbit E x = true := by
      have w9 : ¬ dbit E x = false := fun w => z (by rw [he, if_pos ((hol_bit E (by omega)).mpr w)])
      simpa using w9
    by_cases yx : y = x
    · subst yx
      refine Iff.trans ?_ (G.hd y hy)
      rw [hd]
      simp
    · have : decide (y = x) = false := by simpa using yx
      rw [this, Bool.false_or]
      exact G.hd y hy
theorem sim_times (H : Rel h n N Y E S) {x y : Int32} : Rel h n N Y (eG (eG E 6 x) 7 y) (mA (mA S 0 3 x) 0 4 y) := by
  have G := H.1
  refine ⟨⟨G.n4, G.n2, G.d5, G.d0, rfl, rfl, G.g8, G.g9, G.g10, G.g11, G.t13, G.t8, G.ring, G.cod, (all4 (G.gp 0 (by decide)) (G.gp 1 (by decide)) (G.gp 2 (by decide)) (G.gp 3 (by decide))), G.rk, G.w63, G.hd, G.hl, G.h60, G.n12⟩, fun c hc => ?_, fun c h1 h2 => ?_⟩
  · rw [bv_n (by omega), bv_n (by omega)]; exact H.2.1 c hc
  · rw [bv_n (by omega), bv_n (by omega)]; exact H.2.2 c h1 h2
theorem sim_wk (H : Rel h n N Y E S) {m : Nat} (hm : m < 128) (h0 : 0 < m) : Rel h n N Y (eG E 12 (nI m)) (mA S 0 1 (nI m)) := by
  have G := H.1
  refine ⟨⟨G.n4, G.n2, G.d5, G.d0, G.g6, G.g7, G.g8, G.g9, G.g10, G.g11, G.t13, G.t8, G.ring, G.cod, (all4 (G.gp 0 (by decide)) (G.gp 1 (by decide)) (G.gp 2 (by decide)) (G.gp 3 (by decide))), ⟨m, hm, h0, rfl, rfl⟩, G.w63, G.hd, G.hl, G.h60, G.n12⟩, fun c hc => ?_, fun c h1 h2 => ?_⟩
  · rw [bv_n (by omega)]; exact H.2.1 c hc
  · rw [bv_n (by omega)]; exact H.2.2 c h1 h2
theorem sim_wk0 (H : Rel h n N Y E S) : Rel h n N Y E (mA S 0 1 (S 0 1)) := by
  have G := H.1
  refine ⟨⟨G.n4, G.n2, G.d5, G.d0, G.g6, G.g7, G.g8, G.g9, G.g10, G.g11, G.t13, G.t8, G.ring, G.cod, G.gp, G.rk, G.w63, G.hd, G.hl, G.h60, G.n12⟩, fun c hc => ?_, fun c h1 h2 => ?_⟩
  · rw [bv_n (by omega)]; exact H.2.1 c hc
  · rw [bv_n (by omega)]; exact H.2.2 c h1 h2
theorem sim_gap {i : Nat} (hi : i < 4) {E' : ES} {S' : MS} (H : Rel h n N Y E S) (h1 : ∀ j, j ≠ 14 + i → E'.1 j = E.1 j) (h2 : ∀ j, j ≠ 20 + i → E'.2.1 j = E.2.1 j) (h3 : E'.2.2 = E.2.2) (h4 : ∀ j, j ≠ 2 → j ≠ 3 → S' j = S j) (h5 : ∀ r, r ≠ i + 1 → S' 3 r = S 3 r) (h6 : ∀ r j, r ≠ i + 1 → j < 6 → S' 2 (6 * r + j) = S 2 (6 * r + j)) (hg : RGp E' S' i) : Rel h n N Y E' S' := by
  have G := H.1
  have f := fun j j1 j2 => h4 j j1 j2
  have hbv : ∀ c, bv S' c = bv S c := fun c => bv_ext (congrFun (f 4 (by decide) (by decide)) _) (congrFun (f 4 (by decide) (by decide)) _) (congrFun (f 5 (by decide) (by decide)) _) (congrFun (f 5 (by decide) (by decide)) _) (congrFun (f 5 (by decide) (by decide)) _) (congrFun (f 5 (by decide) (by decide)) _) (congrFun (f 7 (by decide) (by decide)) _) (congrFun (f 7 (by decide) (by decide)) _) (congrFun (f 7 (by decide) (by decide)) _) (fun r _ => congrFun (f 6 (by decide) (by decide)) _)
  refine ⟨⟨(by rw [h1 4 (by omega)]; exact G.n4), (by rw [f 0 (by decide) (by decide)]; exact G.n2), (by rw [h1 5 (by omega)]; exact G.d5), (by rw [f 0 (by decide) (by decide)]; exact G.d0), (by rw [h1 6 (by omega), f 0 (by decide) (by decide)]; exact G.g6), (by rw [h1 7 (by omega), f 0 (by decide) (by decide)]; exact G.g7), (by rw [h1 8 (by omega), f 4 (by decide) (by decide)]; exact G.g8), (by rw [h1 9 (by omega), f 0 (by decide) (by decide)]; exact G.g9), (by rw [h1 10 (by omega), f 0 (by decide) (by decide)]; exact G.g10), (by rw [h1 11 (by omega), f 0 (by decide) (by decide)]; exact G.g11), (by rw [h1 13 (by omega)]; exact G.t13), (by rw [f 0 (by decide) (by decide)]; exact G.t8), (by rw [h2 30 (by omega), f 8 (by decide) (by decide)]; exact G.ring), (by rw [f 8 (by decide) (by decide)]; exact G.cod), fun c hc => ?_, (by unfold RK; rw [h1 12 (by omega), f 0 (by decide) (by decide)]; exact G.rk), (by rw [f 1 (by decide) (by decide)]; exact G.w63), (by unfold RHd dbit; rw [h3, f 1 (by decide) (by decide)]; exact G.hd), (by rw [f 1 (by decide) (by decide)]; exact G.hl), G.h60, G.n12⟩, fun c hc => ?_, fun c a1 a2 => by rw [hbv]; exact H.2.2 c a1 a2⟩
  · by_cases z : c = i
    · subst z; exact hg
    · obtain ⟨q, q1, q2, q3, q4⟩ := G.gp c hc
      refine ⟨q, q1, by rw [h1 _ (by omega)]; exact q2, by rw [h5 _ (by omega)]; exact q3, fun j hj => ?_⟩
      obtain ⟨g, g1, g2, g3, g4⟩ := q4 j hj
      exact ⟨g, g1, g2, by rw [h2 _ (by omega)]; exact g3, by rw [h6 _ _ (by omega) (by omega)]; exact g4⟩
  · rw [hbv]
    unfold RC RW
    rw [h2 0 (by omega), h2 1 (by omega), h2 3 (by omega), h2 4 (by omega), h2 5 (by omega), h2 6 (by omega), h2 7 (by omega), h2 8 (by omega), h2 9 (by omega), h2 10 (by omega), h2 (40 + c) (by omega)]
    exact H.2.1 c hc
theorem sim_clear (H : Rel h n N Y E S) {i : Nat} (hi : i < 4) : Rel h n N Y (eG E (14 + i) 0) (mA S 3 (i + 1) (nI 0)) :=
  sim_gap hi H (fun j hj => upd_ne hj) (fun j _ => rfl) rfl (fun j _ j3 => mA_r j3) (fun r hr => mA_c hr) (fun r j _ _ => rfl) ⟨0, by decide, if_pos rfl, mA_s, fun j hj => absurd hj (Nat.not_lt_zero j)⟩
theorem sim_add (H : Rel h n N Y E S) {i c g : Nat} (hi : i < 4) (hc : c < 6) (ec : S 3 (i + 1) = nI c) (g1 : 1 ≤ g) (g30 : g ≤ 30) : Rel h n N Y (e_app E i (nI g)) (mA (mA S 2 (6 * (i + 1) + c) (nI g)) 3 (i + 1) (nI (c + 1))) := by
  have G := H.1
  obtain ⟨q, q1, q2, q3, q4⟩ := G.gp i hi
  have hq : q = c := (nI_eq (by omega) (by omega)).mp (q3.symm.trans ec)
  subst hq
  have ea : e_app E i (nI g) = eG (eV E (20 + i) q (nI g)) (14 + i) (nI (q + 1)) := by
    unfold e_app
    have z3 : ¬ (6 : Int32) ≤ nI q := nI_ge (b := 6) hc (by decide)
    rw [q2, if_neg (nI_pos (by omega)), if_neg z3, nI_clamp (by omega), nI_1]
  rw [ea]
  refine sim_gap hi H (fun j hj => upd_ne hj) (fun j hj => eV_r hj) rfl (fun j j2 j3 => (mA_r j3).trans (mA_r j2)) (fun r hr => mA_c hr) (fun r j hr hj => (mA_ro (by decide)).trans (mA_c (by omega))) ⟨q + 1, by omega, if_pos rfl, mA_s, fun j hj => ?_⟩
  by_cases y : j = q
  · subst y
    exact ⟨g, g1, g30, eV_s, (mA_ro (by decide)).trans mA_s⟩
  · obtain ⟨t, t1, t2, t3, t4⟩ := q4 j (by omega)
    exact ⟨t, t1, t2, (eV_c y).trans t3, (mA_ro (by decide)).trans ((mA_c (by omega)).trans t4)⟩
end SIM2
