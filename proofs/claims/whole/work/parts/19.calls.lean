/-- after k calls -/
def Inv (k n : Nat) (E : ES) (S : MS) : Prop := ∃ (h : Nat) (Y T : Int), h ≤ k ∧ Y ≤ 60 * k ∧ T ≤ 5400 * k ∧ Rel h n E S ∧ MI h n Y T S
def SimR (k n : Nat) (L : List String) (E : ES) (sp : ER) (mr : MR) : Prop := (sp.1 = none ∧ mr.2.1 25 = 0 ∧ sp.2.1 = mr.1 ∧ Inv (k + 1) n sp.2.2 mr.2) ∨ ∃ x, x ∈ L ∧ sp.1 = some x ∧ mr.2.1 25 = wc L x ∧ Inv (k + 1) n E mr.2
theorem Inv.mk {k n h : Nat} {Y T : Int} {E : ES} {S : MS} (H : Rel h n E S) (M : MI h n Y T S) (h1 : h ≤ k + 1) (h2 : Y ≤ 60 * k + 60) (h3 : T ≤ 5400 * k + 5400) : Inv (k + 1) n E S := ⟨h, Y, T, h1, by omega, by omega, H, M⟩
theorem rng_or (p a b : Int32) : (e_rng p a b = none ∧ m_in p a b = 1 ∧ a.toInt ≤ p.toInt ∧ p.toInt ≤ b.toInt) ∨ (e_rng p a b = some xIA ∧ m_in p a b = 0) := by
  unfold e_rng m_in
  simp only [i32_lt, i32_le]
  by_cases h1 : p.toInt < a.toInt
  · exact Or.inr ⟨if_pos h1, if_pos h1⟩
  · rw [if_neg h1, if_neg h1]
    by_cases h2 : p.toInt ≤ b.toInt
    · rw [if_pos h2, if_neg (by omega)]; exact Or.inl ⟨rfl, rfl, by omega, h2⟩
    · rw [if_neg h2, if_pos (by omega)]; exact Or.inr ⟨rfl, rfl⟩
theorem acc_or (p : Int32) : (e_acc p = none ∧ m_in p 0 7 = 1) ∨ (e_acc p = some xIO ∧ m_in p 0 7 = 0) := by
  have e0 : (0 : Int32).toInt = 0 := by decide
  have e7 : (7 : Int32).toInt = 7 := by decide
  have e8 : (8 : Int32).toInt = 8 := by decide
  unfold e_acc m_in
  simp only [i32_lt, e0, e7, e8]
  by_cases h1 : p.toInt < 0
  · exact Or.inr ⟨if_pos h1, if_pos h1⟩
  · rw [if_neg h1, if_neg h1]
    by_cases h2 : p.toInt < 8
    · rw [if_pos h2, if_neg (by omega)]; exact Or.inl ⟨rfl, rfl⟩
    · rw [if_neg h2, if_pos (by omega)]; exact Or.inr ⟨rfl, rfl⟩
theorem rsn_or (p : Int32) : (e_rsn p = none ∧ m_in p 1 4 = 1 ∧ ∃ i, i < 4 ∧ p = nI (i + 1)) ∨ (e_rsn p = some xIO ∧ m_in p 1 4 = 0) := by
  have e1 : (1 : Int32).toInt = 1 := by decide
  have e4 : (4 : Int32).toInt = 4 := by decide
  have e0 : (0 : Int32).toInt = 0 := by decide
  unfold e_rsn m_in
  simp only [i32_lt, i32_le, e1, e4]
  by_cases h1 : p.toInt < 1
  · exact Or.inr ⟨if_pos h1, if_pos h1⟩
  · rw [if_neg h1, if_neg h1]
    by_cases h2 : p.toInt ≤ 4
    · rw [if_pos h2, if_neg (by omega)]
      obtain ⟨j, hj, rfl⟩ := nI_of (x := p) (by rw [i32_lt]; omega)
      rw [nI_toInt hj] at h1 h2
      exact Or.inl ⟨rfl, rfl, j - 1, by omega, by rw [show j - 1 + 1 = j by omega]⟩
    · rw [if_neg h2, if_pos (by omega)]; exact Or.inr ⟨rfl, rfl⟩
section SIM3
variable {h n b k : Nat} {Y T : Int} {E : ES} {S : MS}
theorem n01 : ¬ (1 : Int32) = 0 := by decide
theorem fb_or (M : MI h n Y T S) (p : Int32) : (e_fb n p = none ∧ m_isBill S p = (1, mG S 25 0) ∧ ∃ b, b < n ∧ p = nI b) ∨ (e_fb n p = some xIO ∧ m_isBill S p = (0, mG S 25 1)) := by
  have e30 : (30 : Int32).toInt = 30 := by decide
  have hm := n_m1 M
  have hn := M.2.1.2
  unfold e_fb m_isBill m_in
  by_cases h1 : p < 0
  · rw [if_pos h1, if_pos h1, if_pos rfl]; exact Or.inr ⟨rfl, rfl⟩
  · rw [if_neg h1, if_neg h1]
    obtain ⟨j, hj, rfl⟩ := nI_of h1
    by_cases h2 : j < n
    · have c1 : ¬ (30 : Int32) ≤ nI j := by rw [i32_le, e30, nI_toInt hj]; omega
      have c2 : ¬ S.1 8 - 1 < nI j := by rw [i32_lt, hm, nI_toInt hj]; omega
      rw [if_neg c1, nI_clamp hj, if_pos h2, if_neg c2, if_neg n01]
      exact Or.inl ⟨rfl, rfl, j, h2, rfl⟩
    · have c2 : S.1 8 - 1 < nI j := by rw [i32_lt, hm, nI_toInt hj]; omega
      rw [if_pos c2, if_pos rfl, nI_clamp hj, if_neg h2]
      refine Or.inr ⟨?_, rfl⟩
      split
      · rfl
      · rfl
theorem thr {L : List String} {sp : ER} {mr : MR} (x : String) (hx : x ∈ L) (h1 : sp.1 = some x) (h2 : mr.2.1 25 = wc L x) (h3 : Inv (k + 1) n E mr.2) : SimR k n L E sp mr := Or.inr ⟨x, hx, h1, h2, h3⟩
theorem inv_q (I : Inv k n E S) : Inv (k + 1) n E S := by
  obtain ⟨h, Y, T, a1, a2, a3, H, M⟩ := I
  exact ⟨h, Y, T, by omega, by omega, by omega, H, M⟩
theorem inv_t (I : Inv k n E S) (v : Int32) : Inv k n E (mG S 25 v) := by
  obtain ⟨h, Y, T, a1, a2, a3, H, M⟩ := I
  exact ⟨h, Y, T, a1, a2, a3, H, mi_G M 25 _ (by decide)⟩
theorem inv_1 (I : Inv k n E S) (v : Int32) : Inv (k + 1) n E (mG S 25 v) := inv_q (inv_t I v)
theorem inv_2 (I : Inv k n E S) (u v : Int32) : Inv (k + 1) n E (mG (mG S 25 u) 25 v) := inv_q (inv_t (inv_t I u) v)
theorem wk_ex : ∀ m, m < 128 → ¬ nI m = 0 → ∃ j, j < 7 ∧ ¬ nI (m / 2 ^ j % 2) = 0 := by decide +kernel
theorem s_setWeekday (I : Inv k n E S) {d f : Int32} (hf : f = 0 ∨ f = 1) : SimR k n [xIO, xIS] E (e_setWeekday E d f) (m_setWeekday S d f) := by
  have e0 : (0 : Int32).toInt = 0 := by decide
  have e6 : (6 : Int32).toInt = 6 := by decide
  have e7 : (7 : Int32).toInt = 7 := by decide
  unfold e_setWeekday m_setWeekday
  by_cases h1 : d < 0
  · rw [if_pos h1, m_in, if_pos h1, if_pos rfl]
    exact thr xIO (by decide) rfl (show (1 : Int32) = _ by decide) (inv_1 I 1)
  · obtain ⟨κ, hκ, rfl⟩ := nI_of h1
    by_cases h2 : κ < 7
    · have i2 : nI κ < 7 := nI_lt (b := 7) h2 (by decide)
      have i3 : m_in (nI κ) 0 6 = 1 := by
        unfold m_in
        rw [if_neg h1, if_neg (by rw [i32_lt, nI_toInt hκ]; omega)]
      rw [if_neg h1, if_pos i2, i3, if_neg n01]
      have I0 := I
      obtain ⟨h, Y, T, a1, a2, a3, H, M⟩ := I
      obtain ⟨m, hm, e12, hk⟩ := H.1.2.2.2.2.2.2.2.2.2.2.2.2.2.2.1
      obtain ⟨φ, hφ, rfl⟩ : ∃ φ, φ < 2 ∧ f = nI φ := by
        rcases hf with rfl | rfl
        · exact ⟨0, by decide, rfl⟩
        · exact ⟨1, by decide, rfl⟩
      have ew : e_ww E (nI κ) (nI φ) = wkw m κ φ := by unfold e_ww wkw; rw [e12]
      obtain ⟨w1, w2, w3⟩ := wk_set m hm κ h2 φ hφ
      obtain ⟨w4, w5⟩ := wk_many m hm κ h2 φ hφ
      have em : m_many (mG S 25 0) (nI κ) (nI φ) 7 0 0 = m_many (wkS m) (nI κ) (nI φ) 7 0 0 := many_congr _ _ 7 0 0 (by decide) (fun t ht => hk t ht)
      rw [ew, em, w1]
      by_cases z : nI (wkm m κ φ) = 0
      · rw [if_pos z, if_pos (w4.mpr z)]
        exact thr xIS (by decide) rfl (show (2 : Int32) = _ by decide) (inv_2 I0 0 2)
      · rw [if_neg z, if_neg (fun y => z (w4.mp y)), w5, nI_clamp hκ]
        have en : vp_nar .boolean (nI φ) = nI φ := (show ∀ φ, φ < 2 → vp_nar .boolean (nI φ) = nI φ by decide) φ hφ
        rw [en]
        have hrow : ∀ j, j < 7 → (mA (mG (mG S 25 0) 25 0) 1 κ (nI φ)).2 1 j = nI (wkm m κ φ / 2 ^ j % 2) := fun j hj => by
          rw [w3 j hj]
          by_cases y : j = κ
          · subst y; rw [if_pos rfl, mA_s]
          · rw [if_neg y, mA_c y]; exact hk j hj
        refine Or.inl ⟨rfl, rfl, rfl, Inv.mk (h := h) (Y := Y) (T := T) ?_ ?_ (by omega) (by omega) (by omega)⟩
        · obtain ⟨⟨g4, g5, g6, g7, g8, g9, g10, g11, g13, g30, p0, p1, p2, p3, gw, gh⟩, H2⟩ := H
          exact ⟨⟨g4, g5, g6, g7, g8, g9, g10, g11, g13, g30, p0, p1, p2, p3, ⟨wkm m κ φ, w2, rfl, hrow⟩, gh⟩, H2⟩
        · obtain ⟨q1, q2, q3, q4, q5, q6⟩ := M
          obtain ⟨j, j1, j2⟩ := wk_ex _ w2 z
          exact ⟨q1, q2, q3, q4, ⟨j, j1, by rw [hrow j j1]; exact j2⟩, q6⟩
    · have i2 : ¬ nI κ < 7 := nI_nlt (b := 7) (by omega) hκ
      have i3 : m_in (nI κ) 0 6 = 0 := by
        unfold m_in
        rw [if_neg h1, if_pos (by rw [i32_lt, nI_toInt hκ]; omega)]
      rw [if_neg h1, if_neg i2, i3, if_pos rfl]
      exact thr xIO (by decide) rfl (show (1 : Int32) = _ by decide) (inv_1 I 1)
theorem sim_hol (H : Rel h n E S) (M : MI h n Y T S) {x : Nat} (hx : x < 2 ^ 31) : e_hol E (nI x) = 0 ↔ m_hol S (nI x) = 0 := by
  obtain ⟨-, -, -, -, -, -, -, -, -, -, -, -, -, -, -, gh⟩ := H.1
  rw [hol_bit E hx, gh x hx, m_hol, M.1.1, nI_clamp (by have := M.1.2; omega), hl_iff h 0 (by have := M.1.2; omega)]
  exact ⟨fun z j _ hj => z j (by omega), fun z j hj => z j (by omega) (by omega)⟩
theorem khol_12 (E : ES) (d : Int32) : (e_khol E d).1 = E.1 ∧ (e_khol E d).2.1 = E.2.1 := by
  unfold e_khol
  split
  · exact ⟨rfl, rfl⟩
  · split
    · exact ⟨rfl, rfl⟩
    · exact ⟨rfl, rfl⟩
theorem rel_h {h' : Nat} {E' : ES} {S' : MS} (H : Rel h n E S) (h1 : E'.1 = E.1) (h2 : E'.2.1 = E.2.1) (h3 : ∀ j, j ≠ 3 → j ≠ 25 → S'.1 j = S.1 j) (h4 : ∀ j, j ≠ 2 → S'.2 j = S.2 j) (gh : RHd h' E' S') : Rel h' n E' S' := by
  obtain ⟨E1, E2, E3⟩ := E'
  obtain rfl : E1 = E.1 := h1
  obtain rfl : E2 = E.2.1 := h2
  obtain ⟨⟨g4, g5, g6, g7, g8, g9, g10, g11, g13, g30, p0, p1, p2, p3, gw, -⟩, H2, H3⟩ := H
  have f := fun j hj => h4 j hj
  refine ⟨⟨?_, ?_, ?_, ?_, ?_, ?_, ?_, ?_, ?_, ?_, ?_, ?_, ?_, ?_, ?_, gh⟩, fun c hc => ?_, fun c hc hc2 => ?_⟩
  · rw [h3 8 (by decide) (by decide)]; exact g4
  · rw [h3 0 (by decide) (by decide)]; exact g5
  · rw [h3 6 (by decide) (by decide)]; exact g6
  · rw [h3 7 (by decide) (by decide)]; exact g7
  · rw [f 10 (by decide)]; exact g8
  · rw [h3 20 (by decide) (by decide)]; exact g9
  · rw [h3 21 (by decide) (by decide)]; exact g10
  · rw [h3 22 (by decide) (by decide)]; exact g11
  · rw [h3 24 (by decide) (by decide)]; exact g13
  · rw [f 23 (by decide)]; exact g30
  · unfold RGp; rw [f 5 (by decide), f 4 (by decide)]; exact p0
  · unfold RGp; rw [f 5 (by decide), f 4 (by decide)]; exact p1
  · unfold RGp; rw [f 5 (by decide), f 4 (by decide)]; exact p2
  · unfold RGp; rw [f 5 (by decide), f 4 (by decide)]; exact p3
  · unfold RC0; rw [f 1 (by decide)]; exact gw
  · unfold RC RW
    rw [f 9 (by decide), f 11 (by decide), f 12 (by decide), f 13 (by decide), f 14 (by decide), f 15 (by decide), f 16 (by decide), f 17 (by decide), f 18 (by decide), f 19 (by decide)]
    exact H2 c hc
  · unfold RZ
    rw [f 14 (by decide), f 15 (by decide), f 16 (by decide), f 17 (by decide), f 18 (by decide), f 19 (by decide)]
    exact H3 c hc hc2
theorem s_addHoliday (I : Inv k n E S) (hk : k < 512) {d : Int32} : SimR k n [xIA] E (e_addHoliday E d) (m_addHoliday S d) := by
  unfold e_addHoliday m_addHoliday
  have I0 := I
  obtain ⟨h, Y, T, a1, a2, a3, H, M⟩ := I
  have hY := M.2.2.1
  have e60 : (60 : Int32).toInt = 60 := by decide
  have hn1 : (S.1 0 + 1).toInt = (S.1 0).toInt + 1 := now_1 M
  have hn60 : (S.1 0 + 60).toInt = (S.1 0).toInt + 60 := by rw [i32_add (by omega) (by omega), e60]
  rw [H.1.2.1]
  rcases rng_or d (S.1 0 + 1) (S.1 0 + 60) with ⟨r1, r2, r3, r4⟩ | ⟨r1, r2⟩
  · rw [ck_none r1, r2, if_neg n01]
    obtain ⟨x, hx, rfl⟩ := nI_of (x := d) (by rw [i32_lt]; have e0 : (0 : Int32).toInt = 0 := by decide
                                              omega)
    rw [nI_toInt hx] at r3 r4
    have hx2 : x < 31040 := by omega
    have hs := sim_hol (S := mG S 25 0) H (mi_G M 25 0 (by decide)) hx
    obtain ⟨k1, k2⟩ := khol_12 E (nI x)
    have hgh := H.1.2.2.2.2.2.2.2.2.2.2.2.2.2.2.2
    by_cases z : e_hol E (nI x) = 0
    · rw [if_pos z, if_pos (hs.mp z)]
      have e3 : ((mG S 25 0).1 3).toNatClampNeg = h := by
        show (S.1 3).toNatClampNeg = h
        rw [M.1.1]; exact nI_clamp (by have := M.1.2; omega)
      rw [e3]
      refine Or.inl ⟨rfl, rfl, rfl, Inv.mk (h := h + 1) (Y := Y) (T := T) ?_ ?_ (by omega) (by omega) (by omega)⟩
      · refine rel_h H k1 k2 (fun j j1 j2 => ?_) (fun j j1 => ?_) (fun y hy => ?_)
        · show upd (upd S.1 25 0) 3 _ j = S.1 j
          rw [upd, if_neg j1, upd, if_neg j2]
        · exact mA_r (S := mG S 25 0) j1
        · rw [khol_bit E hx2]
          have hrow : ∀ j, (mG (mA (mG S 25 0) 2 h (nI x)) 3 ((mA (mG S 25 0) 2 h (nI x)).1 3 + 1)).2 2 j = if j = h then nI x else S.2 2 j := fun j => rfl
          have g := hgh y hy
          constructor
          · intro q j hj
            rw [hrow j]
            rw [Bool.or_eq_false_iff] at q
            by_cases jh : j = h
            · rw [if_pos jh]
              intro w
              exact absurd ((nI_eq hx hy).mp w).symm (by simpa using q.1)
            · rw [if_neg jh]
              exact g.mp q.2 j (by omega)
          · intro q
            rw [Bool.or_eq_false_iff]
            refine ⟨?_, g.mpr fun j hj => ?_⟩
            · have := q h (by omega)
              rw [hrow h, if_pos rfl] at this
              simpa using fun w : y = x => this (by rw [w])
            · have := q j (by omega)
              rw [hrow j, if_neg (by omega)] at this
              exact this
      · obtain ⟨⟨q1, q1'⟩, q2, q3, q4, q5, q6, q7⟩ := M
        refine ⟨⟨?_, by omega⟩, q2, q3, q4, q5, fun j hj => ?_, q7⟩
        · show (S.1 3 + 1) = nI (h + 1)
          rw [q1]; exact nI_1 h
        · have hrow : (mG (mA (mG S 25 0) 2 h (nI x)) 3 ((mA (mG S 25 0) 2 h (nI x)).1 3 + 1)).2 2 j = if j = h then nI x else S.2 2 j := rfl
          rw [hrow]
          by_cases jh : j = h
          · rw [if_pos jh, nI_toInt hx]; show (x : Int) ≤ (S.1 0).toInt + 60; omega
          · rw [if_neg jh]; exact q6 j (by omega)
    · rw [if_neg z, if_neg (fun y => z (hs.mpr y))]
      refine Or.inl ⟨rfl, rfl, rfl, Inv.mk (h := h) (Y := Y) (T := T) ?_ (mi_G M 25 0 (by decide)) (by omega) (by omega) (by omega)⟩
      refine rel_h H k1 k2 (fun j j1 j2 => ?_) (fun j j1 => rfl) (fun y hy => ?_)
      · show upd S.1 25 0 j = S.1 j
        rw [upd, if_neg j2]
      · rw [khol_bit E hx2]
        have hd : dbit E x = true := by
          have w9 : ¬ dbit E x = false := fun w => z ((hol_bit E hx).mpr w)
          simpa using w9
        by_cases yx : y = x
        · subst yx
          have g := hgh y hy
          refine Iff.trans ?_ g
          rw [hd]
          simp
        · have : decide (y = x) = false := by simpa using yx
          rw [this, Bool.false_or]
          exact hgh y hy
  · rw [ck_some r1, r2, if_pos rfl]
    exact thr xIA (by decide) rfl (show (1 : Int32) = _ by decide) (inv_1 I0 1)
end SIM3
