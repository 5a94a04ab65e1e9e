section SIM4
variable {h n b k : Nat} {Y T : Int} {E : ES} {S : MS}
/-- the gaps of one reason are changed -/
theorem rel_g {i : Nat} (hi : i < 4) {E' : ES} {S' : MS} (H : Rel h n E S) (h1 : ∀ j, j ≠ 14 + i → E'.1 j = E.1 j) (h2 : ∀ j, j ≠ 20 + i → E'.2.1 j = E.2.1 j) (h0 : E'.2.2 = E.2.2) (h3 : ∀ j, j ≠ 25 → S'.1 j = S.1 j) (h4 : ∀ j, j ≠ 4 → j ≠ 5 → S'.2 j = S.2 j) (h5 : ∀ r, r ≠ i + 1 → S'.2 5 r = S.2 5 r) (h6 : ∀ r j, r ≠ i + 1 → j < 6 → S'.2 4 (6 * r + j) = S.2 4 (6 * r + j)) (hg : RGp E' S' i) : Rel h n E' S' := by
  obtain ⟨⟨g4, g5, g6, g7, g8, g9, g10, g11, g13, g30, p0, p1, p2, p3, gw, gh⟩, H2, H3⟩ := H
  have gp : ∀ c, c ≠ i → RGp E S c → RGp E' S' c := fun c hc ⟨w1, w2, w3⟩ => by
    refine ⟨?_, fun j hj => ?_, fun j j1 j2 => ?_⟩
    · rw [h1 _ (by omega), h5 _ (by omega)]; exact w1
    · rw [h2 _ (by omega), h6 _ _ (by omega) hj]; exact w2 j hj
    · rw [h5 _ (by omega)] at j1
      rw [h6 _ _ (by omega) j2]; exact w3 j j1 j2
  have gq : ∀ c, RGp E S c → RGp E' S' c := fun c w => by
    by_cases z : c = i
    · subst z; exact hg
    · exact gp c z w
  have f := fun j j1 j2 => h4 j j1 j2
  refine ⟨⟨?_, ?_, ?_, ?_, ?_, ?_, ?_, ?_, ?_, ?_, gq 0 p0, gq 1 p1, gq 2 p2, gq 3 p3, ?_, ?_⟩, fun c hc => ?_, fun c hc hc2 => ?_⟩
  · rw [h1 4 (by omega), h3 8 (by decide)]; exact g4
  · rw [h1 5 (by omega), h3 0 (by decide)]; exact g5
  · rw [h1 6 (by omega), h3 6 (by decide)]; exact g6
  · rw [h1 7 (by omega), h3 7 (by decide)]; exact g7
  · rw [h1 8 (by omega), f 10 (by decide) (by decide)]; exact g8
  · rw [h1 9 (by omega), h3 20 (by decide)]; exact g9
  · rw [h1 10 (by omega), h3 21 (by decide)]; exact g10
  · rw [h1 11 (by omega), h3 22 (by decide)]; exact g11
  · rw [h1 13 (by omega), h3 24 (by decide)]; exact g13
  · rw [h2 30 (by omega), f 23 (by decide) (by decide)]; exact g30
  · unfold RC0; rw [f 1 (by decide) (by decide), h1 12 (by omega)]; exact gw
  · unfold RHd dbit; rw [f 2 (by decide) (by decide), h0]; exact gh
  · unfold RC RW
    rw [f 9 (by decide) (by decide), f 11 (by decide) (by decide), f 12 (by decide) (by decide), f 13 (by decide) (by decide), f 14 (by decide) (by decide), f 15 (by decide) (by decide), f 16 (by decide) (by decide), f 17 (by decide) (by decide), f 18 (by decide) (by decide), f 19 (by decide) (by decide), h2 0 (by omega), h2 1 (by omega), h2 3 (by omega), h2 4 (by omega), h2 5 (by omega), h2 6 (by omega), h2 7 (by omega), h2 8 (by omega), h2 9 (by omega), h2 10 (by omega), h2 (40 + c) (by omega)]
    exact H2 c hc
  · unfold RZ
    rw [f 14 (by decide) (by decide), f 15 (by decide) (by decide), f 16 (by decide) (by decide), f 17 (by decide) (by decide), f 18 (by decide) (by decide), f 19 (by decide) (by decide)]
    exact H3 c hc hc2
theorem c6c : ∀ i, i < 4 → ∀ c, c < 7 → (6 * nI (i + 1) + nI c).toNatClampNeg = 6 * (i + 1) + c := by decide +kernel
theorem s_addGap (I : Inv k n E S) {r v : Int32} : SimR k n [xIO, xIA, xIS] E (e_addGap E r v) (m_addGap S r v) := by
  unfold e_addGap m_addGap
  have e1 : (1 : Int32).toInt = 1 := by decide
  have e30 : (30 : Int32).toInt = 30 := by decide
  rcases rsn_or r with ⟨r1, r2, i, hi, rfl⟩ | ⟨r1, r2⟩
  · rcases rng_or v 1 30 with ⟨v1, v2, v3, v4⟩ | ⟨v1, v2⟩
    · rw [ck_none r1, ck_none v1, r2, v2, if_neg n01, if_neg n01]
      have ci : (nI (i + 1) - 1).toNatClampNeg = i := by rw [nI_pred]; exact nI_clamp (by omega)
      have cr : (nI (i + 1)).toNatClampNeg = i + 1 := nI_clamp (by omega)
      have I0 := I
      obtain ⟨h, Y, T, a1, a2, a3, H, M⟩ := I
      obtain ⟨gp1, gp2, gp3⟩ := H.1.gp hi
      have hcnt := M.2.2.2.2.2.2.2.1 (i + 1) (by omega)
      obtain ⟨c, hc, ec⟩ := nI_of (x := S.2 5 (i + 1)) (by rw [i32_lt, show (0 : Int32).toInt = 0 from by decide]; omega)
      have hc6 : c ≤ 6 := by rw [ec, nI_toInt hc] at hcnt; omega
      have ec2 : (mG S 25 0).2 5 (i + 1) = nI c := ec
      rw [ci, cr, gp1, ec, ec2, c6c i hi c (by omega)]
      by_cases z : c < 6
      · have z1 : nI c < 6 := nI_lt (b := 6) z (by decide)
        have z2 : ¬ nI c = 6 := fun w => by have := (nI_eq (b := 6) hc (by decide)).mp w; omega
        have ea : e_app E i v = eG (eV E (20 + i) c v) (14 + i) (nI c + 1) := by
          unfold e_app
          have z3 : ¬ (6 : Int32) ≤ nI c := nI_ge (b := 6) z (by decide)
          rw [gp1, ec, if_neg (nI_pos hc), if_neg z3, nI_clamp hc]
        rw [if_pos z1, if_neg z2, ea]
        have q5 : ∀ t, (mA (mA (mG S 25 0) 4 (6 * (i + 1) + c) v) 5 (i + 1) (nI c + 1)).2 5 t = if t = i + 1 then nI c + 1 else S.2 5 t := fun t => rfl
        have q4 : ∀ t, (mA (mA (mG S 25 0) 4 (6 * (i + 1) + c) v) 5 (i + 1) (nI c + 1)).2 4 t = if t = 6 * (i + 1) + c then v else S.2 4 t := fun t => rfl
        have e14 : (eG (eV E (20 + i) c v) (14 + i) (nI c + 1)).1 (14 + i) = nI c + 1 := if_pos rfl
        have hs : (mA (mG S 25 0) 4 (6 * (i + 1) + c) v).2 5 (i + 1) = nI c := ec
        show SimR k n _ E (none, (eG (eV E (20 + i) c v) (14 + i) (nI c + 1)).1 (14 + i), _) ((mA (mA (mG S 25 0) 4 (6 * (i + 1) + c) v) 5 (i + 1) ((mA (mG S 25 0) 4 (6 * (i + 1) + c) v).2 5 (i + 1) + 1)).2 5 (i + 1), mA (mA (mG S 25 0) 4 (6 * (i + 1) + c) v) 5 (i + 1) ((mA (mG S 25 0) 4 (6 * (i + 1) + c) v).2 5 (i + 1) + 1))
        rw [hs, e14, q5, if_pos rfl]
        refine Or.inl ⟨rfl, rfl, rfl, Inv.mk (h := h) (Y := Y) (T := T) ?_ ?_ (by omega) (by omega) (by omega)⟩
        · refine rel_g hi H (fun j hj => if_neg hj) (fun j hj => eV_r hj) rfl (fun j hj => if_neg hj) (fun j j4 j5 => ?_) (fun t ht => ?_) (fun t j ht hj => ?_) ⟨?_, fun j hj => ?_, fun j j1 j2 => ?_⟩
          · exact (mA_r j5).trans (mA_r j4)
          · rw [q5, if_neg ht]
          · rw [q4, if_neg (by omega)]
          · rw [e14, q5, if_pos rfl]
          · rw [q4]
            show (eV E (20 + i) c v).2.1 (20 + i) j = _
            by_cases y : j = c
            · subst y; rw [eV_s, if_pos rfl]
            · rw [eV_c y, if_neg (by omega)]; exact gp2 j hj
          · rw [q4]
            rw [q5, if_pos rfl, nI_1, nI_toInt (by omega)] at j1
            by_cases y : j = c
            · rw [if_pos (by omega)]; omega
            · rw [if_neg (by omega)]
              exact gp3 j (by rw [ec, nI_toInt hc]; omega) j2
        · obtain ⟨m1, m2, m3, m4, m5, m6, m7, m8, m9⟩ := M
          refine ⟨m1, m2, m3, m4, m5, m6, fun j hj => ?_, fun t ht => ?_, m9⟩
          · rw [q4]
            by_cases y : j = 6 * (i + 1) + c
            · rw [if_pos y]; omega
            · rw [if_neg y]; exact m7 j hj
          · rw [q5]
            by_cases y : t = i + 1
            · rw [if_pos y, nI_1, nI_toInt (by omega)]; omega
            · rw [if_neg y]; exact m8 t ht
      · obtain rfl : c = 6 := by omega
        have z1 : ¬ nI 6 < 6 := by decide
        rw [if_neg z1, if_pos (show nI 6 = 6 from rfl)]
        exact thr xIS (by decide) rfl (show (3 : Int32) = _ by decide) (inv_1 I0 3)
    · rw [ck_none r1, ck_some v1, r2, v2, if_neg n01, if_pos rfl]
      exact thr xIA (by decide) rfl (show (2 : Int32) = _ by decide) (inv_1 I 2)
  · rw [ck_some r1, r2, if_pos rfl]
    exact thr xIO (by decide) rfl (show (1 : Int32) = _ by decide) (inv_1 I 1)
theorem s_clearGaps (I : Inv k n E S) {r : Int32} : SimR k n [xIO] E (e_clearGaps E r) (m_clearGaps S r) := by
  unfold e_clearGaps m_clearGaps
  rcases rsn_or r with ⟨r1, r2, i, hi, rfl⟩ | ⟨r1, r2⟩
  · rw [ck_none r1, r2, if_neg n01]
    have ci : (nI (i + 1) - 1).toNatClampNeg = i := by rw [nI_pred]; exact nI_clamp (by omega)
    have cr : (nI (i + 1)).toNatClampNeg = i + 1 := nI_clamp (by omega)
    obtain ⟨h, Y, T, a1, a2, a3, H, M⟩ := I
    obtain ⟨gp1, gp2, gp3⟩ := H.1.gp hi
    rw [ci, cr, gp1]
    have q5 : ∀ t, (mA (mG S 25 0) 5 (i + 1) 0).2 5 t = if t = i + 1 then 0 else S.2 5 t := fun t => rfl
    refine Or.inl ⟨rfl, rfl, rfl, Inv.mk (h := h) (Y := Y) (T := T) ?_ ?_ (by omega) (by omega) (by omega)⟩
    · refine rel_g hi H (fun j hj => if_neg hj) (fun j hj => rfl) rfl (fun j hj => if_neg hj) (fun j j4 j5 => mA_r j5) (fun t ht => ?_) (fun t j ht hj => rfl) ⟨?_, fun j hj => gp2 j hj, fun j j1 j2 => ?_⟩
      · rw [q5, if_neg ht]
      · rw [q5, if_pos rfl]; exact if_pos rfl
      · rw [q5, if_pos rfl] at j1
        have e0 : (0 : Int32).toInt = 0 := by decide
        omega
    · obtain ⟨m1, m2, m3, m4, m5, m6, m7, m8, m9⟩ := M
      refine ⟨m1, m2, m3, m4, m5, m6, m7, fun t ht => ?_, m9⟩
      rw [q5]
      by_cases y : t = i + 1
      · rw [if_pos y]; decide
      · rw [if_neg y]; exact m8 t ht
  · rw [ck_some r1, r2, if_pos rfl]
    exact thr xIO (by decide) rfl (show (1 : Int32) = _ by decide) (inv_1 I 1)
theorem s_setTimes (I : Inv k n E S) {x y : Int32} : SimR k n [xIA] E (e_setTimes E x y) (m_setTimes S x y) := by
  unfold e_setTimes m_setTimes
  rcases rng_or x 1 60 with ⟨r1, r2, -, -⟩ | ⟨r1, r2⟩
  · rcases rng_or y 1 90 with ⟨v1, v2, -, -⟩ | ⟨v1, v2⟩
    · rw [ck_none r1, ck_none v1, r2, v2, if_neg n01, if_neg n01]
      obtain ⟨h, Y, T, a1, a2, a3, H, M⟩ := I
      obtain ⟨⟨g4, g5, g6, g7, g8, g9, g10, g11, g13, g30, p0, p1, p2, p3, gw, gh⟩, H2⟩ := H
      refine Or.inl ⟨rfl, rfl, g6, Inv.mk (h := h) (Y := Y) (T := T) ?_ (mi_G (mi_G (mi_G M 25 _ (by decide)) 6 _ (by decide)) 7 _ (by decide)) (by omega) (by omega) (by omega)⟩
      exact ⟨⟨g4, g5, rfl, rfl, g8, g9, g10, g11, g13, g30, p0, p1, p2, p3, gw, gh⟩, H2⟩
    · rw [ck_none r1, ck_some v1, r2, v2, if_neg n01, if_pos rfl]
      exact thr xIA (by decide) rfl (show (1 : Int32) = _ by decide) (inv_1 I 1)
  · rw [ck_some r1, r2, if_pos rfl]
    exact thr xIA (by decide) rfl (show (1 : Int32) = _ by decide) (inv_1 I 1)
theorem mi_r (I : Inv k n E S) : ∃ h Y T, MI h n Y T S := by
  obtain ⟨h, Y, T, a1, a2, a3, H, M⟩ := I
  exact ⟨h, Y, T, M⟩
theorem th_recv (S : MS) (b v : Int32) : (m_recv S b v).1 25 = S.1 25 := by
  unfold m_recv
  dsimp only
  split
  · rfl
  · rfl
theorem s_outcome (I : Inv k n E S) (hk : k < 512) {p x : Int32} : SimR k n [xIO, xIA, xIS] E (e_outcome n E p x) (m_outcome S p x) := by
  unfold e_outcome m_outcome
  have I0 := I
  obtain ⟨h, Y, T, a1, a2, a3, H, M⟩ := I
  have hn := M.2.1.2
  rcases fb_or M p with ⟨r1, r2, b, hb, rfl⟩ | ⟨r1, r2⟩
  · rw [ck_none r1, r2]
    dsimp only
    rw [if_neg n01]
    rcases rng_or x 0 4 with ⟨v1, v2, v3, v4⟩ | ⟨v1, v2⟩
    · rw [ck_none v1, v2, if_neg n01]
      have cb : (nI b).toNatClampNeg = b := nI_clamp (by omega)
      obtain ⟨⟨q0, q1, q3, q6, q7, q8, q9, q10, qf, qi, qj⟩, w4, w5⟩ := H.2.1 b hb
      rw [cb, w4, show (mG S 25 0).2 12 b = S.2 12 b from rfl]
      by_cases z : S.2 12 b = 1
      · rw [if_pos z, if_pos z]
        by_cases x0 : x = 0
        · rw [if_pos x0, if_pos x0, q3, show (mG (mG S 25 0) 25 0).2 11 b = S.2 11 b from rfl]
          have M2 : MI h n Y T (mG (mG S 25 0) 25 0) := mi_G (mi_G M 25 _ (by decide)) 25 _ (by decide)
          have R := sim_take (S := S) (S1 := mG (mG S 25 0) 25 0) (v := S.2 11 b) H hb hn M2 rfl (fun j j1 j2 => (if_neg j2).trans (if_neg j2)) (by rw [z, if_neg (by decide), Int32.add_zero]; rfl)
          refine Or.inl ⟨rfl, ?_, (R.2.1 b hb).2.1, Inv.mk R (mi_recv M2 (by omega) _ _) (by omega) (by omega) (by omega)⟩
          exact th_recv _ _ _
        · rw [if_neg x0, if_neg x0]
          have M2 : MI h n Y T (mG (mG S 25 0) 25 0) := mi_G (mi_G M 25 _ (by decide)) 25 _ (by decide)
          obtain ⟨-, -, i, hi, rfl⟩ := (rsn_or x).resolve_right (fun w => by rw [oc_rsn v1 x0] at w; exact absurd w.1 (by simp))
          have R := sim_fail (S := mG (mG S 25 0) 25 0) H hb hn M2 (by omega) hi
          refine Or.inl ⟨rfl, ?_, (R.2.1 b hb).2.1, Inv.mk R (mi_fail M2 (by omega) _ _) (by omega) (by omega) (by omega)⟩
          exact th_fail _ _ _
      · rw [if_neg z, if_neg z]
        exact thr xIS (by decide) rfl (show (3 : Int32) = _ by decide) (inv_2 I0 0 3)
    · rw [ck_some v1, v2, if_pos rfl]
      exact thr xIA (by decide) rfl (show (2 : Int32) = _ by decide) (inv_2 I0 0 2)
  · rw [ck_some r1, r2]
    dsimp only
    rw [if_pos rfl]
    exact thr xIO (by decide) rfl (show (1 : Int32) = _ by decide) (inv_1 I0 1)
theorem s_pay (I : Inv k n E S) (hk : k < 512) {p v : Int32} : SimR k n [xIO, xIA, xIS] E (e_pay n E p v) (m_pay S p v) := by
  unfold e_pay m_pay
  have I0 := I
  obtain ⟨h, Y, T, a1, a2, a3, H, M⟩ := I
  have hn := M.2.1.2
  rcases fb_or M p with ⟨r1, r2, b, hb, rfl⟩ | ⟨r1, r2⟩
  · rw [ck_none r1, r2]
    dsimp only
    rw [if_neg n01]
    rcases rng_or v 1 9999 with ⟨v1, v2, v3, v4⟩ | ⟨v1, v2⟩
    · rw [ck_none v1, v2, if_neg n01]
      have cb : (nI b).toNatClampNeg = b := nI_clamp (by omega)
      obtain ⟨⟨q0, q1, q3, q6, q7, q8, q9, q10, qf, qi, qj⟩, w4, w5⟩ := H.2.1 b hb
      rw [cb, w4, q3, show (mG S 25 0).2 12 b = S.2 12 b from rfl, show (mG S 25 0).2 11 b = S.2 11 b from rfl]
      by_cases z : S.2 12 b = 1
      · rw [if_pos z, if_pos z]
        exact thr xIS (by decide) rfl (show (3 : Int32) = _ by decide) (inv_2 I0 0 3)
      · rw [if_neg z, if_neg z]
        by_cases z6 : S.2 12 b = 6
        · rw [if_pos z6, if_pos z6]
          exact thr xIS (by decide) rfl (show (3 : Int32) = _ by decide) (inv_2 I0 0 3)
        · rw [if_neg z6, if_neg z6]
          by_cases zv : v ≤ S.2 11 b
          · rw [if_pos zv, if_pos zv, show (mG (mG S 25 0) 25 0).2 12 b = S.2 12 b from rfl]
            have M2 : MI h n Y T (mG (mG (mG S 25 0) 25 0) 22 ((mG (mG S 25 0) 25 0).1 22 + (if S.2 12 b = 5 then v else 0))) := mi_G (mi_G (mi_G M 25 _ (by decide)) 25 _ (by decide)) 22 _ (by decide)
            have R := sim_take (S := S) (S1 := mG (mG (mG S 25 0) 25 0) 22 ((mG (mG S 25 0) 25 0).1 22 + (if S.2 12 b = 5 then v else 0))) (v := v) H hb hn M2 rfl (fun j j1 j2 => (if_neg j1).trans ((if_neg j2).trans (if_neg j2))) rfl
            refine Or.inl ⟨rfl, ?_, (R.2.1 b hb).1.2.2.1, Inv.mk R (mi_recv M2 (by omega) _ _) (by omega) (by omega) (by omega)⟩
            exact th_recv _ _ _
          · rw [if_neg zv, if_neg zv]
            exact thr xIS (by decide) rfl (show (3 : Int32) = _ by decide) (inv_2 I0 0 3)
    · rw [ck_some v1, v2, if_pos rfl]
      exact thr xIA (by decide) rfl (show (2 : Int32) = _ by decide) (inv_2 I0 0 2)
  · rw [ck_some r1, r2]
    dsimp only
    rw [if_pos rfl]
    exact thr xIO (by decide) rfl (show (1 : Int32) = _ by decide) (inv_1 I0 1)
end SIM4
