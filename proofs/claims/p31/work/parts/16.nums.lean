theorem ts_bit {w : Int64} {s : UInt64} {j : Nat} (hj : j < 64) (hs : s.toNat = j) : ((w.toUInt64 >>> s).toInt64 &&& 1) = 0 ↔ w.toBitVec.getLsbD j = false := by
  have e : (w.toUInt64 >>> s).toInt64.toBitVec = w.toBitVec >>> j := by
    apply BitVec.eq_of_toNat_eq
    show (w.toUInt64 >>> s).toNat = _
    rw [UInt64.toNat_shiftRight, hs, Nat.mod_eq_of_lt hj, BitVec.toNat_ushiftRight]
    rfl
  rw [← Int64.toBitVec_inj, Int64.toBitVec_and, e]
  show w.toBitVec >>> j &&& 1#64 = 0#64 ↔ _
  constructor
  · intro h
    have t := congrArg (fun x => x.getLsbD 0) h
    simpa using t
  · intro h
    apply BitVec.eq_of_getLsbD_eq
    intro i hi
    cases i with
    | zero => simp [h]
    | succ i => simp
theorem bl_shr6 {x : Nat} (h : x < 2 ^ 31) : nI x >>> ((6 : Int32) &&& 31) = nI (x / 64) := by
  apply Int32.toInt_inj.mp
  have e1 : (nI x >>> ((6 : Int32) &&& 31)).toInt = (nI x).toInt >>> 6 := by
    have e2 : (nI x >>> ((6 : Int32) &&& 31)).toBitVec = (nI x).toBitVec.sshiftRight 6 := rfl
    show (nI x >>> ((6 : Int32) &&& 31)).toBitVec.toInt = _
    rw [e2, BitVec.toInt_sshiftRight]
    rfl
  rw [e1, nI_toInt h, nI_toInt (by omega), Int.shiftRight_eq_div_pow]
  norm_cast
theorem bl_and63 {x : Nat} (h : x < 2 ^ 31) : nI x &&& 63 = nI (x % 64) := pk_andN (by omega) 6 (by decide)
theorem bl_s : ∀ c, c < 64 → ((nI c).toInt64.toUInt64 &&& Int64.toUInt64 63).toNat = c := by decide +kernel
theorem bl_tp : ∀ c, c < 64 → ((1 : Int64) <<< ((nI c).toInt64 &&& 63)).toBitVec = BitVec.twoPow 64 c := by decide +kernel
theorem bl_one {z : Int64} : (z &&& 1) = 1 ↔ ¬ (z &&& 1) = 0 := by
  constructor
  · intro h; rw [h]; decide
  · intro h
    have e : (z &&& 1).toBitVec = z.toBitVec &&& 1#64 := rfl
    have e2 : z.toBitVec &&& 1#64 = if z.toBitVec.getLsbD 0 = true then 1#64 else 0#64 := by
      apply BitVec.eq_of_getLsbD_eq
      intro i hi
      cases i with
      | zero => by_cases g : z.toBitVec.getLsbD 0 = true <;> simp_all
      | succ i => by_cases g : z.toBitVec.getLsbD 0 = true <;> simp_all
    by_cases g : z.toBitVec.getLsbD 0 = true
    · rw [if_pos g] at e2; exact Int64.toBitVec_inj.mp (e.trans e2)
    · rw [if_neg g] at e2; exact absurd (Int64.toBitVec_inj.mp (show (z &&& 1).toBitVec = (0 : Int64).toBitVec from e.trans e2)) h
theorem bl_cmp {x y : Int64} : lg_cmp x y = 0 ↔ x = y := by
  unfold lg_cmp
  constructor
  · intro h
    by_cases h1 : y < x
    · rw [if_pos h1] at h; exact absurd h (by decide)
    · rw [if_neg h1] at h
      by_cases h2 : x = y
      · exact h2
      · rw [if_neg h2] at h; exact absurd h (by decide)
  · intro h
    subst h
    have h1 : ¬ x < x := by simp only [Int64.lt_iff_toInt_lt]; omega
    rw [if_neg h1, if_pos rfl]
/-- the day's bit -/
def dbit (E : ES) (x : Nat) : Bool := decide (x < 31040) && (E.2.2 (x / 64)).toBitVec.getLsbD (x % 64)
theorem hol_bit (E : ES) {x : Nat} (h : x < 2 ^ 31) : e_hol E (nI x) = 0 ↔ dbit E x = false := by
  unfold e_hol dbit
  rw [bl_shr6 h, bl_and63 h, if_neg (nI_pos (by omega))]
  by_cases h2 : x < 31040
  · have h3 : ¬ (485 : Int32) ≤ nI (x / 64) := nI_ge (b := 485) (by omega) (by omega)
    rw [if_neg h3, nI_clamp (by omega)]
    have t := ts_bit (w := E.2.2 (x / 64)) (s := ((nI (x % 64)).toInt64.toUInt64 &&& Int64.toUInt64 63)) (j := x % 64) (by omega) (bl_s _ (by omega))
    by_cases g : (E.2.2 (x / 64)).toBitVec.getLsbD (x % 64) = true
    · have g2 := bl_one.mpr (fun z => by rw [t.mp z] at g; cases g)
      rw [if_pos (bl_cmp.mpr g2)]
      simp [g, h2]
    · have g3 : (E.2.2 (x / 64)).toBitVec.getLsbD (x % 64) = false := by simpa using g
      rw [if_neg (fun z => (bl_one.mp (bl_cmp.mp z)) (t.mpr g3))]
      simp [g3]
  · have h3 : (485 : Int32) ≤ nI (x / 64) := nI_le (a := 485) (by omega) (by omega)
    rw [if_pos h3]
    simp [h2]
theorem khol_bit (E : ES) {x y : Nat} (hx : x < 31040) : dbit (e_khol E (nI x)) y = (decide (y = x) || dbit E y) := by
  have e : e_khol E (nI x) = eH E (x / 64) (E.2.2 (x / 64) ||| ((1 : Int64) <<< ((nI (x % 64)).toInt64 &&& 63))) := by
    unfold e_khol
    have h3 : ¬ (485 : Int32) ≤ nI (x / 64) := nI_ge (b := 485) (by omega) (by omega)
    rw [bl_shr6 (by omega), bl_and63 (by omega), if_neg (nI_pos (by omega)), if_neg h3, nI_clamp (by omega)]
  rw [e]
  unfold dbit eH vp_updL
  by_cases h2 : y < 31040
  · by_cases hw : y / 64 = x / 64
    · simp only [hw, if_true, Int64.toBitVec_or, BitVec.getLsbD_or, bl_tp _ (show x % 64 < 64 by omega), BitVec.getLsbD_twoPow]
      by_cases hy : y = x
      · subst hy
        have : y % 64 < 64 := by omega
        simp [h2, this]
      · have : ¬ x % 64 = y % 64 := by omega
        simp [h2, this, hy]
    · have hy : ¬ y = x := fun z => hw (by rw [z])
      simp [h2, hw, hy]
  · have hy : ¬ y = x := by omega
    simp [h2, hy]
theorem hol_01 (E : ES) (d : Int32) : e_hol E d = 0 ∨ e_hol E d = 1 := by
  unfold e_hol
  split
  · exact Or.inl rfl
  · split
    · exact Or.inl rfl
    · split
      · exact Or.inr rfl
      · exact Or.inl rfl
theorem fm_nn {x y : Int32} (hx : 0 ≤ x.toInt) (hy : 0 < y.toInt) : fmod x y = x - x / y * y := by
  unfold fmod
  have h : 0 ≤ x ^^^ y := by
    have := xor_neg x y
    rw [i32_le]
    have e0 : (0 : Int32).toInt = 0 := by decide
    omega
  rw [if_pos h]
/-! the weekdays -/
theorem wk_b : ∀ m, m < 128 → ∀ k, k < 7 → ((nI m &&& ((1 : Int32) <<< (nI k &&& 31)) = 0) ↔ ¬ ((nI m >>> (nI k &&& 31)) &&& nI 1 = nI 1)) := by decide +kernel
theorem wk_e : ∀ m, m < 128 → 0 < m → ∃ k, k < 7 ∧ (nI m >>> (nI k &&& 31)) &&& nI 1 = nI 1 := by decide +kernel
/-- the law's charges -/
def m_wl (w : Nat → Int32) (d : Int32) : Nat → Nat → Int32 → Int32
  | 0, _, c => c
  | k + 1, i, c => m_wl w d k (i + 1) (if c = 0 then 0 else if w i = d then 0 else 1)
def m_chg (m : Int32) (w : Nat → Int32) (h x : Nat) : Int32 := m_wl w (nI x) h 0 (if (m >>> (nI (x % 7) &&& 31)) &&& nI 1 = nI 1 then 1 else 0)
def m_cf (m : Int32) (w : Nat → Int32) (h : Nat) : Nat → Nat → Nat
  | 0, x => x
  | k + 1, x => if m_chg m w h x = 0 then m_cf m w h k (x + 1) else x
theorem wl_0 {w : Nat → Int32} {d : Int32} : ∀ k i, m_wl w d k i 0 = 0
  | 0, _ => rfl
  | k + 1, i => by
    unfold m_wl
    rw [if_pos rfl]
    exact wl_0 k (i + 1)
theorem wl_1 {w : Nat → Int32} {d : Int32} : ∀ k i, (m_wl w d k i 1 = 1 ∧ ∀ j, i ≤ j → j < i + k → ¬ w j = d) ∨ (m_wl w d k i 1 = 0 ∧ ∃ j, i ≤ j ∧ j < i + k ∧ w j = d)
  | 0, i => Or.inl ⟨rfl, fun j h1 h2 => absurd h1 (by omega)⟩
  | k + 1, i => by
    unfold m_wl
    rw [if_neg (by decide)]
    by_cases z : w i = d
    · rw [if_pos z, wl_0]
      exact Or.inr ⟨rfl, i, Nat.le_refl i, by omega, z⟩
    · rw [if_neg z]
      rcases wl_1 (w := w) (d := d) k (i + 1) with ⟨h1, h2⟩ | ⟨h1, j, j1, j2, j3⟩
      · refine Or.inl ⟨h1, fun j j1 j2 => ?_⟩
        by_cases y : j = i
        · subst y; exact z
        · exact h2 j (by omega) (by omega)
      · exact Or.inr ⟨h1, j, by omega, by omega, j3⟩
theorem chgm_01 (m : Int32) (w : Nat → Int32) (h x : Nat) : m_chg m w h x = 0 ∨ m_chg m w h x = 1 := by
  unfold m_chg
  split
  · rcases wl_1 (w := w) (d := nI x) h 0 with ⟨h1, -⟩ | ⟨h1, -⟩
    · exact Or.inr h1
    · exact Or.inl h1
  · exact Or.inl (wl_0 h 0)
theorem cf_ok {m : Int32} {w : Nat → Int32} {h : Nat} : ∀ (K x t : Nat), t < K → ¬ m_chg m w h (x + t) = 0 → ¬ m_chg m w h (m_cf m w h K x) = 0
  | 0, x, t, h1, _ => absurd h1 (Nat.not_lt_zero _)
  | K + 1, x, t, h1, h2 => by
    unfold m_cf
    by_cases z : m_chg m w h x = 0
    · rw [if_pos z]
      have t0 : t ≠ 0 := fun y => h2 (by rw [y]; exact z)
      obtain ⟨t, rfl⟩ : ∃ u, t = u + 1 := ⟨t - 1, by omega⟩
      exact cf_ok K (x + 1) t (by omega) (by rw [show x + 1 + t = x + (t + 1) by omega]; exact h2)
    · rw [if_neg z]; exact z
theorem cf_bd {m : Int32} {w : Nat → Int32} {h : Nat} : ∀ (K x : Nat), x ≤ m_cf m w h K x ∧ m_cf m w h K x ≤ x + K
  | 0, x => ⟨Nat.le_refl _, Nat.le_refl _⟩
  | K + 1, x => by
    unfold m_cf
    have := cf_bd (m := m) (w := w) (h := h) K (x + 1)
    split
    · omega
    · omega
