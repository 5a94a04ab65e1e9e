theorem ts_bit {w : Int64} {s : UInt64} {j : Nat} (hj : j < 64) (hs : s.toNat = j) : ((w.toUInt64 >>> s).toInt64 &&& 1) = 0 ↔ w.toBitVec.getLsbD j = false := by
  have e : (w.toUInt64 >>> s).toInt64.toBitVec = w.toBitVec >>> j := by
    apply BitVec.eq_of_toNat_eq
    show (w.toUInt64 >>> s).toNat = _
    rw [UInt64.toNat_shiftRight, hs, Nat.mod_eq_of_lt hj, BitVec.toNat_ushiftRight]
    rfl
  rw [← Int64.toBitVec_inj, Int64.toBitVec_and, e]
  show w.toBitVec >>> j &&& 1#64 = 0#64 ↔ _
  constructor
  · intro h
    have t := congrArg (fun x => x.getLsbD 0) h
    simpa using t
  · intro h
    apply BitVec.eq_of_getLsbD_eq
    intro i hi
    cases i with
    | zero => simp [h]
    | succ i => simp
theorem bl_shr6 {x : Nat} (h : x < 2 ^ 31) : nI x >>> ((6 : Int32) &&& 31) = nI (x / 64) := by
  apply Int32.toInt_inj.mp
  have e1 : (nI x >>> ((6 : Int32) &&& 31)).toInt = (nI x).toInt >>> 6 := by
    have e2 : (nI x >>> ((6 : Int32) &&& 31)).toBitVec = (nI x).toBitVec.sshiftRight 6 := rfl
    show (nI x >>> ((6 : Int32) &&& 31)).toBitVec.toInt = _
    rw [e2, BitVec.toInt_sshiftRight]
    rfl
  rw [e1, nI_toInt h, nI_toInt (by omega), Int.shiftRight_eq_div_pow]
  norm_cast
theorem bl_and63 {x : Nat} (h : x < 2 ^ 31) : nI x &&& 63 = nI (x % 64) := pk_andN (by omega) 6 (by decide)
theorem bl_s : ∀ c, c < 64 → ((nI c).toInt64.toUInt64 &&& Int64.toUInt64 63).toNat = c := by decide +kernel
theorem bl_tp : ∀ c, c < 64 → ((1 : Int64) <<< ((nI c).toInt64 &&& 63)).toBitVec = BitVec.twoPow 64 c := by decide +kernel
theorem bl_one {z : Int64} : (z &&& 1) = 1 ↔ ¬ (z &&& 1) = 0 := by
  constructor
  · intro h; rw [h]; decide
  · intro h
    have e : (z &&& 1).toBitVec = z.toBitVec &&& 1#64 := rfl
    have e2 : z.toBitVec &&& 1#64 = if z.toBitVec.getLsbD 0 = true then 1#64 else 0#64 := by
      apply BitVec.eq_of_getLsbD_eq
      intro i hi
      cases i with
      | zero => by_cases g : z.toBitVec.getLsbD 0 = true <;> simp_all
      | succ i => by_cases g : z.toBitVec.getLsbD 0 = true <;> simp_all
    by_cases g : z.toBitVec.getLsbD 0 = true
    · rw [if_pos g] at e2; exact Int64.toBitVec_inj.mp (e.trans e2)
    · rw [if_neg g] at e2; exact absurd (Int64.toBitVec_inj.mp (show (z &&& 1).toBitVec = (0 : Int64).toBitVec from e.trans e2)) h
theorem bl_cmp {x y : Int64} : lg_cmp x y = 0 ↔ x = y := by
  unfold lg_cmp
  constructor
  · intro h
    by_cases h1 : y < x
    · rw [if_pos h1] at h; exact absurd h (by decide)
    · rw [if_neg h1] at h
      by_cases h2 : x = y
      · exact h2
      · rw [if_neg h2] at h; exact absurd h (by decide)
  · intro h
    subst h
    have h1 : ¬ x < x := by simp only [Int64.lt_iff_toInt_lt]; omega
    rw [if_neg h1, if_pos rfl]
/-- the day's bit -/
def dbit (E : ES) (x : Nat) : Bool := decide (x < 31040) && (E.2.2 (x / 64)).toBitVec.getLsbD (x % 64)
theorem hol_bit (E : ES) {x : Nat} (h : x < 2 ^ 31) : e_hol E (nI x) = 0 ↔ dbit E x = false := by
  unfold e_hol dbit
  rw [bl_shr6 h, bl_and63 h, if_neg (nI_pos (by omega))]
  by_cases h2 : x < 31040
  · have h3 : ¬ (485 : Int32) ≤ nI (x / 64) := nI_ge (b := 485) (by omega) (by omega)
    rw [if_neg h3, nI_clamp (by omega)]
    have t := ts_bit (w := E.2.2 (x / 64)) (s := ((nI (x % 64)).toInt64.toUInt64 &&& Int64.toUInt64 63)) (j := x % 64) (by omega) (bl_s _ (by omega))
    by_cases g : (E.2.2 (x / 64)).toBitVec.getLsbD (x % 64) = true
    · have g2 := bl_one.mpr (fun z => by rw [t.mp z] at g; cases g)
      rw [if_pos (bl_cmp.mpr g2)]
      simp [g, h2]
    · have g3 : (E.2.2 (x / 64)).toBitVec.getLsbD (x % 64) = false := by simpa using g
      rw [if_neg (fun z => (bl_one.mp (bl_cmp.mp z)) (t.mpr g3))]
      simp [g3]
  · have h3 : (485 : Int32) ≤ nI (x / 64) := nI_le (a := 485) (by omega) (by omega)
    rw [if_pos h3]
    simp [h2]
theorem khol_bit (E : ES) {x y : Nat} (hx : x < 31040) : dbit (e_khol E (nI x)) y = (decide (y = x) || dbit E y) := by
  have e : e_khol E (nI x) = eH E (x / 64) (E.2.2 (x / 64) ||| ((1 : Int64) <<< ((nI (x % 64)).toInt64 &&& 63))) := by
    unfold e_khol
    have h3 : ¬ (485 : Int32) ≤ nI (x / 64) := nI_ge (b := 485) (by omega) (by omega)
    rw [bl_shr6 (by omega), bl_and63 (by omega), if_neg (nI_pos (by omega)), if_neg h3, nI_clamp (by omega)]
  rw [e]
  unfold dbit eH vp_updL
  by_cases h2 : y < 31040
  · by_cases hw : y / 64 = x / 64
    · simp only [hw, if_true, Int64.toBitVec_or, BitVec.getLsbD_or, bl_tp _ (show x % 64 < 64 by omega), BitVec.getLsbD_twoPow]
      by_cases hy : y = x
      · subst hy
        have : y % 64 < 64 := by omega
        simp [h2, this]
      · have : ¬ x % 64 = y % 64 := by omega
        simp [h2, this, hy]
    · have hy : ¬ y = x := fun z => hw (by rw [z])
      simp [h2, hw, hy]
  · have hy : ¬ y = x := by omega
    simp [h2, hy]
theorem hol_01 (E : ES) (d : Int32) : e_hol E d = 0 ∨ e_hol E d = 1 := by
  unfold e_hol
  split
  · exact Or.inl rfl
  · split
    · exact Or.inl rfl
    · split
      · exact Or.inr rfl
      · exact Or.inl rfl
/-! the weekdays -/
def wkS (m : Nat) : MS := (fun _ => 0, fun _ j => nI (m / 2 ^ j % 2))
theorem wk_bit : ∀ m, m < 128 → ∀ k, k < 7 → ((nI m &&& ((1 : Int32) <<< (nI k &&& 31)) = 0) ↔ nI (m / 2 ^ k % 2) = 0) := by decide +kernel
def wkm (m k f : Nat) : Nat := if f = 0 then (if m / 2 ^ k % 2 = 1 then m - 2 ^ k else m) else m ||| 2 ^ k
def wkw (m k f : Nat) : Int32 := if nI f = 0 then nI m &&& (((1 : Int32) <<< (nI k &&& 31)) ^^^ (-1)) else nI m ||| ((1 : Int32) <<< (nI k &&& 31))
theorem wk_set : ∀ m, m < 128 → ∀ k, k < 7 → ∀ f, f < 2 → wkw m k f = nI (wkm m k f) ∧ wkm m k f < 128 ∧ (∀ j, j < 7 → nI (wkm m k f / 2 ^ j % 2) = if j = k then nI f else nI (m / 2 ^ j % 2)) := by decide +kernel
theorem wk_many : ∀ m, m < 128 → ∀ k, k < 7 → ∀ f, f < 2 → (m_many (wkS m) (nI k) (nI f) 7 0 0 = 0 ↔ nI (wkm m k f) = 0) ∧ m_many (wkS m) (nI k) (nI f) 7 0 0 = e_bc (nI (wkm m k f)) := by decide +kernel
theorem many_congr {S S' : MS} (k f : Int32) : ∀ (j i : Nat) (c : Int32), i + j ≤ 7 → (∀ t, t < 7 → S.2 1 t = S'.2 1 t) → m_many S k f j i c = m_many S' k f j i c
  | 0, _, _, _, _ => rfl
  | j + 1, i, c, h, e => by
    unfold m_many
    rw [nI_clamp (show i < 2 ^ 31 by omega), e i (by omega)]
    exact many_congr k f j (i + 1) _ (by omega) e
theorem fm_nn {x y : Int32} (hx : 0 ≤ x.toInt) (hy : 0 < y.toInt) : fmod x y = x - x / y * y := by
  unfold fmod
  have h : 0 ≤ x ^^^ y := by
    have := xor_neg x y
    rw [i32_le]
    have e0 : (0 : Int32).toInt = 0 := by decide
    omega
  rw [if_pos h]
