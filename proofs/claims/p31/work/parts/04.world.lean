/-- the class's numbers: its own by their slots (4 to 11), weekdays 12, total 13, counts of gaps 14 to 17; rows: bills' fields 0 to 10 by bill, gaps 20 to 23, codes 30, failures 40 + bill; holidays -/
abbrev ES : Type := (Nat → Int32) × (Nat → Nat → Int32) × (Nat → Int64)
/-- the law's own rows: 0 n, 1 w, 2 g, 3 q, 4 b, 5 c, 6 f, 7 k, 8 e -/
abbrev MS : Type := Nat → Nat → Int32
def up2 (V : Nat → Nat → Int32) (k i : Nat) (v : Int32) : Nat → Nat → Int32 := va_up V k (upd (V k) i v)
def eG (E : ES) (k : Nat) (v : Int32) : ES := (upd E.1 k v, E.2.1, E.2.2)
def eV (E : ES) (k i : Nat) (v : Int32) : ES := (E.1, up2 E.2.1 k i v, E.2.2)
def eH (E : ES) (i : Nat) (v : Int64) : ES := (E.1, E.2.1, vp_updL E.2.2 i v)
def mA (S : MS) (k i : Nat) (v : Int32) : MS := up2 S k i v
def gpf (ad : Nat → Nat) (i : Nat) : Option Nat := if i < 4 then some (ad (4 + 2 * i)) else none
def brf (ad : Nat → Nat) (n i : Nat) : Option Nat := if i < n then some (ad (24 + 2 * i)) else none
abbrev blf (ad : Nat → Nat) (E : ES) (b : Nat) : List Value := [.int (E.2.1 0 b), .int (E.2.1 1 b), .ref (ad (25 + 2 * b)), .int (E.2.1 3 b), .int (E.2.1 4 b), .int (E.2.1 5 b), .int (E.2.1 6 b), .int (E.2.1 7 b), .int (E.2.1 8 b), .int (E.2.1 9 b), .int (E.2.1 10 b)]
abbrev en1 (ad : Nat → Nat) (E : ES) (b : Nat) : Nat × va_E := (ad (24 + 2 * b), .inr (0, blf ad E b))
abbrev en2 (ad : Nat → Nat) (cs : Nat → ClassId) (E : ES) (b : Nat) : Nat × va_E := (ad (25 + 2 * b), .inl (cs 0, 4, .inl (E.2.1 (40 + b))))
def PL (f1 f2 : Nat → Nat × va_E) : Nat → va_W
  | 0 => []
  | b + 1 => PL f1 f2 b ++ [f1 b, f2 b]
def FX (ad : Nat → Nat) (cs : Nat → ClassId) (n : Nat) (E : ES) (S : MS) (o : Nat → Int64) : va_W := [
  (ad 0, .inr (4, [.ref (ad 1), .ref (ad 3), .ref (ad 12), .ref (ad 13), .int (E.1 4), .int (E.1 5), .int (E.1 6), .int (E.1 7), .int (E.1 8), .int (E.1 9), .int (E.1 10), .int (E.1 11)])),
  (ad 1, .inr (1, [.int (E.1 12), .ref (ad 2)])),
  (ad 2, .inl (cs 1, 485, .inr (.inl E.2.2))),
  (ad 3, .inl (cs 4, 4, .inr (.inr (.inr (.inr (gpf ad)))))),
  (ad 4, .inr (3, [.ref (ad 5), .int (E.1 14)])),
  (ad 5, .inl (cs 0, 6, .inl (E.2.1 20))),
  (ad 6, .inr (3, [.ref (ad 7), .int (E.1 15)])),
  (ad 7, .inl (cs 0, 6, .inl (E.2.1 21))),
  (ad 8, .inr (3, [.ref (ad 9), .int (E.1 16)])),
  (ad 9, .inl (cs 0, 6, .inl (E.2.1 22))),
  (ad 10, .inr (3, [.ref (ad 11), .int (E.1 17)])),
  (ad 11, .inl (cs 0, 6, .inl (E.2.1 23))),
  (ad 12, .inl (cs 3, 30, .inr (.inr (.inr (.inr (brf ad n)))))),
  (ad 13, .inr (2, [.ref (ad 14), .int (E.1 13)])),
  (ad 14, .inl (cs 0, 400, .inl (E.2.1 30))),
  (ad 15, .inl (cs 0, 9, .inl (S 0))),
  (ad 16, .inl (cs 0, 64, .inl (S 1))),
  (ad 17, .inl (cs 0, 30, .inl (S 2))),
  (ad 18, .inl (cs 0, 5, .inl (S 3))),
  (ad 19, .inl (cs 0, 36, .inl (S 4))),
  (ad 20, .inl (cs 0, 48, .inl (S 5))),
  (ad 21, .inl (cs 0, 60, .inl (S 6))),
  (ad 22, .inl (cs 0, 36, .inl (S 7))),
  (ad 23, .inl (cs 0, 60, .inl (S 8)))]
/-- THE WORLD: class, reference and the law's own row -/
def WD (ad : Nat → Nat) (cs : Nat → ClassId) (n : Nat) (E : ES) (S : MS) (o : Nat → Int64) : va_W := FX ad cs n E S o ++ PL (en1 ad E) (en2 ad cs E) n
theorem pl_len (f1 f2 : Nat → Nat × va_E) : ∀ n, (PL f1 f2 n).length = 2 * n
  | 0 => rfl
  | n + 1 => by simp [PL, pl_len f1 f2 n]; omega
theorem pl_get1 (f1 f2 : Nat → Nat × va_E) : ∀ (n b : Nat), b < n → (PL f1 f2 n)[2 * b]? = some (f1 b)
  | 0, _, h => absurd h (Nat.not_lt_zero _)
  | n + 1, b, h => by
    unfold PL
    by_cases hb : b < n
    · rw [List.getElem?_append_left (by rw [pl_len]; omega)]; exact pl_get1 f1 f2 n b hb
    · have : b = n := by omega
      subst this
      rw [List.getElem?_append_right (by rw [pl_len]; omega), pl_len, Nat.sub_self]; rfl
theorem pl_get2 (f1 f2 : Nat → Nat × va_E) : ∀ (n b : Nat), b < n → (PL f1 f2 n)[2 * b + 1]? = some (f2 b)
  | 0, _, h => absurd h (Nat.not_lt_zero _)
  | n + 1, b, h => by
    unfold PL
    by_cases hb : b < n
    · rw [List.getElem?_append_left (by rw [pl_len]; omega)]; exact pl_get2 f1 f2 n b hb
    · have : b = n := by omega
      subst this
      rw [List.getElem?_append_right (by rw [pl_len]; omega), pl_len, show 2 * b + 1 - 2 * b = 1 by omega]; rfl
theorem pl_congr {f1 f2 g1 g2 : Nat → Nat × va_E} : ∀ n, (∀ j, j < n → f1 j = g1 j ∧ f2 j = g2 j) → PL f1 f2 n = PL g1 g2 n
  | 0, _ => rfl
  | n + 1, h => by
    unfold PL
    rw [pl_congr n (fun j hj => h j (by omega)), (h n (by omega)).1, (h n (by omega)).2]
theorem pl_set1 (f1 f2 : Nat → Nat × va_E) (x : Nat × va_E) : ∀ (n b : Nat), b < n → (PL f1 f2 n).set (2 * b) x = PL (fun j => if j = b then x else f1 j) f2 n
  | 0, _, h => absurd h (Nat.not_lt_zero _)
  | n + 1, b, h => by
    unfold PL
    by_cases hb : b < n
    · rw [List.set_append_left _ _ (by rw [pl_len]; omega), pl_set1 f1 f2 x n b hb, if_neg (by omega)]
    · have : b = n := by omega
      subst this
      rw [List.set_append_right _ _ (by rw [pl_len]; omega), pl_len, Nat.sub_self, if_pos rfl]
      rw [pl_congr (f1 := f1) (g1 := fun j => if j = b then x else f1 j) (f2 := f2) (g2 := f2) b (fun j hj => ⟨by rw [if_neg (by omega)], rfl⟩)]
      rfl
theorem pl_set2 (f1 f2 : Nat → Nat × va_E) (x : Nat × va_E) : ∀ (n b : Nat), b < n → (PL f1 f2 n).set (2 * b + 1) x = PL f1 (fun j => if j = b then x else f2 j) n
  | 0, _, h => absurd h (Nat.not_lt_zero _)
  | n + 1, b, h => by
    unfold PL
    by_cases hb : b < n
    · rw [List.set_append_left _ _ (by rw [pl_len]; omega), pl_set2 f1 f2 x n b hb, if_neg (by omega)]
    · have : b = n := by omega
      subst this
      rw [List.set_append_right _ _ (by rw [pl_len]; omega), pl_len, show 2 * b + 1 - 2 * b = 1 by omega, if_pos rfl]
      rw [pl_congr (f1 := f1) (g1 := f1) (f2 := f2) (g2 := fun j => if j = b then x else f2 j) b (fun j hj => ⟨rfl, by rw [if_neg (by omega)]⟩)]
      rfl
section WDS
variable {ad : Nat → Nat} {cs : Nat → ClassId} {n : Nat} {E : ES} {S : MS} {o : Nat → Int64}
theorem wd_bill {b : Nat} (h : b < n) : (WD ad cs n E S o)[24 + 2 * b]? = some (en1 ad E b) := by
  unfold WD
  rw [List.getElem?_append_right (by show 24 ≤ _; omega), show 24 + 2 * b - (FX ad cs n E S o).length = 2 * b by show 24 + 2 * b - 24 = _; omega]
  exact pl_get1 _ _ n b h
theorem wd_fail {b : Nat} (h : b < n) : (WD ad cs n E S o)[25 + 2 * b]? = some (en2 ad cs E b) := by
  unfold WD
  rw [List.getElem?_append_right (by show 24 ≤ _; omega), show 25 + 2 * b - (FX ad cs n E S o).length = 2 * b + 1 by show 25 + 2 * b - 24 = _; omega]
  exact pl_get2 _ _ n b h
theorem wd_gap : ∀ {i : Nat}, i < 4 → (WD ad cs n E S o)[4 + 2 * i]? = some (ad (4 + 2 * i), .inr (3, [.ref (ad (5 + 2 * i)), .int (E.1 (14 + i))]))
  | 0, _ => rfl
  | 1, _ => rfl
  | 2, _ => rfl
  | 3, _ => rfl
  | i + 4, h => absurd h (by omega)
theorem wd_gapd : ∀ {i : Nat}, i < 4 → (WD ad cs n E S o)[5 + 2 * i]? = some (ad (5 + 2 * i), .inl (cs 0, 6, .inl (E.2.1 (20 + i))))
  | 0, _ => rfl
  | 1, _ => rfl
  | 2, _ => rfl
  | 3, _ => rfl
  | i + 4, h => absurd h (by omega)
/-- the bills alone have changed -/
theorem wd_set1 {E' : ES} {b : Nat} {x : Nat × va_E} (h : b < n) (hF : FX ad cs n E S o = FX ad cs n E' S o) (h1 : ∀ j, j < n → (if j = b then x else en1 ad E j) = en1 ad E' j) (h2 : ∀ j, j < n → en2 ad cs E j = en2 ad cs E' j) : (WD ad cs n E S o).set (24 + 2 * b) x = WD ad cs n E' S o := by
  unfold WD
  rw [List.set_append_right _ _ (by show 24 ≤ _; omega), show 24 + 2 * b - (FX ad cs n E S o).length = 2 * b by show 24 + 2 * b - 24 = _; omega, pl_set1 _ _ x n b h, hF]
  exact congrArg _ (pl_congr n fun j hj => ⟨h1 j hj, h2 j hj⟩)
theorem wd_set2 {E' : ES} {b : Nat} {x : Nat × va_E} (h : b < n) (hF : FX ad cs n E S o = FX ad cs n E' S o) (h1 : ∀ j, j < n → en1 ad E j = en1 ad E' j) (h2 : ∀ j, j < n → (if j = b then x else en2 ad cs E j) = en2 ad cs E' j) : (WD ad cs n E S o).set (25 + 2 * b) x = WD ad cs n E' S o := by
  unfold WD
  rw [List.set_append_right _ _ (by show 24 ≤ _; omega), show 25 + 2 * b - (FX ad cs n E S o).length = 2 * b + 1 by show 25 + 2 * b - 24 = _; omega, pl_set2 _ _ x n b h, hF]
  exact congrArg _ (pl_congr n fun j hj => ⟨h1 j hj, h2 j hj⟩)
theorem ws_b0 {b : Nat} {v : Int32} (h : b < n) : (WD ad cs n E S o).set (24 + 2 * b) (ad (24 + 2 * b), .inr (0, (blf ad E b).set 0 (.int v))) = WD ad cs n (eV E 0 b v) S o := by
  refine wd_set1 h rfl (fun j _ => ?_) (fun j _ => ?_)
  · by_cases hj : j = b
    · subst hj; simp [en1, blf, eV, up2, va_up, upd]
    · rw [if_neg hj]; simp [en1, blf, eV, up2, va_up, upd, hj]
  · have : ¬ 40 + j = 0 := by omega
    simp [en2, eV, up2, va_up, this]
theorem ws_b1 {b : Nat} {v : Int32} (h : b < n) : (WD ad cs n E S o).set (24 + 2 * b) (ad (24 + 2 * b), .inr (0, (blf ad E b).set 1 (.int v))) = WD ad cs n (eV E 1 b v) S o := by
  refine wd_set1 h rfl (fun j _ => ?_) (fun j _ => ?_)
  · by_cases hj : j = b
    · subst hj; simp [en1, blf, eV, up2, va_up, upd]
    · rw [if_neg hj]; simp [en1, blf, eV, up2, va_up, upd, hj]
  · have : ¬ 40 + j = 1 := by omega
    simp [en2, eV, up2, va_up, this]
theorem ws_b3 {b : Nat} {v : Int32} (h : b < n) : (WD ad cs n E S o).set (24 + 2 * b) (ad (24 + 2 * b), .inr (0, (blf ad E b).set 3 (.int v))) = WD ad cs n (eV E 3 b v) S o := by
  refine wd_set1 h rfl (fun j _ => ?_) (fun j _ => ?_)
  · by_cases hj : j = b
    · subst hj; simp [en1, blf, eV, up2, va_up, upd]
    · rw [if_neg hj]; simp [en1, blf, eV, up2, va_up, upd, hj]
  · have : ¬ 40 + j = 3 := by omega
    simp [en2, eV, up2, va_up, this]
theorem ws_b4 {b : Nat} {v : Int32} (h : b < n) : (WD ad cs n E S o).set (24 + 2 * b) (ad (24 + 2 * b), .inr (0, (blf ad E b).set 4 (.int v))) = WD ad cs n (eV E 4 b v) S o := by
  refine wd_set1 h rfl (fun j _ => ?_) (fun j _ => ?_)
  · by_cases hj : j = b
    · subst hj; simp [en1, blf, eV, up2, va_up, upd]
    · rw [if_neg hj]; simp [en1, blf, eV, up2, va_up, upd, hj]
  · have : ¬ 40 + j = 4 := by omega
    simp [en2, eV, up2, va_up, this]
theorem ws_b5 {b : Nat} {v : Int32} (h : b < n) : (WD ad cs n E S o).set (24 + 2 * b) (ad (24 + 2 * b), .inr (0, (blf ad E b).set 5 (.int v))) = WD ad cs n (eV E 5 b v) S o := by
  refine wd_set1 h rfl (fun j _ => ?_) (fun j _ => ?_)
  · by_cases hj : j = b
    · subst hj; simp [en1, blf, eV, up2, va_up, upd]
    · rw [if_neg hj]; simp [en1, blf, eV, up2, va_up, upd, hj]
  · have : ¬ 40 + j = 5 := by omega
    simp [en2, eV, up2, va_up, this]
theorem ws_b6 {b : Nat} {v : Int32} (h : b < n) : (WD ad cs n E S o).set (24 + 2 * b) (ad (24 + 2 * b), .inr (0, (blf ad E b).set 6 (.int v))) = WD ad cs n (eV E 6 b v) S o := by
  refine wd_set1 h rfl (fun j _ => ?_) (fun j _ => ?_)
  · by_cases hj : j = b
    · subst hj; simp [en1, blf, eV, up2, va_up, upd]
    · rw [if_neg hj]; simp [en1, blf, eV, up2, va_up, upd, hj]
  · have : ¬ 40 + j = 6 := by omega
    simp [en2, eV, up2, va_up, this]
theorem ws_b7 {b : Nat} {v : Int32} (h : b < n) : (WD ad cs n E S o).set (24 + 2 * b) (ad (24 + 2 * b), .inr (0, (blf ad E b).set 7 (.int v))) = WD ad cs n (eV E 7 b v) S o := by
  refine wd_set1 h rfl (fun j _ => ?_) (fun j _ => ?_)
  · by_cases hj : j = b
    · subst hj; simp [en1, blf, eV, up2, va_up, upd]
    · rw [if_neg hj]; simp [en1, blf, eV, up2, va_up, upd, hj]
  · have : ¬ 40 + j = 7 := by omega
    simp [en2, eV, up2, va_up, this]
theorem ws_b8 {b : Nat} {v : Int32} (h : b < n) : (WD ad cs n E S o).set (24 + 2 * b) (ad (24 + 2 * b), .inr (0, (blf ad E b).set 8 (.int v))) = WD ad cs n (eV E 8 b v) S o := by
  refine wd_set1 h rfl (fun j _ => ?_) (fun j _ => ?_)
  · by_cases hj : j = b
    · subst hj; simp [en1, blf, eV, up2, va_up, upd]
    · rw [if_neg hj]; simp [en1, blf, eV, up2, va_up, upd, hj]
  · have : ¬ 40 + j = 8 := by omega
    simp [en2, eV, up2, va_up, this]
theorem ws_b9 {b : Nat} {v : Int32} (h : b < n) : (WD ad cs n E S o).set (24 + 2 * b) (ad (24 + 2 * b), .inr (0, (blf ad E b).set 9 (.int v))) = WD ad cs n (eV E 9 b v) S o := by
  refine wd_set1 h rfl (fun j _ => ?_) (fun j _ => ?_)
  · by_cases hj : j = b
    · subst hj; simp [en1, blf, eV, up2, va_up, upd]
    · rw [if_neg hj]; simp [en1, blf, eV, up2, va_up, upd, hj]
  · have : ¬ 40 + j = 9 := by omega
    simp [en2, eV, up2, va_up, this]
theorem ws_b10 {b : Nat} {v : Int32} (h : b < n) : (WD ad cs n E S o).set (24 + 2 * b) (ad (24 + 2 * b), .inr (0, (blf ad E b).set 10 (.int v))) = WD ad cs n (eV E 10 b v) S o := by
  refine wd_set1 h rfl (fun j _ => ?_) (fun j _ => ?_)
  · by_cases hj : j = b
    · subst hj; simp [en1, blf, eV, up2, va_up, upd]
    · rw [if_neg hj]; simp [en1, blf, eV, up2, va_up, upd, hj]
  · have : ¬ 40 + j = 10 := by omega
    simp [en2, eV, up2, va_up, this]
theorem ws_f {b i : Nat} {v : Int32} (h : b < n) : (WD ad cs n E S o).set (25 + 2 * b) (ad (25 + 2 * b), .inl (cs 0, 4, .inl (upd (E.2.1 (40 + b)) i v))) = WD ad cs n (eV E (40 + b) i v) S o := by
  have q : ∀ k, k < 40 → ¬ k = 40 + b := fun k hk => by omega
  refine wd_set2 h ?_ (fun j _ => ?_) (fun j _ => ?_)
  · simp [FX, eV, up2, va_up, q]
  · simp [en1, blf, eV, up2, va_up, q]
  · by_cases hj : j = b
    · subst hj; simp [en2, eV, up2, va_up]
    · have : ¬ 40 + j = 40 + b := by omega
      rw [if_neg hj]; simp [en2, eV, up2, va_up, hj]
theorem ws_gc : ∀ {i : Nat} {v : Int32}, i < 4 → (WD ad cs n E S o).set (4 + 2 * i) (ad (4 + 2 * i), .inr (3, ([.ref (ad (5 + 2 * i)), .int (E.1 (14 + i))] : List Value).set 1 (.int v))) = WD ad cs n (eG E (14 + i) v) S o
  | 0, _, _ => rfl
  | 1, _, _ => rfl
  | 2, _, _ => rfl
  | 3, _, _ => rfl
  | i + 4, _, h => absurd h (by omega)
theorem ws_gd : ∀ {i j : Nat} {v : Int32}, i < 4 → (WD ad cs n E S o).set (5 + 2 * i) (ad (5 + 2 * i), .inl (cs 0, 6, .inl (upd (E.2.1 (20 + i)) j v))) = WD ad cs n (eV E (20 + i) j v) S o := by
  intro i j v hi
  have e2 : PL (en1 ad E) (en2 ad cs E) n = PL (en1 ad (eV E (20 + i) j v)) (en2 ad cs (eV E (20 + i) j v)) n := by
    refine pl_congr n fun b _ => ⟨?_, ?_⟩
    · have q : ∀ k, k < 20 → ¬ k = 20 + i := fun k hk => by omega
      simp [en1, blf, eV, up2, va_up, q]
    · have : ¬ 40 + b = 20 + i := by omega
      simp [en2, eV, up2, va_up, this]
  unfold WD
  rw [← e2]
  match i, hi with
  | 0, _ => rfl
  | 1, _ => rfl
  | 2, _ => rfl
  | 3, _ => rfl
  | i + 4, h => exact absurd h (by omega)
theorem ws_cd {j : Nat} {v : Int32} : (WD ad cs n E S o).set 14 (ad 14, .inl (cs 0, 400, .inl (upd (E.2.1 30) j v))) = WD ad cs n (eV E 30 j v) S o := by
  have e2 : PL (en1 ad E) (en2 ad cs E) n = PL (en1 ad (eV E 30 j v)) (en2 ad cs (eV E 30 j v)) n := by
    refine pl_congr n fun b _ => ⟨?_, ?_⟩
    · simp [en1, blf, eV, up2, va_up]
    · have : ¬ 40 + b = 30 := by omega
      simp [en2, eV, up2, va_up, this]
  unfold WD
  rw [← e2]
  rfl
end WDS
theorem uw0 : ∀ w ∈ u_ws RX0 TX0 11, w ∈ WT := by decide +kernel
theorem uw1 : ∀ w ∈ u_ws RX1 TX1 2, w ∈ WT := by decide +kernel
theorem uw2 : ∀ w ∈ u_ws RX2 TX2 2, w ∈ WT := by decide +kernel
theorem uw3 : ∀ w ∈ u_ws RX3 TX3 2, w ∈ WT := by decide +kernel
theorem uw4 : ∀ w ∈ u_ws RX4 TX4 12, w ∈ WT := by decide +kernel
section GP
variable {p : Program} {l : Launch} {e : Env} {R : Room} {s : State} {m : MethodId} {args : Array Value} {below : List Frame} {meth : Method} {c : Code} {D : va_G} {cs : Nat → ClassId} {sa : Nat → Nat} {A : Nat → Prop} {cc : ByteArray} {nL : Nat} {ret : Option FieldType} {cells slots : Nat} {Q : State → Prop} {pc : Nat} {lv : List (Nat × Value)} {st : List Value} {ad : Nat → Nat} {n : Nat} {E : ES} {S : MS} {o : Nat → Int64}
theorem gf_X1_9 (hc : CX p l e R s m args below meth c D cs sa A cc nL RX1 ret) (hdg : decode cc pc = .ok (.getfield 9, 3)) (kk : J p l e R s m args below meth c D A nL cells slots Q (WD ad cs n E S o) (pc + 3) lv (.int (E.1 12) :: st)) : J p l e R s m args below meth c D A nL cells slots Q (WD ad cs n E S o) pc lv (.ref (ad 1) :: st) := j_getf hc (K := RX1) (T := TX1) (N := 2) uw1 1 rfl rfl 0 (by decide) wt_28 rfl rfl hdg kk
theorem pf_X1_9 (hc : CX p l e R s m args below meth c D cs sa A cc nL RX1 ret) {v : Int32} (hdg : decode cc pc = .ok (.putfield 9, 3)) (kk : J p l e R s m args below meth c D A nL cells slots Q (WD ad cs n (eG E 12 v) S o) (pc + 3) lv st) : J p l e R s m args below meth c D A nL cells slots Q (WD ad cs n E S o) pc lv (.int v :: .ref (ad 1) :: st) := j_putf hc (w' := WD ad cs n (eG E 12 v) S o) (K := RX1) (T := TX1) (N := 2) uw1 tyX1 tyX1_ok nmX1 1 rfl rfl 0 (by decide) wt_28 rfl (Or.inl rfl) (ty := .int) rfl rfl rfl (Nat.le_of_ble_eq_true rfl) rfl hdg kk
theorem gf_X4_74 (hc : CX p l e R s m args below meth c D cs sa A cc nL RX4 ret) (hdg : decode cc pc = .ok (.getfield 74, 3)) (kk : J p l e R s m args below meth c D A nL cells slots Q (WD ad cs n E S o) (pc + 3) lv (.int (E.1 12) :: st)) : J p l e R s m args below meth c D A nL cells slots Q (WD ad cs n E S o) pc lv (.ref (ad 1) :: st) := j_getf hc (K := RX1) (T := TX1) (N := 2) uw1 1 rfl rfl 0 (by decide) wt_29 rfl rfl hdg kk
theorem pf_X4_74 (hc : CX p l e R s m args below meth c D cs sa A cc nL RX4 ret) {v : Int32} (hdg : decode cc pc = .ok (.putfield 74, 3)) (kk : J p l e R s m args below meth c D A nL cells slots Q (WD ad cs n (eG E 12 v) S o) (pc + 3) lv st) : J p l e R s m args below meth c D A nL cells slots Q (WD ad cs n E S o) pc lv (.int v :: .ref (ad 1) :: st) := j_putf hc (w' := WD ad cs n (eG E 12 v) S o) (K := RX1) (T := TX1) (N := 2) uw1 tyX1 tyX1_ok nmX1 1 rfl rfl 0 (by decide) wt_29 rfl (Or.inl rfl) (ty := .int) rfl rfl rfl (Nat.le_of_ble_eq_true rfl) rfl hdg kk
theorem gf_X1_13 (hc : CX p l e R s m args below meth c D cs sa A cc nL RX1 ret) (hdg : decode cc pc = .ok (.getfield 13, 3)) (kk : J p l e R s m args below meth c D A nL cells slots Q (WD ad cs n E S o) (pc + 3) lv (.ref (ad 2) :: st)) : J p l e R s m args below meth c D A nL cells slots Q (WD ad cs n E S o) pc lv (.ref (ad 1) :: st) := j_getf hc (K := RX1) (T := TX1) (N := 2) uw1 1 rfl rfl 1 (by decide) wt_30 rfl rfl hdg kk
theorem gf_X3_9 (hc : CX p l e R s m args below meth c D cs sa A cc nL RX3 ret) {i : Nat} (hi : i < 4) (hdg : decode cc pc = .ok (.getfield 9, 3)) (kk : J p l e R s m args below meth c D A nL cells slots Q (WD ad cs n E S o) (pc + 3) lv (.ref (ad (5 + 2 * i)) :: st)) : J p l e R s m args below meth c D A nL cells slots Q (WD ad cs n E S o) pc lv (.ref (ad (4 + 2 * i)) :: st) := j_getf hc (K := RX3) (T := TX3) (N := 2) uw3 (4 + 2 * i) (wd_gap hi) rfl 0 (by decide) wt_46 rfl rfl hdg kk
theorem gf_X3_15 (hc : CX p l e R s m args below meth c D cs sa A cc nL RX3 ret) {i : Nat} (hi : i < 4) (hdg : decode cc pc = .ok (.getfield 15, 3)) (kk : J p l e R s m args below meth c D A nL cells slots Q (WD ad cs n E S o) (pc + 3) lv (.int (E.1 (14 + i)) :: st)) : J p l e R s m args below meth c D A nL cells slots Q (WD ad cs n E S o) pc lv (.ref (ad (4 + 2 * i)) :: st) := j_getf hc (K := RX3) (T := TX3) (N := 2) uw3 (4 + 2 * i) (wd_gap hi) rfl 1 (by decide) wt_47 rfl rfl hdg kk
theorem pf_X3_15 (hc : CX p l e R s m args below meth c D cs sa A cc nL RX3 ret) {i : Nat} (hi : i < 4) {v : Int32} (hdg : decode cc pc = .ok (.putfield 15, 3)) (kk : J p l e R s m args below meth c D A nL cells slots Q (WD ad cs n (eG E (14 + i) v) S o) (pc + 3) lv st) : J p l e R s m args below meth c D A nL cells slots Q (WD ad cs n E S o) pc lv (.int v :: .ref (ad (4 + 2 * i)) :: st) := j_putf hc (w' := WD ad cs n (eG E (14 + i) v) S o) (K := RX3) (T := TX3) (N := 2) uw3 tyX3 tyX3_ok nmX3 (4 + 2 * i) (wd_gap hi) rfl 1 (by decide) wt_47 rfl (Or.inl rfl) (ty := .int) rfl rfl rfl (Nat.le_of_ble_eq_true rfl) (ws_gc hi) hdg kk
theorem gf_X4_101 (hc : CX p l e R s m args below meth c D cs sa A cc nL RX4 ret) {i : Nat} (hi : i < 4) (hdg : decode cc pc = .ok (.getfield 101, 3)) (kk : J p l e R s m args below meth c D A nL cells slots Q (WD ad cs n E S o) (pc + 3) lv (.int (E.1 (14 + i)) :: st)) : J p l e R s m args below meth c D A nL cells slots Q (WD ad cs n E S o) pc lv (.ref (ad (4 + 2 * i)) :: st) := j_getf hc (K := RX3) (T := TX3) (N := 2) uw3 (4 + 2 * i) (wd_gap hi) rfl 1 (by decide) wt_48 rfl rfl hdg kk
theorem pf_X4_101 (hc : CX p l e R s m args below meth c D cs sa A cc nL RX4 ret) {i : Nat} (hi : i < 4) {v : Int32} (hdg : decode cc pc = .ok (.putfield 101, 3)) (kk : J p l e R s m args below meth c D A nL cells slots Q (WD ad cs n (eG E (14 + i) v) S o) (pc + 3) lv st) : J p l e R s m args below meth c D A nL cells slots Q (WD ad cs n E S o) pc lv (.int v :: .ref (ad (4 + 2 * i)) :: st) := j_putf hc (w' := WD ad cs n (eG E (14 + i) v) S o) (K := RX3) (T := TX3) (N := 2) uw3 tyX3 tyX3_ok nmX3 (4 + 2 * i) (wd_gap hi) rfl 1 (by decide) wt_48 rfl (Or.inl rfl) (ty := .int) rfl rfl rfl (Nat.le_of_ble_eq_true rfl) (ws_gc hi) hdg kk
theorem gf_X2_9 (hc : CX p l e R s m args below meth c D cs sa A cc nL RX2 ret) (hdg : decode cc pc = .ok (.getfield 9, 3)) (kk : J p l e R s m args below meth c D A nL cells slots Q (WD ad cs n E S o) (pc + 3) lv (.ref (ad 14) :: st)) : J p l e R s m args below meth c D A nL cells slots Q (WD ad cs n E S o) pc lv (.ref (ad 13) :: st) := j_getf hc (K := RX2) (T := TX2) (N := 2) uw2 13 rfl rfl 0 (by decide) wt_69 rfl rfl hdg kk
theorem gf_X2_15 (hc : CX p l e R s m args below meth c D cs sa A cc nL RX2 ret) (hdg : decode cc pc = .ok (.getfield 15, 3)) (kk : J p l e R s m args below meth c D A nL cells slots Q (WD ad cs n E S o) (pc + 3) lv (.int (E.1 13) :: st)) : J p l e R s m args below meth c D A nL cells slots Q (WD ad cs n E S o) pc lv (.ref (ad 13) :: st) := j_getf hc (K := RX2) (T := TX2) (N := 2) uw2 13 rfl rfl 1 (by decide) wt_70 rfl rfl hdg kk
theorem pf_X2_15 (hc : CX p l e R s m args below meth c D cs sa A cc nL RX2 ret) {v : Int32} (hdg : decode cc pc = .ok (.putfield 15, 3)) (kk : J p l e R s m args below meth c D A nL cells slots Q (WD ad cs n (eG E 13 v) S o) (pc + 3) lv st) : J p l e R s m args below meth c D A nL cells slots Q (WD ad cs n E S o) pc lv (.int v :: .ref (ad 13) :: st) := j_putf hc (w' := WD ad cs n (eG E 13 v) S o) (K := RX2) (T := TX2) (N := 2) uw2 tyX2 tyX2_ok nmX2 13 rfl rfl 1 (by decide) wt_70 rfl (Or.inl rfl) (ty := .int) rfl rfl rfl (Nat.le_of_ble_eq_true rfl) rfl hdg kk
theorem gf_X4_206 (hc : CX p l e R s m args below meth c D cs sa A cc nL RX4 ret) (hdg : decode cc pc = .ok (.getfield 206, 3)) (kk : J p l e R s m args below meth c D A nL cells slots Q (WD ad cs n E S o) (pc + 3) lv (.int (E.1 13) :: st)) : J p l e R s m args below meth c D A nL cells slots Q (WD ad cs n E S o) pc lv (.ref (ad 13) :: st) := j_getf hc (K := RX2) (T := TX2) (N := 2) uw2 13 rfl rfl 1 (by decide) wt_71 rfl rfl hdg kk
theorem pf_X4_206 (hc : CX p l e R s m args below meth c D cs sa A cc nL RX4 ret) {v : Int32} (hdg : decode cc pc = .ok (.putfield 206, 3)) (kk : J p l e R s m args below meth c D A nL cells slots Q (WD ad cs n (eG E 13 v) S o) (pc + 3) lv st) : J p l e R s m args below meth c D A nL cells slots Q (WD ad cs n E S o) pc lv (.int v :: .ref (ad 13) :: st) := j_putf hc (w' := WD ad cs n (eG E 13 v) S o) (K := RX2) (T := TX2) (N := 2) uw2 tyX2 tyX2_ok nmX2 13 rfl rfl 1 (by decide) wt_71 rfl (Or.inl rfl) (ty := .int) rfl rfl rfl (Nat.le_of_ble_eq_true rfl) rfl hdg kk
theorem gf_X4_10 (hc : CX p l e R s m args below meth c D cs sa A cc nL RX4 ret) (hdg : decode cc pc = .ok (.getfield 10, 3)) (kk : J p l e R s m args below meth c D A nL cells slots Q (WD ad cs n E S o) (pc + 3) lv (.ref (ad 1) :: st)) : J p l e R s m args below meth c D A nL cells slots Q (WD ad cs n E S o) pc lv (.ref (ad 0) :: st) := j_getf hc (K := RX4) (T := TX4) (N := 12) uw4 0 rfl rfl 0 (by decide) wt_77 rfl rfl hdg kk
theorem gf_X4_34 (hc : CX p l e R s m args below meth c D cs sa A cc nL RX4 ret) (hdg : decode cc pc = .ok (.getfield 34, 3)) (kk : J p l e R s m args below meth c D A nL cells slots Q (WD ad cs n E S o) (pc + 3) lv (.ref (ad 3) :: st)) : J p l e R s m args below meth c D A nL cells slots Q (WD ad cs n E S o) pc lv (.ref (ad 0) :: st) := j_getf hc (K := RX4) (T := TX4) (N := 12) uw4 0 rfl rfl 1 (by decide) wt_78 rfl rfl hdg kk
theorem gf_X4_40 (hc : CX p l e R s m args below meth c D cs sa A cc nL RX4 ret) (hdg : decode cc pc = .ok (.getfield 40, 3)) (kk : J p l e R s m args below meth c D A nL cells slots Q (WD ad cs n E S o) (pc + 3) lv (.ref (ad 12) :: st)) : J p l e R s m args below meth c D A nL cells slots Q (WD ad cs n E S o) pc lv (.ref (ad 0) :: st) := j_getf hc (K := RX4) (T := TX4) (N := 12) uw4 0 rfl rfl 2 (by decide) wt_79 rfl rfl hdg kk
theorem gf_X4_47 (hc : CX p l e R s m args below meth c D cs sa A cc nL RX4 ret) (hdg : decode cc pc = .ok (.getfield 47, 3)) (kk : J p l e R s m args below meth c D A nL cells slots Q (WD ad cs n E S o) (pc + 3) lv (.ref (ad 13) :: st)) : J p l e R s m args below meth c D A nL cells slots Q (WD ad cs n E S o) pc lv (.ref (ad 0) :: st) := j_getf hc (K := RX4) (T := TX4) (N := 12) uw4 0 rfl rfl 3 (by decide) wt_80 rfl rfl hdg kk
theorem gf_X4_112 (hc : CX p l e R s m args below meth c D cs sa A cc nL RX4 ret) (hdg : decode cc pc = .ok (.getfield 112, 3)) (kk : J p l e R s m args below meth c D A nL cells slots Q (WD ad cs n E S o) (pc + 3) lv (.int (E.1 4) :: st)) : J p l e R s m args below meth c D A nL cells slots Q (WD ad cs n E S o) pc lv (.ref (ad 0) :: st) := j_getf hc (K := RX4) (T := TX4) (N := 12) uw4 0 rfl rfl 4 (by decide) wt_81 rfl rfl hdg kk
theorem pf_X4_112 (hc : CX p l e R s m args below meth c D cs sa A cc nL RX4 ret) {v : Int32} (hdg : decode cc pc = .ok (.putfield 112, 3)) (kk : J p l e R s m args below meth c D A nL cells slots Q (WD ad cs n (eG E 4 v) S o) (pc + 3) lv st) : J p l e R s m args below meth c D A nL cells slots Q (WD ad cs n E S o) pc lv (.int v :: .ref (ad 0) :: st) := j_putf hc (w' := WD ad cs n (eG E 4 v) S o) (K := RX4) (T := TX4) (N := 12) uw4 tyX4 tyX4_ok nmX4 0 rfl rfl 4 (by decide) wt_81 rfl (Or.inl rfl) (ty := .int) rfl rfl rfl (Nat.le_of_ble_eq_true rfl) rfl hdg kk
theorem gf_X4_83 (hc : CX p l e R s m args below meth c D cs sa A cc nL RX4 ret) (hdg : decode cc pc = .ok (.getfield 83, 3)) (kk : J p l e R s m args below meth c D A nL cells slots Q (WD ad cs n E S o) (pc + 3) lv (.int (E.1 5) :: st)) : J p l e R s m args below meth c D A nL cells slots Q (WD ad cs n E S o) pc lv (.ref (ad 0) :: st) := j_getf hc (K := RX4) (T := TX4) (N := 12) uw4 0 rfl rfl 5 (by decide) wt_82 rfl rfl hdg kk
theorem pf_X4_83 (hc : CX p l e R s m args below meth c D cs sa A cc nL RX4 ret) {v : Int32} (hdg : decode cc pc = .ok (.putfield 83, 3)) (kk : J p l e R s m args below meth c D A nL cells slots Q (WD ad cs n (eG E 5 v) S o) (pc + 3) lv st) : J p l e R s m args below meth c D A nL cells slots Q (WD ad cs n E S o) pc lv (.int v :: .ref (ad 0) :: st) := j_putf hc (w' := WD ad cs n (eG E 5 v) S o) (K := RX4) (T := TX4) (N := 12) uw4 tyX4 tyX4_ok nmX4 0 rfl rfl 5 (by decide) wt_82 rfl (Or.inl rfl) (ty := .int) rfl rfl rfl (Nat.le_of_ble_eq_true rfl) rfl hdg kk
theorem gf_X4_51 (hc : CX p l e R s m args below meth c D cs sa A cc nL RX4 ret) (hdg : decode cc pc = .ok (.getfield 51, 3)) (kk : J p l e R s m args below meth c D A nL cells slots Q (WD ad cs n E S o) (pc + 3) lv (.int (E.1 6) :: st)) : J p l e R s m args below meth c D A nL cells slots Q (WD ad cs n E S o) pc lv (.ref (ad 0) :: st) := j_getf hc (K := RX4) (T := TX4) (N := 12) uw4 0 rfl rfl 6 (by decide) wt_83 rfl rfl hdg kk
theorem pf_X4_51 (hc : CX p l e R s m args below meth c D cs sa A cc nL RX4 ret) {v : Int32} (hdg : decode cc pc = .ok (.putfield 51, 3)) (kk : J p l e R s m args below meth c D A nL cells slots Q (WD ad cs n (eG E 6 v) S o) (pc + 3) lv st) : J p l e R s m args below meth c D A nL cells slots Q (WD ad cs n E S o) pc lv (.int v :: .ref (ad 0) :: st) := j_putf hc (w' := WD ad cs n (eG E 6 v) S o) (K := RX4) (T := TX4) (N := 12) uw4 tyX4 tyX4_ok nmX4 0 rfl rfl 6 (by decide) wt_83 rfl (Or.inl rfl) (ty := .int) rfl rfl rfl (Nat.le_of_ble_eq_true rfl) rfl hdg kk
theorem gf_X4_55 (hc : CX p l e R s m args below meth c D cs sa A cc nL RX4 ret) (hdg : decode cc pc = .ok (.getfield 55, 3)) (kk : J p l e R s m args below meth c D A nL cells slots Q (WD ad cs n E S o) (pc + 3) lv (.int (E.1 7) :: st)) : J p l e R s m args below meth c D A nL cells slots Q (WD ad cs n E S o) pc lv (.ref (ad 0) :: st) := j_getf hc (K := RX4) (T := TX4) (N := 12) uw4 0 rfl rfl 7 (by decide) wt_84 rfl rfl hdg kk
theorem pf_X4_55 (hc : CX p l e R s m args below meth c D cs sa A cc nL RX4 ret) {v : Int32} (hdg : decode cc pc = .ok (.putfield 55, 3)) (kk : J p l e R s m args below meth c D A nL cells slots Q (WD ad cs n (eG E 7 v) S o) (pc + 3) lv st) : J p l e R s m args below meth c D A nL cells slots Q (WD ad cs n E S o) pc lv (.int v :: .ref (ad 0) :: st) := j_putf hc (w' := WD ad cs n (eG E 7 v) S o) (K := RX4) (T := TX4) (N := 12) uw4 tyX4 tyX4_ok nmX4 0 rfl rfl 7 (by decide) wt_84 rfl (Or.inl rfl) (ty := .int) rfl rfl rfl (Nat.le_of_ble_eq_true rfl) rfl hdg kk
theorem gf_X4_119 (hc : CX p l e R s m args below meth c D cs sa A cc nL RX4 ret) (hdg : decode cc pc = .ok (.getfield 119, 3)) (kk : J p l e R s m args below meth c D A nL cells slots Q (WD ad cs n E S o) (pc + 3) lv (.int (E.1 8) :: st)) : J p l e R s m args below meth c D A nL cells slots Q (WD ad cs n E S o) pc lv (.ref (ad 0) :: st) := j_getf hc (K := RX4) (T := TX4) (N := 12) uw4 0 rfl rfl 8 (by decide) wt_85 rfl rfl hdg kk
theorem pf_X4_119 (hc : CX p l e R s m args below meth c D cs sa A cc nL RX4 ret) {v : Int32} (hdg : decode cc pc = .ok (.putfield 119, 3)) (kk : J p l e R s m args below meth c D A nL cells slots Q (WD ad cs n (eG E 8 v) S o) (pc + 3) lv st) : J p l e R s m args below meth c D A nL cells slots Q (WD ad cs n E S o) pc lv (.int v :: .ref (ad 0) :: st) := j_putf hc (w' := WD ad cs n (eG E 8 v) S o) (K := RX4) (T := TX4) (N := 12) uw4 tyX4 tyX4_ok nmX4 0 rfl rfl 8 (by decide) wt_85 rfl (Or.inl rfl) (ty := .int) rfl rfl rfl (Nat.le_of_ble_eq_true rfl) rfl hdg kk
theorem gf_X4_197 (hc : CX p l e R s m args below meth c D cs sa A cc nL RX4 ret) (hdg : decode cc pc = .ok (.getfield 197, 3)) (kk : J p l e R s m args below meth c D A nL cells slots Q (WD ad cs n E S o) (pc + 3) lv (.int (E.1 9) :: st)) : J p l e R s m args below meth c D A nL cells slots Q (WD ad cs n E S o) pc lv (.ref (ad 0) :: st) := j_getf hc (K := RX4) (T := TX4) (N := 12) uw4 0 rfl rfl 9 (by decide) wt_86 rfl rfl hdg kk
theorem pf_X4_197 (hc : CX p l e R s m args below meth c D cs sa A cc nL RX4 ret) {v : Int32} (hdg : decode cc pc = .ok (.putfield 197, 3)) (kk : J p l e R s m args below meth c D A nL cells slots Q (WD ad cs n (eG E 9 v) S o) (pc + 3) lv st) : J p l e R s m args below meth c D A nL cells slots Q (WD ad cs n E S o) pc lv (.int v :: .ref (ad 0) :: st) := j_putf hc (w' := WD ad cs n (eG E 9 v) S o) (K := RX4) (T := TX4) (N := 12) uw4 tyX4 tyX4_ok nmX4 0 rfl rfl 9 (by decide) wt_86 rfl (Or.inl rfl) (ty := .int) rfl rfl rfl (Nat.le_of_ble_eq_true rfl) rfl hdg kk
theorem gf_X4_200 (hc : CX p l e R s m args below meth c D cs sa A cc nL RX4 ret) (hdg : decode cc pc = .ok (.getfield 200, 3)) (kk : J p l e R s m args below meth c D A nL cells slots Q (WD ad cs n E S o) (pc + 3) lv (.int (E.1 10) :: st)) : J p l e R s m args below meth c D A nL cells slots Q (WD ad cs n E S o) pc lv (.ref (ad 0) :: st) := j_getf hc (K := RX4) (T := TX4) (N := 12) uw4 0 rfl rfl 10 (by decide) wt_87 rfl rfl hdg kk
theorem pf_X4_200 (hc : CX p l e R s m args below meth c D cs sa A cc nL RX4 ret) {v : Int32} (hdg : decode cc pc = .ok (.putfield 200, 3)) (kk : J p l e R s m args below meth c D A nL cells slots Q (WD ad cs n (eG E 10 v) S o) (pc + 3) lv st) : J p l e R s m args below meth c D A nL cells slots Q (WD ad cs n E S o) pc lv (.int v :: .ref (ad 0) :: st) := j_putf hc (w' := WD ad cs n (eG E 10 v) S o) (K := RX4) (T := TX4) (N := 12) uw4 tyX4 tyX4_ok nmX4 0 rfl rfl 10 (by decide) wt_87 rfl (Or.inl rfl) (ty := .int) rfl rfl rfl (Nat.le_of_ble_eq_true rfl) rfl hdg kk
theorem gf_X4_203 (hc : CX p l e R s m args below meth c D cs sa A cc nL RX4 ret) (hdg : decode cc pc = .ok (.getfield 203, 3)) (kk : J p l e R s m args below meth c D A nL cells slots Q (WD ad cs n E S o) (pc + 3) lv (.int (E.1 11) :: st)) : J p l e R s m args below meth c D A nL cells slots Q (WD ad cs n E S o) pc lv (.ref (ad 0) :: st) := j_getf hc (K := RX4) (T := TX4) (N := 12) uw4 0 rfl rfl 11 (by decide) wt_88 rfl rfl hdg kk
theorem pf_X4_203 (hc : CX p l e R s m args below meth c D cs sa A cc nL RX4 ret) {v : Int32} (hdg : decode cc pc = .ok (.putfield 203, 3)) (kk : J p l e R s m args below meth c D A nL cells slots Q (WD ad cs n (eG E 11 v) S o) (pc + 3) lv st) : J p l e R s m args below meth c D A nL cells slots Q (WD ad cs n E S o) pc lv (.int v :: .ref (ad 0) :: st) := j_putf hc (w' := WD ad cs n (eG E 11 v) S o) (K := RX4) (T := TX4) (N := 12) uw4 tyX4 tyX4_ok nmX4 0 rfl rfl 11 (by decide) wt_88 rfl (Or.inl rfl) (ty := .int) rfl rfl rfl (Nat.le_of_ble_eq_true rfl) rfl hdg kk
theorem gf_X4_231 (hc : CX p l e R s m args below meth c D cs sa A cc nL RX4 ret) {b : Nat} (hb : b < n) (hdg : decode cc pc = .ok (.getfield 231, 3)) (kk : J p l e R s m args below meth c D A nL cells slots Q (WD ad cs n E S o) (pc + 3) lv (.int (E.2.1 0 b) :: st)) : J p l e R s m args below meth c D A nL cells slots Q (WD ad cs n E S o) pc lv (.ref (ad (24 + 2 * b)) :: st) := j_getf hc (K := RX0) (T := TX0) (N := 11) uw0 (24 + 2 * b) (wd_bill hb) rfl 0 (by decide) wt_254 rfl rfl hdg kk
theorem gf_X4_184 (hc : CX p l e R s m args below meth c D cs sa A cc nL RX4 ret) {b : Nat} (hb : b < n) (hdg : decode cc pc = .ok (.getfield 184, 3)) (kk : J p l e R s m args below meth c D A nL cells slots Q (WD ad cs n E S o) (pc + 3) lv (.int (E.2.1 1 b) :: st)) : J p l e R s m args below meth c D A nL cells slots Q (WD ad cs n E S o) pc lv (.ref (ad (24 + 2 * b)) :: st) := j_getf hc (K := RX0) (T := TX0) (N := 11) uw0 (24 + 2 * b) (wd_bill hb) rfl 1 (by decide) wt_256 rfl rfl hdg kk
theorem gf_X4_178 (hc : CX p l e R s m args below meth c D cs sa A cc nL RX4 ret) {b : Nat} (hb : b < n) (hdg : decode cc pc = .ok (.getfield 178, 3)) (kk : J p l e R s m args below meth c D A nL cells slots Q (WD ad cs n E S o) (pc + 3) lv (.ref (ad (25 + 2 * b)) :: st)) : J p l e R s m args below meth c D A nL cells slots Q (WD ad cs n E S o) pc lv (.ref (ad (24 + 2 * b)) :: st) := j_getf hc (K := RX0) (T := TX0) (N := 11) uw0 (24 + 2 * b) (wd_bill hb) rfl 2 (by decide) wt_258 rfl rfl hdg kk
theorem gf_X4_138 (hc : CX p l e R s m args below meth c D cs sa A cc nL RX4 ret) {b : Nat} (hb : b < n) (hdg : decode cc pc = .ok (.getfield 138, 3)) (kk : J p l e R s m args below meth c D A nL cells slots Q (WD ad cs n E S o) (pc + 3) lv (.int (E.2.1 3 b) :: st)) : J p l e R s m args below meth c D A nL cells slots Q (WD ad cs n E S o) pc lv (.ref (ad (24 + 2 * b)) :: st) := j_getf hc (K := RX0) (T := TX0) (N := 11) uw0 (24 + 2 * b) (wd_bill hb) rfl 3 (by decide) wt_260 rfl rfl hdg kk
theorem pf_X4_138 (hc : CX p l e R s m args below meth c D cs sa A cc nL RX4 ret) {b : Nat} (hb : b < n) {v : Int32} (hdg : decode cc pc = .ok (.putfield 138, 3)) (kk : J p l e R s m args below meth c D A nL cells slots Q (WD ad cs n (eV E 3 b v) S o) (pc + 3) lv st) : J p l e R s m args below meth c D A nL cells slots Q (WD ad cs n E S o) pc lv (.int v :: .ref (ad (24 + 2 * b)) :: st) := j_putf hc (w' := WD ad cs n (eV E 3 b v) S o) (K := RX0) (T := TX0) (N := 11) uw0 tyX0 tyX0_ok nmX0 (24 + 2 * b) (wd_bill hb) rfl 3 (by decide) wt_260 rfl (Or.inl rfl) (ty := .int) rfl rfl rfl (Nat.le_of_ble_eq_true rfl) (ws_b3 hb) hdg kk
theorem gf_X4_133 (hc : CX p l e R s m args below meth c D cs sa A cc nL RX4 ret) {b : Nat} (hb : b < n) (hdg : decode cc pc = .ok (.getfield 133, 3)) (kk : J p l e R s m args below meth c D A nL cells slots Q (WD ad cs n E S o) (pc + 3) lv (.int (E.2.1 4 b) :: st)) : J p l e R s m args below meth c D A nL cells slots Q (WD ad cs n E S o) pc lv (.ref (ad (24 + 2 * b)) :: st) := j_getf hc (K := RX0) (T := TX0) (N := 11) uw0 (24 + 2 * b) (wd_bill hb) rfl 4 (by decide) wt_261 rfl rfl hdg kk
theorem pf_X4_133 (hc : CX p l e R s m args below meth c D cs sa A cc nL RX4 ret) {b : Nat} (hb : b < n) {v : Int32} (hdg : decode cc pc = .ok (.putfield 133, 3)) (kk : J p l e R s m args below meth c D A nL cells slots Q (WD ad cs n (eV E 4 b v) S o) (pc + 3) lv st) : J p l e R s m args below meth c D A nL cells slots Q (WD ad cs n E S o) pc lv (.int v :: .ref (ad (24 + 2 * b)) :: st) := j_putf hc (w' := WD ad cs n (eV E 4 b v) S o) (K := RX0) (T := TX0) (N := 11) uw0 tyX0 tyX0_ok nmX0 (24 + 2 * b) (wd_bill hb) rfl 4 (by decide) wt_261 rfl (Or.inl rfl) (ty := .int) rfl rfl rfl (Nat.le_of_ble_eq_true rfl) (ws_b4 hb) hdg kk
theorem gf_X4_158 (hc : CX p l e R s m args below meth c D cs sa A cc nL RX4 ret) {b : Nat} (hb : b < n) (hdg : decode cc pc = .ok (.getfield 158, 3)) (kk : J p l e R s m args below meth c D A nL cells slots Q (WD ad cs n E S o) (pc + 3) lv (.int (E.2.1 5 b) :: st)) : J p l e R s m args below meth c D A nL cells slots Q (WD ad cs n E S o) pc lv (.ref (ad (24 + 2 * b)) :: st) := j_getf hc (K := RX0) (T := TX0) (N := 11) uw0 (24 + 2 * b) (wd_bill hb) rfl 5 (by decide) wt_262 rfl rfl hdg kk
theorem pf_X4_158 (hc : CX p l e R s m args below meth c D cs sa A cc nL RX4 ret) {b : Nat} (hb : b < n) {v : Int32} (hdg : decode cc pc = .ok (.putfield 158, 3)) (kk : J p l e R s m args below meth c D A nL cells slots Q (WD ad cs n (eV E 5 b v) S o) (pc + 3) lv st) : J p l e R s m args below meth c D A nL cells slots Q (WD ad cs n E S o) pc lv (.int v :: .ref (ad (24 + 2 * b)) :: st) := j_putf hc (w' := WD ad cs n (eV E 5 b v) S o) (K := RX0) (T := TX0) (N := 11) uw0 tyX0 tyX0_ok nmX0 (24 + 2 * b) (wd_bill hb) rfl 5 (by decide) wt_262 rfl (Or.inl rfl) (ty := .int) rfl rfl rfl (Nat.le_of_ble_eq_true rfl) (ws_b5 hb) hdg kk
theorem gf_X4_175 (hc : CX p l e R s m args below meth c D cs sa A cc nL RX4 ret) {b : Nat} (hb : b < n) (hdg : decode cc pc = .ok (.getfield 175, 3)) (kk : J p l e R s m args below meth c D A nL cells slots Q (WD ad cs n E S o) (pc + 3) lv (.int (E.2.1 6 b) :: st)) : J p l e R s m args below meth c D A nL cells slots Q (WD ad cs n E S o) pc lv (.ref (ad (24 + 2 * b)) :: st) := j_getf hc (K := RX0) (T := TX0) (N := 11) uw0 (24 + 2 * b) (wd_bill hb) rfl 6 (by decide) wt_263 rfl rfl hdg kk
theorem pf_X4_175 (hc : CX p l e R s m args below meth c D cs sa A cc nL RX4 ret) {b : Nat} (hb : b < n) {v : Int32} (hdg : decode cc pc = .ok (.putfield 175, 3)) (kk : J p l e R s m args below meth c D A nL cells slots Q (WD ad cs n (eV E 6 b v) S o) (pc + 3) lv st) : J p l e R s m args below meth c D A nL cells slots Q (WD ad cs n E S o) pc lv (.int v :: .ref (ad (24 + 2 * b)) :: st) := j_putf hc (w' := WD ad cs n (eV E 6 b v) S o) (K := RX0) (T := TX0) (N := 11) uw0 tyX0 tyX0_ok nmX0 (24 + 2 * b) (wd_bill hb) rfl 6 (by decide) wt_263 rfl (Or.inl rfl) (ty := .int) rfl rfl rfl (Nat.le_of_ble_eq_true rfl) (ws_b6 hb) hdg kk
theorem gf_X4_150 (hc : CX p l e R s m args below meth c D cs sa A cc nL RX4 ret) {b : Nat} (hb : b < n) (hdg : decode cc pc = .ok (.getfield 150, 3)) (kk : J p l e R s m args below meth c D A nL cells slots Q (WD ad cs n E S o) (pc + 3) lv (.int (E.2.1 7 b) :: st)) : J p l e R s m args below meth c D A nL cells slots Q (WD ad cs n E S o) pc lv (.ref (ad (24 + 2 * b)) :: st) := j_getf hc (K := RX0) (T := TX0) (N := 11) uw0 (24 + 2 * b) (wd_bill hb) rfl 7 (by decide) wt_264 rfl rfl hdg kk
theorem pf_X4_150 (hc : CX p l e R s m args below meth c D cs sa A cc nL RX4 ret) {b : Nat} (hb : b < n) {v : Int32} (hdg : decode cc pc = .ok (.putfield 150, 3)) (kk : J p l e R s m args below meth c D A nL cells slots Q (WD ad cs n (eV E 7 b v) S o) (pc + 3) lv st) : J p l e R s m args below meth c D A nL cells slots Q (WD ad cs n E S o) pc lv (.int v :: .ref (ad (24 + 2 * b)) :: st) := j_putf hc (w' := WD ad cs n (eV E 7 b v) S o) (K := RX0) (T := TX0) (N := 11) uw0 tyX0 tyX0_ok nmX0 (24 + 2 * b) (wd_bill hb) rfl 7 (by decide) wt_264 rfl (Or.inl rfl) (ty := .int) rfl rfl rfl (Nat.le_of_ble_eq_true rfl) (ws_b7 hb) hdg kk
theorem gf_X4_181 (hc : CX p l e R s m args below meth c D cs sa A cc nL RX4 ret) {b : Nat} (hb : b < n) (hdg : decode cc pc = .ok (.getfield 181, 3)) (kk : J p l e R s m args below meth c D A nL cells slots Q (WD ad cs n E S o) (pc + 3) lv (.int (E.2.1 8 b) :: st)) : J p l e R s m args below meth c D A nL cells slots Q (WD ad cs n E S o) pc lv (.ref (ad (24 + 2 * b)) :: st) := j_getf hc (K := RX0) (T := TX0) (N := 11) uw0 (24 + 2 * b) (wd_bill hb) rfl 8 (by decide) wt_265 rfl rfl hdg kk
theorem pf_X4_181 (hc : CX p l e R s m args below meth c D cs sa A cc nL RX4 ret) {b : Nat} (hb : b < n) {v : Int32} (hdg : decode cc pc = .ok (.putfield 181, 3)) (kk : J p l e R s m args below meth c D A nL cells slots Q (WD ad cs n (eV E 8 b v) S o) (pc + 3) lv st) : J p l e R s m args below meth c D A nL cells slots Q (WD ad cs n E S o) pc lv (.int v :: .ref (ad (24 + 2 * b)) :: st) := j_putf hc (w' := WD ad cs n (eV E 8 b v) S o) (K := RX0) (T := TX0) (N := 11) uw0 tyX0 tyX0_ok nmX0 (24 + 2 * b) (wd_bill hb) rfl 8 (by decide) wt_265 rfl (Or.inl rfl) (ty := .int) rfl rfl rfl (Nat.le_of_ble_eq_true rfl) (ws_b8 hb) hdg kk
theorem gf_X4_155 (hc : CX p l e R s m args below meth c D cs sa A cc nL RX4 ret) {b : Nat} (hb : b < n) (hdg : decode cc pc = .ok (.getfield 155, 3)) (kk : J p l e R s m args below meth c D A nL cells slots Q (WD ad cs n E S o) (pc + 3) lv (.int (E.2.1 9 b) :: st)) : J p l e R s m args below meth c D A nL cells slots Q (WD ad cs n E S o) pc lv (.ref (ad (24 + 2 * b)) :: st) := j_getf hc (K := RX0) (T := TX0) (N := 11) uw0 (24 + 2 * b) (wd_bill hb) rfl 9 (by decide) wt_266 rfl rfl hdg kk
theorem pf_X4_155 (hc : CX p l e R s m args below meth c D cs sa A cc nL RX4 ret) {b : Nat} (hb : b < n) {v : Int32} (hdg : decode cc pc = .ok (.putfield 155, 3)) (kk : J p l e R s m args below meth c D A nL cells slots Q (WD ad cs n (eV E 9 b v) S o) (pc + 3) lv st) : J p l e R s m args below meth c D A nL cells slots Q (WD ad cs n E S o) pc lv (.int v :: .ref (ad (24 + 2 * b)) :: st) := j_putf hc (w' := WD ad cs n (eV E 9 b v) S o) (K := RX0) (T := TX0) (N := 11) uw0 tyX0 tyX0_ok nmX0 (24 + 2 * b) (wd_bill hb) rfl 9 (by decide) wt_266 rfl (Or.inl rfl) (ty := .int) rfl rfl rfl (Nat.le_of_ble_eq_true rfl) (ws_b9 hb) hdg kk
theorem gf_X4_161 (hc : CX p l e R s m args below meth c D cs sa A cc nL RX4 ret) {b : Nat} (hb : b < n) (hdg : decode cc pc = .ok (.getfield 161, 3)) (kk : J p l e R s m args below meth c D A nL cells slots Q (WD ad cs n E S o) (pc + 3) lv (.int (E.2.1 10 b) :: st)) : J p l e R s m args below meth c D A nL cells slots Q (WD ad cs n E S o) pc lv (.ref (ad (24 + 2 * b)) :: st) := j_getf hc (K := RX0) (T := TX0) (N := 11) uw0 (24 + 2 * b) (wd_bill hb) rfl 10 (by decide) wt_267 rfl rfl hdg kk
theorem pf_X4_161 (hc : CX p l e R s m args below meth c D cs sa A cc nL RX4 ret) {b : Nat} (hb : b < n) {v : Int32} (hdg : decode cc pc = .ok (.putfield 161, 3)) (kk : J p l e R s m args below meth c D A nL cells slots Q (WD ad cs n (eV E 10 b v) S o) (pc + 3) lv st) : J p l e R s m args below meth c D A nL cells slots Q (WD ad cs n E S o) pc lv (.int v :: .ref (ad (24 + 2 * b)) :: st) := j_putf hc (w' := WD ad cs n (eV E 10 b v) S o) (K := RX0) (T := TX0) (N := 11) uw0 tyX0 tyX0_ok nmX0 (24 + 2 * b) (wd_bill hb) rfl 10 (by decide) wt_267 rfl (Or.inl rfl) (ty := .int) rfl rfl rfl (Nat.le_of_ble_eq_true rfl) (ws_b10 hb) hdg kk
variable {own : String}
theorem al_hol (hc : CX p l e R s m args below meth c D cs sa A cc nL own ret)  {k : Int32} (hin : vp_in k 485) (hdg : decode cc pc = .ok (.laload, 1)) (kk : J p l e R s m args below meth c D A nL cells slots Q (WD ad cs n E S o) (pc + 1) lv (.long (E.2.2 k.toNatClampNeg) :: st)) : J p l e R s m args below meth c D A nL cells slots Q (WD ad cs n E S o) pc lv (.int k :: .ref (ad 2) :: st) := j_laload hc 2 rfl hin hdg kk
theorem as_hol (hc : CX p l e R s m args below meth c D cs sa A cc nL own ret)  {k : Int32} {x : Int64} (hin : vp_in k 485) (hdg : decode cc pc = .ok (.lastore, 1)) (kk : J p l e R s m args below meth c D A nL cells slots Q (WD ad cs n (eH E k.toNatClampNeg x) S o) (pc + 1) lv st) : J p l e R s m args below meth c D A nL cells slots Q (WD ad cs n E S o) pc lv (.long x :: .int k :: .ref (ad 2) :: st) := j_lastore hc 2 rfl hin rfl hdg kk
theorem al_gap (hc : CX p l e R s m args below meth c D cs sa A cc nL own ret) {i : Nat} (hi : i < 4) {k : Int32} (hin : vp_in k 6) (hdg : decode cc pc = .ok (.iaload, 1)) (kk : J p l e R s m args below meth c D A nL cells slots Q (WD ad cs n E S o) (pc + 1) lv (.int (E.2.1 (20 + i) k.toNatClampNeg) :: st)) : J p l e R s m args below meth c D A nL cells slots Q (WD ad cs n E S o) pc lv (.int k :: .ref (ad (5 + 2 * i)) :: st) := j_iaload hc (5 + 2 * i) (wd_gapd hi) hin hdg kk
theorem as_gap (hc : CX p l e R s m args below meth c D cs sa A cc nL own ret) {i : Nat} (hi : i < 4) {k : Int32} {x : Int32} (hin : vp_in k 6) (hdg : decode cc pc = .ok (.iastore, 1)) (kk : J p l e R s m args below meth c D A nL cells slots Q (WD ad cs n (eV E (20 + i) k.toNatClampNeg x) S o) (pc + 1) lv st) : J p l e R s m args below meth c D A nL cells slots Q (WD ad cs n E S o) pc lv (.int x :: .int k :: .ref (ad (5 + 2 * i)) :: st) := j_iastore hc (5 + 2 * i) (wd_gapd hi) hin (ws_gd hi) hdg kk
theorem al_codes (hc : CX p l e R s m args below meth c D cs sa A cc nL own ret)  {k : Int32} (hin : vp_in k 400) (hdg : decode cc pc = .ok (.iaload, 1)) (kk : J p l e R s m args below meth c D A nL cells slots Q (WD ad cs n E S o) (pc + 1) lv (.int (E.2.1 30 k.toNatClampNeg) :: st)) : J p l e R s m args below meth c D A nL cells slots Q (WD ad cs n E S o) pc lv (.int k :: .ref (ad 14) :: st) := j_iaload hc 14 rfl hin hdg kk
theorem as_codes (hc : CX p l e R s m args below meth c D cs sa A cc nL own ret)  {k : Int32} {x : Int32} (hin : vp_in k 400) (hdg : decode cc pc = .ok (.iastore, 1)) (kk : J p l e R s m args below meth c D A nL cells slots Q (WD ad cs n (eV E 30 k.toNatClampNeg x) S o) (pc + 1) lv st) : J p l e R s m args below meth c D A nL cells slots Q (WD ad cs n E S o) pc lv (.int x :: .int k :: .ref (ad 14) :: st) := j_iastore hc 14 rfl hin ws_cd hdg kk
theorem al_fails (hc : CX p l e R s m args below meth c D cs sa A cc nL own ret) {b : Nat} (hb : b < n) {k : Int32} (hin : vp_in k 4) (hdg : decode cc pc = .ok (.iaload, 1)) (kk : J p l e R s m args below meth c D A nL cells slots Q (WD ad cs n E S o) (pc + 1) lv (.int (E.2.1 (40 + b) k.toNatClampNeg) :: st)) : J p l e R s m args below meth c D A nL cells slots Q (WD ad cs n E S o) pc lv (.int k :: .ref (ad (25 + 2 * b)) :: st) := j_iaload hc (25 + 2 * b) (wd_fail hb) hin hdg kk
theorem as_fails (hc : CX p l e R s m args below meth c D cs sa A cc nL own ret) {b : Nat} (hb : b < n) {k : Int32} {x : Int32} (hin : vp_in k 4) (hdg : decode cc pc = .ok (.iastore, 1)) (kk : J p l e R s m args below meth c D A nL cells slots Q (WD ad cs n (eV E (40 + b) k.toNatClampNeg x) S o) (pc + 1) lv st) : J p l e R s m args below meth c D A nL cells slots Q (WD ad cs n E S o) pc lv (.int x :: .int k :: .ref (ad (25 + 2 * b)) :: st) := j_iastore hc (25 + 2 * b) (wd_fail hb) hin (ws_f hb) hdg kk
theorem al_ln (hc : CX p l e R s m args below meth c D cs sa A cc nL own ret)  {k : Int32} (hin : vp_in k 9) (hdg : decode cc pc = .ok (.iaload, 1)) (kk : J p l e R s m args below meth c D A nL cells slots Q (WD ad cs n E S o) (pc + 1) lv (.int (S 0 k.toNatClampNeg) :: st)) : J p l e R s m args below meth c D A nL cells slots Q (WD ad cs n E S o) pc lv (.int k :: .ref (ad 15) :: st) := j_iaload hc 15 rfl hin hdg kk
theorem as_ln (hc : CX p l e R s m args below meth c D cs sa A cc nL own ret)  {k : Int32} {x : Int32} (hin : vp_in k 9) (hdg : decode cc pc = .ok (.iastore, 1)) (kk : J p l e R s m args below meth c D A nL cells slots Q (WD ad cs n E (mA S 0 k.toNatClampNeg x) o) (pc + 1) lv st) : J p l e R s m args below meth c D A nL cells slots Q (WD ad cs n E S o) pc lv (.int x :: .int k :: .ref (ad 15) :: st) := j_iastore hc 15 rfl hin rfl hdg kk
theorem al_lw (hc : CX p l e R s m args below meth c D cs sa A cc nL own ret)  {k : Int32} (hin : vp_in k 64) (hdg : decode cc pc = .ok (.iaload, 1)) (kk : J p l e R s m args below meth c D A nL cells slots Q (WD ad cs n E S o) (pc + 1) lv (.int (S 1 k.toNatClampNeg) :: st)) : J p l e R s m args below meth c D A nL cells slots Q (WD ad cs n E S o) pc lv (.int k :: .ref (ad 16) :: st) := j_iaload hc 16 rfl hin hdg kk
theorem as_lw (hc : CX p l e R s m args below meth c D cs sa A cc nL own ret)  {k : Int32} {x : Int32} (hin : vp_in k 64) (hdg : decode cc pc = .ok (.iastore, 1)) (kk : J p l e R s m args below meth c D A nL cells slots Q (WD ad cs n E (mA S 1 k.toNatClampNeg x) o) (pc + 1) lv st) : J p l e R s m args below meth c D A nL cells slots Q (WD ad cs n E S o) pc lv (.int x :: .int k :: .ref (ad 16) :: st) := j_iastore hc 16 rfl hin rfl hdg kk
theorem al_lg (hc : CX p l e R s m args below meth c D cs sa A cc nL own ret)  {k : Int32} (hin : vp_in k 30) (hdg : decode cc pc = .ok (.iaload, 1)) (kk : J p l e R s m args below meth c D A nL cells slots Q (WD ad cs n E S o) (pc + 1) lv (.int (S 2 k.toNatClampNeg) :: st)) : J p l e R s m args below meth c D A nL cells slots Q (WD ad cs n E S o) pc lv (.int k :: .ref (ad 17) :: st) := j_iaload hc 17 rfl hin hdg kk
theorem as_lg (hc : CX p l e R s m args below meth c D cs sa A cc nL own ret)  {k : Int32} {x : Int32} (hin : vp_in k 30) (hdg : decode cc pc = .ok (.iastore, 1)) (kk : J p l e R s m args below meth c D A nL cells slots Q (WD ad cs n E (mA S 2 k.toNatClampNeg x) o) (pc + 1) lv st) : J p l e R s m args below meth c D A nL cells slots Q (WD ad cs n E S o) pc lv (.int x :: .int k :: .ref (ad 17) :: st) := j_iastore hc 17 rfl hin rfl hdg kk
theorem al_lq (hc : CX p l e R s m args below meth c D cs sa A cc nL own ret)  {k : Int32} (hin : vp_in k 5) (hdg : decode cc pc = .ok (.iaload, 1)) (kk : J p l e R s m args below meth c D A nL cells slots Q (WD ad cs n E S o) (pc + 1) lv (.int (S 3 k.toNatClampNeg) :: st)) : J p l e R s m args below meth c D A nL cells slots Q (WD ad cs n E S o) pc lv (.int k :: .ref (ad 18) :: st) := j_iaload hc 18 rfl hin hdg kk
theorem as_lq (hc : CX p l e R s m args below meth c D cs sa A cc nL own ret)  {k : Int32} {x : Int32} (hin : vp_in k 5) (hdg : decode cc pc = .ok (.iastore, 1)) (kk : J p l e R s m args below meth c D A nL cells slots Q (WD ad cs n E (mA S 3 k.toNatClampNeg x) o) (pc + 1) lv st) : J p l e R s m args below meth c D A nL cells slots Q (WD ad cs n E S o) pc lv (.int x :: .int k :: .ref (ad 18) :: st) := j_iastore hc 18 rfl hin rfl hdg kk
theorem al_lb (hc : CX p l e R s m args below meth c D cs sa A cc nL own ret)  {k : Int32} (hin : vp_in k 36) (hdg : decode cc pc = .ok (.iaload, 1)) (kk : J p l e R s m args below meth c D A nL cells slots Q (WD ad cs n E S o) (pc + 1) lv (.int (S 4 k.toNatClampNeg) :: st)) : J p l e R s m args below meth c D A nL cells slots Q (WD ad cs n E S o) pc lv (.int k :: .ref (ad 19) :: st) := j_iaload hc 19 rfl hin hdg kk
theorem as_lb (hc : CX p l e R s m args below meth c D cs sa A cc nL own ret)  {k : Int32} {x : Int32} (hin : vp_in k 36) (hdg : decode cc pc = .ok (.iastore, 1)) (kk : J p l e R s m args below meth c D A nL cells slots Q (WD ad cs n E (mA S 4 k.toNatClampNeg x) o) (pc + 1) lv st) : J p l e R s m args below meth c D A nL cells slots Q (WD ad cs n E S o) pc lv (.int x :: .int k :: .ref (ad 19) :: st) := j_iastore hc 19 rfl hin rfl hdg kk
theorem al_lc (hc : CX p l e R s m args below meth c D cs sa A cc nL own ret)  {k : Int32} (hin : vp_in k 48) (hdg : decode cc pc = .ok (.iaload, 1)) (kk : J p l e R s m args below meth c D A nL cells slots Q (WD ad cs n E S o) (pc + 1) lv (.int (S 5 k.toNatClampNeg) :: st)) : J p l e R s m args below meth c D A nL cells slots Q (WD ad cs n E S o) pc lv (.int k :: .ref (ad 20) :: st) := j_iaload hc 20 rfl hin hdg kk
theorem as_lc (hc : CX p l e R s m args below meth c D cs sa A cc nL own ret)  {k : Int32} {x : Int32} (hin : vp_in k 48) (hdg : decode cc pc = .ok (.iastore, 1)) (kk : J p l e R s m args below meth c D A nL cells slots Q (WD ad cs n E (mA S 5 k.toNatClampNeg x) o) (pc + 1) lv st) : J p l e R s m args below meth c D A nL cells slots Q (WD ad cs n E S o) pc lv (.int x :: .int k :: .ref (ad 20) :: st) := j_iastore hc 20 rfl hin rfl hdg kk
theorem al_lf (hc : CX p l e R s m args below meth c D cs sa A cc nL own ret)  {k : Int32} (hin : vp_in k 60) (hdg : decode cc pc = .ok (.iaload, 1)) (kk : J p l e R s m args below meth c D A nL cells slots Q (WD ad cs n E S o) (pc + 1) lv (.int (S 6 k.toNatClampNeg) :: st)) : J p l e R s m args below meth c D A nL cells slots Q (WD ad cs n E S o) pc lv (.int k :: .ref (ad 21) :: st) := j_iaload hc 21 rfl hin hdg kk
theorem as_lf (hc : CX p l e R s m args below meth c D cs sa A cc nL own ret)  {k : Int32} {x : Int32} (hin : vp_in k 60) (hdg : decode cc pc = .ok (.iastore, 1)) (kk : J p l e R s m args below meth c D A nL cells slots Q (WD ad cs n E (mA S 6 k.toNatClampNeg x) o) (pc + 1) lv st) : J p l e R s m args below meth c D A nL cells slots Q (WD ad cs n E S o) pc lv (.int x :: .int k :: .ref (ad 21) :: st) := j_iastore hc 21 rfl hin rfl hdg kk
theorem al_lk (hc : CX p l e R s m args below meth c D cs sa A cc nL own ret)  {k : Int32} (hin : vp_in k 36) (hdg : decode cc pc = .ok (.iaload, 1)) (kk : J p l e R s m args below meth c D A nL cells slots Q (WD ad cs n E S o) (pc + 1) lv (.int (S 7 k.toNatClampNeg) :: st)) : J p l e R s m args below meth c D A nL cells slots Q (WD ad cs n E S o) pc lv (.int k :: .ref (ad 22) :: st) := j_iaload hc 22 rfl hin hdg kk
theorem as_lk (hc : CX p l e R s m args below meth c D cs sa A cc nL own ret)  {k : Int32} {x : Int32} (hin : vp_in k 36) (hdg : decode cc pc = .ok (.iastore, 1)) (kk : J p l e R s m args below meth c D A nL cells slots Q (WD ad cs n E (mA S 7 k.toNatClampNeg x) o) (pc + 1) lv st) : J p l e R s m args below meth c D A nL cells slots Q (WD ad cs n E S o) pc lv (.int x :: .int k :: .ref (ad 22) :: st) := j_iastore hc 22 rfl hin rfl hdg kk
theorem al_le (hc : CX p l e R s m args below meth c D cs sa A cc nL own ret)  {k : Int32} (hin : vp_in k 60) (hdg : decode cc pc = .ok (.iaload, 1)) (kk : J p l e R s m args below meth c D A nL cells slots Q (WD ad cs n E S o) (pc + 1) lv (.int (S 8 k.toNatClampNeg) :: st)) : J p l e R s m args below meth c D A nL cells slots Q (WD ad cs n E S o) pc lv (.int k :: .ref (ad 23) :: st) := j_iaload hc 23 rfl hin hdg kk
theorem as_le (hc : CX p l e R s m args below meth c D cs sa A cc nL own ret)  {k : Int32} {x : Int32} (hin : vp_in k 60) (hdg : decode cc pc = .ok (.iastore, 1)) (kk : J p l e R s m args below meth c D A nL cells slots Q (WD ad cs n E (mA S 8 k.toNatClampNeg x) o) (pc + 1) lv st) : J p l e R s m args below meth c D A nL cells slots Q (WD ad cs n E S o) pc lv (.int x :: .int k :: .ref (ad 23) :: st) := j_iastore hc 23 rfl hin rfl hdg kk
theorem al_gaps (hc : CX p l e R s m args below meth c D cs sa A cc nL own ret) {i : Nat} (hi : i < 4) {k : Int32} (hk : k = nI i) (hdg : decode cc pc = .ok (.aaload, 1)) (kk : J p l e R s m args below meth c D A nL cells slots Q (WD ad cs n E S o) (pc + 1) lv (.ref (ad (4 + 2 * i)) :: st)) : J p l e R s m args below meth c D A nL cells slots Q (WD ad cs n E S o) pc lv (.int k :: .ref (ad 3) :: st) := by
  subst hk
  exact j_aaload hc 3 4 rfl rfl (vp_in_nI hi (by decide)) (by rw [nI_clamp (by omega), gpf, if_pos hi]; rfl) hdg kk
theorem al_row (hc : CX p l e R s m args below meth c D cs sa A cc nL own ret) {b : Nat} (hb : b < n) (hn : n ≤ 30) {k : Int32} (hk : k = nI b) (hdg : decode cc pc = .ok (.aaload, 1)) (kk : J p l e R s m args below meth c D A nL cells slots Q (WD ad cs n E S o) (pc + 1) lv (.ref (ad (24 + 2 * b)) :: st)) : J p l e R s m args below meth c D A nL cells slots Q (WD ad cs n E S o) pc lv (.int k :: .ref (ad 12) :: st) := by
  subst hk
  exact j_aaload hc 12 3 rfl rfl (vp_in_nI (by omega) (by decide)) (by rw [nI_clamp (by omega), brf, if_pos hb]; rfl) hdg kk
theorem al_rowN (hc : CX p l e R s m args below meth c D cs sa A cc nL own ret) {b : Nat} (hb : ¬ b < n) (hn : b < 30) {k : Int32} (hk : k = nI b) (hdg : decode cc pc = .ok (.aaload, 1)) (kk : J p l e R s m args below meth c D A nL cells slots Q (WD ad cs n E S o) (pc + 1) lv (.null :: st)) : J p l e R s m args below meth c D A nL cells slots Q (WD ad cs n E S o) pc lv (.int k :: .ref (ad 12) :: st) := by
  subst hk
  exact j_aaload hc 12 3 rfl rfl (vp_in_nI hn (by decide)) (by rw [nI_clamp (by omega), brf, if_neg hb]; rfl) hdg kk
theorem ln_hol (hc : CX p l e R s m args below meth c D cs sa A cc nL own ret)  (hdg : decode cc pc = .ok (.arraylength, 1)) (kk : J p l e R s m args below meth c D A nL cells slots Q (WD ad cs n E S o) (pc + 1) lv (.int 485 :: st)) : J p l e R s m args below meth c D A nL cells slots Q (WD ad cs n E S o) pc lv (.ref (ad 2) :: st) := j_alen hc 2 1 rfl rfl rfl hdg kk
theorem ln_gap (hc : CX p l e R s m args below meth c D cs sa A cc nL own ret) {i : Nat} (hi : i < 4) (hdg : decode cc pc = .ok (.arraylength, 1)) (kk : J p l e R s m args below meth c D A nL cells slots Q (WD ad cs n E S o) (pc + 1) lv (.int 6 :: st)) : J p l e R s m args below meth c D A nL cells slots Q (WD ad cs n E S o) pc lv (.ref (ad (5 + 2 * i)) :: st) := j_alen hc (5 + 2 * i) 0 (wd_gapd hi) rfl rfl hdg kk
theorem ln_row (hc : CX p l e R s m args below meth c D cs sa A cc nL own ret)  (hdg : decode cc pc = .ok (.arraylength, 1)) (kk : J p l e R s m args below meth c D A nL cells slots Q (WD ad cs n E S o) (pc + 1) lv (.int 30 :: st)) : J p l e R s m args below meth c D A nL cells slots Q (WD ad cs n E S o) pc lv (.ref (ad 12) :: st) := j_alen hc 12 3 rfl rfl rfl hdg kk
end GP
/-- a room by its depth -/
abbrev RM (k mc ms : Nat) : Room := { frames := k, cells := mc, slots := ms, locals := 30 * k }
theorem ic_L_103 : IC RL 103 yX4_init cX4_init 1 0 := ⟨wt_16, wt_17, wt_1, wt_18, rfl, by decide, by decide, by decide +kernel⟩
theorem ic_X4_9 : IC RX4 9 yX1_init cX1_init 1 0 := ⟨wt_24, wt_25, wt_2, wt_26, rfl, by decide, by decide, by decide +kernel⟩
theorem ic_X4_22 : IC RX4 22 yX3_init cX3_init 3 1 := ⟨wt_42, wt_43, wt_3, wt_44, rfl, by decide, by decide, by decide +kernel⟩
theorem ic_X4_46 : IC RX4 46 yX2_init cX2_init 1 0 := ⟨wt_65, wt_66, wt_4, wt_67, rfl, by decide, by decide, by decide +kernel⟩
theorem vc_L_120 : VC RL 120 RX4 yX4_addHoliday cX4_addHoliday 3 (Option.some Jvm.ClassFile.FieldType.boolean) 1 := ⟨wt_114, wt_115, wt_116, wt_1, wt_117, rfl, by decide, by decide, by decide +kernel⟩
theorem sc_X4_86 : SC RX4 86 yX4_checkRange cX4_checkRange 3 (Option.none : Option Jvm.ClassFile.FieldType) 3 := ⟨wt_118, wt_119, wt_1, wt_120, by decide, by decide, by decide +kernel⟩
theorem vc_X4_90 : VC RX4 90 RX1 yX1_isHoliday cX1_isHoliday 3 (Option.some Jvm.ClassFile.FieldType.boolean) 1 := ⟨wt_189, wt_190, wt_191, wt_2, wt_192, rfl, by decide, by decide, by decide +kernel⟩
theorem vc_X4_94 : VC RX4 94 RX1 yX1_keepHoliday cX1_keepHoliday 3 (Option.none : Option Jvm.ClassFile.FieldType) 1 := ⟨wt_193, wt_194, wt_195, wt_2, wt_196, rfl, by decide, by decide, by decide +kernel⟩
theorem vc_L_123 : VC RL 123 RX4 yX4_clearGaps cX4_clearGaps 4 (Option.some Jvm.ClassFile.FieldType.int) 1 := ⟨wt_197, wt_198, wt_199, wt_1, wt_200, rfl, by decide, by decide, by decide +kernel⟩
theorem sc_X4_98 : SC RX4 98 yX4_indexOfReason cX4_indexOfReason 1 (Option.some Jvm.ClassFile.FieldType.int) 1 := ⟨wt_201, wt_202, wt_1, wt_203, by decide, by decide, by decide +kernel⟩
theorem vc_L_126 : VC RL 126 RX4 yX4_setTimes cX4_setTimes 4 (Option.some Jvm.ClassFile.FieldType.int) 2 := ⟨wt_220, wt_221, wt_222, wt_1, wt_223, rfl, by decide, by decide, by decide +kernel⟩
theorem vc_L_109 : VC RL 109 RX4 yX4_bill cX4_bill 5 (Option.some Jvm.ClassFile.FieldType.int) 2 := ⟨wt_224, wt_225, wt_226, wt_1, wt_227, rfl, by decide, by decide, by decide +kernel⟩
theorem sc_X4_109 : SC RX4 109 yX4_checkAccount cX4_checkAccount 1 (Option.none : Option Jvm.ClassFile.FieldType) 1 := ⟨wt_228, wt_229, wt_1, wt_230, by decide, by decide, by decide +kernel⟩
theorem ic_X4_117 : IC RX4 117 yX0_init cX0_init 4 3 := ⟨wt_249, wt_250, wt_12, wt_251, rfl, by decide, by decide, by decide +kernel⟩
theorem vc_X4_122 : VC RX4 122 RX1 yX1_firstChargingFrom cX1_firstChargingFrom 4 (Option.some Jvm.ClassFile.FieldType.int) 1 := ⟨wt_291, wt_292, wt_293, wt_2, wt_294, rfl, by decide, by decide, by decide +kernel⟩
theorem vc_X1_27 : VC RX1 27 RX1 yX1_allowsCharging cX1_allowsCharging 3 (Option.some Jvm.ClassFile.FieldType.boolean) 1 := ⟨wt_295, wt_296, wt_297, wt_2, wt_298, rfl, by decide, by decide, by decide +kernel⟩
theorem sc_X1_17 : SC RX1 17 yJ9_floorMod_7cf53 cJ9_floorMod_7cf53 3 (Option.some Jvm.ClassFile.FieldType.int) 2 := ⟨wt_299, wt_300, wt_9, wt_301, by decide, by decide, by decide +kernel⟩
theorem vc_X1_23 : VC RX1 23 RX1 yX1_isHoliday cX1_isHoliday 3 (Option.some Jvm.ClassFile.FieldType.boolean) 1 := ⟨wt_302, wt_190, wt_191, wt_2, wt_192, rfl, by decide, by decide, by decide +kernel⟩
theorem vc_X4_125 : VC RX4 125 RX4 yX4_enter cX4_enter 4 (Option.none : Option Jvm.ClassFile.FieldType) 3 := ⟨wt_303, wt_305, wts_1, wt_1, wt_306, rfl, by decide, by decide, by decide +kernel⟩
theorem vc_X4_234 : VC RX4 234 RX2 yX2_add cX2_add 4 (Option.none : Option Jvm.ClassFile.FieldType) 3 := ⟨wt_307, wt_308, wt_309, wt_4, wt_310, rfl, by decide, by decide, by decide +kernel⟩
theorem sc_X2_19 : SC RX2 19 yJ9_floorMod_7cf53 cJ9_floorMod_7cf53 3 (Option.some Jvm.ClassFile.FieldType.int) 2 := ⟨wt_311, wt_300, wt_9, wt_301, by decide, by decide, by decide +kernel⟩
theorem vc_L_133 : VC RL 133 RX4 yX4_pass cX4_pass 4 (Option.some Jvm.ClassFile.FieldType.int) 1 := ⟨wt_312, wt_313, wt_314, wt_1, wt_315, rfl, by decide, by decide, by decide +kernel⟩
theorem vc_X4_164 : VC RX4 164 RX4 yX4_failUnansweredTries cX4_failUnansweredTries 3 (Option.none : Option Jvm.ClassFile.FieldType) 0 := ⟨wt_316, wt_318, wts_2, wt_1, wt_319, rfl, by decide, by decide, by decide +kernel⟩
theorem vc_X4_145 : VC RX4 145 RX4 yX4_fail cX4_fail 5 (Option.none : Option Jvm.ClassFile.FieldType) 2 := ⟨wt_320, wt_322, wts_3, wt_1, wt_323, rfl, by decide, by decide, by decide +kernel⟩
theorem vc_X4_237 : VC RX4 237 RX3 yX3_daysBehind cX3_daysBehind 3 (Option.some Jvm.ClassFile.FieldType.int) 1 := ⟨wt_324, wt_325, wt_326, wt_3, wt_327, rfl, by decide, by decide, by decide +kernel⟩
theorem vc_X4_167 : VC RX4 167 RX4 yX4_lookAtBills cX4_lookAtBills 4 (Option.some Jvm.ClassFile.FieldType.int) 0 := ⟨wt_328, wt_330, wts_4, wt_1, wt_331, rfl, by decide, by decide, by decide +kernel⟩
theorem vc_X4_240 : VC RX4 240 RX4 yX4_lookAt cX4_lookAt 2 (Option.some Jvm.ClassFile.FieldType.boolean) 1 := ⟨wt_332, wt_334, wts_5, wt_1, wt_335, rfl, by decide, by decide, by decide +kernel⟩
theorem vc_X4_244 : VC RX4 244 RX4 yX4_beginTry cX4_beginTry 2 (Option.some Jvm.ClassFile.FieldType.boolean) 1 := ⟨wt_336, wt_338, wts_6, wt_1, wt_339, rfl, by decide, by decide, by decide +kernel⟩
theorem vc_X4_172 : VC RX4 172 RX1 yX1_allowsCharging cX1_allowsCharging 3 (Option.some Jvm.ClassFile.FieldType.boolean) 1 := ⟨wt_340, wt_296, wt_297, wt_2, wt_298, rfl, by decide, by decide, by decide +kernel⟩
theorem vc_X4_247 : VC RX4 247 RX4 yX4_breakPromise cX4_breakPromise 2 (Option.none : Option Jvm.ClassFile.FieldType) 1 := ⟨wt_341, wt_343, wts_7, wt_1, wt_344, rfl, by decide, by decide, by decide +kernel⟩
theorem sc_L_13 : SC RL 13 yL_from cL_from 4 (Option.some Jvm.ClassFile.FieldType.int) 3 := ⟨wt_345, wt_346, wt_0, wt_347, by decide, by decide, by decide +kernel⟩
theorem sc_L_7 : SC RL 7 yL_charges cL_charges 5 (Option.some Jvm.ClassFile.FieldType.boolean) 3 := ⟨wt_348, wt_349, wt_0, wt_350, by decide, by decide, by decide +kernel⟩
theorem sc_L_17 : SC RL 17 yL_enters cL_enters 5 (Option.none : Option Jvm.ClassFile.FieldType) 5 := ⟨wt_351, wt_352, wt_0, wt_353, by decide, by decide, by decide +kernel⟩
theorem sc_L_21 : SC RL 21 yL_fails cL_fails 11 (Option.none : Option Jvm.ClassFile.FieldType) 9 := ⟨wt_354, wt_355, wt_0, wt_356, by decide, by decide, by decide +kernel⟩
theorem sc_L_129 : SC RL 129 yL_passes cL_passes 12 (Option.some Jvm.ClassFile.FieldType.int) 9 := ⟨wt_357, wt_358, wt_0, wt_359, by decide, by decide, by decide +kernel⟩
theorem sc_L_116 : SC RL 116 yL_pays cL_pays 6 (Option.some Jvm.ClassFile.FieldType.int) 6 := ⟨wt_360, wt_361, wt_0, wt_362, by decide, by decide, by decide +kernel⟩
theorem vc_L_25 : VC RL 25 RX4 yX4_outcome cX4_outcome 4 (Option.some Jvm.ClassFile.FieldType.int) 2 := ⟨wt_367, wt_368, wt_369, wt_1, wt_370, rfl, by decide, by decide, by decide +kernel⟩
theorem vc_X4_129 : VC RX4 129 RX4 yX4_findBill cX4_findBill 3 (Option.some (Jvm.ClassFile.FieldType.object "CollectionsEngine$Bill")) 1 := ⟨wt_371, wt_373, wts_8, wt_1, wt_374, rfl, by decide, by decide, by decide +kernel⟩
theorem vc_X4_141 : VC RX4 141 RX4 yX4_takePayment cX4_takePayment 3 (Option.none : Option Jvm.ClassFile.FieldType) 2 := ⟨wt_377, wt_379, wts_9, wt_1, wt_380, rfl, by decide, by decide, by decide +kernel⟩
theorem vc_L_31 : VC RL 31 RX4 yX4_pay cX4_pay 4 (Option.some Jvm.ClassFile.FieldType.int) 2 := ⟨wt_381, wt_382, wt_383, wt_1, wt_384, rfl, by decide, by decide, by decide +kernel⟩
theorem vc_L_34 : VC RL 34 RX4 yX4_promise cX4_promise 5 (Option.some Jvm.ClassFile.FieldType.int) 2 := ⟨wt_386, wt_387, wt_388, wt_1, wt_389, rfl, by decide, by decide, by decide +kernel⟩
theorem vc_L_37 : VC RL 37 RX4 yX4_addGap cX4_addGap 4 (Option.some Jvm.ClassFile.FieldType.int) 2 := ⟨wt_391, wt_392, wt_393, wt_1, wt_394, rfl, by decide, by decide, by decide +kernel⟩
theorem vc_X4_106 : VC RX4 106 RX3 yX3_append cX3_append 2 (Option.none : Option Jvm.ClassFile.FieldType) 1 := ⟨wt_396, wt_397, wt_398, wt_3, wt_399, rfl, by decide, by decide, by decide +kernel⟩
theorem vc_L_40 : VC RL 40 RX4 yX4_setWeekday cX4_setWeekday 4 (Option.some Jvm.ClassFile.FieldType.int) 2 := ⟨wt_400, wt_401, wt_402, wt_1, wt_403, rfl, by decide, by decide, by decide +kernel⟩
theorem vc_X4_65 : VC RX4 65 RX1 yX1_weekdaysWith cX1_weekdaysWith 4 (Option.some Jvm.ClassFile.FieldType.int) 2 := ⟨wt_405, wt_406, wt_407, wt_2, wt_408, rfl, by decide, by decide, by decide +kernel⟩
theorem sc_X4_77 : SC RX4 77 yJ6_bitCount_0f7a4 cJ6_bitCount_0f7a4 1 (Option.some Jvm.ClassFile.FieldType.int) 1 := ⟨wt_410, wt_411, wt_13, wt_412, by decide, by decide, by decide +kernel⟩
theorem sc_L_104 : SC RL 104 yL_isEngine cL_isEngine 16 (Option.some Jvm.ClassFile.FieldType.boolean) 9 := ⟨wt_416, wt_417, wt_0, wt_418, by decide, by decide, by decide +kernel⟩
theorem vc_L_46 : VC RL 46 RX4 yX4_today cX4_today 1 (Option.some Jvm.ClassFile.FieldType.int) 0 := ⟨wt_419, wt_420, wt_421, wt_1, wt_422, rfl, by decide, by decide, by decide +kernel⟩
theorem vc_L_50 : VC RL 50 RX4 yX4_bills cX4_bills 1 (Option.some Jvm.ClassFile.FieldType.int) 0 := ⟨wt_423, wt_424, wt_425, wt_1, wt_426, rfl, by decide, by decide, by decide +kernel⟩
theorem vc_L_53 : VC RL 53 RX4 yX4_paid cX4_paid 1 (Option.some Jvm.ClassFile.FieldType.int) 0 := ⟨wt_427, wt_428, wt_429, wt_1, wt_430, rfl, by decide, by decide, by decide +kernel⟩
theorem vc_L_56 : VC RL 56 RX4 yX4_writtenOff cX4_writtenOff 1 (Option.some Jvm.ClassFile.FieldType.int) 0 := ⟨wt_431, wt_432, wt_433, wt_1, wt_434, rfl, by decide, by decide, by decide +kernel⟩
theorem vc_L_59 : VC RL 59 RX4 yX4_broughtBack cX4_broughtBack 1 (Option.some Jvm.ClassFile.FieldType.int) 0 := ⟨wt_435, wt_436, wt_437, wt_1, wt_438, rfl, by decide, by decide, by decide +kernel⟩
theorem vc_L_62 : VC RL 62 RX4 yX4_events cX4_events 1 (Option.some Jvm.ClassFile.FieldType.int) 0 := ⟨wt_439, wt_440, wt_441, wt_1, wt_442, rfl, by decide, by decide, by decide +kernel⟩
theorem vc_L_65 : VC RL 65 RX4 yX4_isCharging cX4_isCharging 2 (Option.some Jvm.ClassFile.FieldType.boolean) 1 := ⟨wt_443, wt_444, wt_445, wt_1, wt_446, rfl, by decide, by decide, by decide +kernel⟩
theorem vc_L_69 : VC RL 69 RX4 yX4_service cX4_service 5 (Option.some Jvm.ClassFile.FieldType.int) 1 := ⟨wt_448, wt_449, wt_450, wt_1, wt_451, rfl, by decide, by decide, by decide +kernel⟩
theorem sc_X4_187 : SC RX4 187 yX4_serviceWith cX4_serviceWith 2 (Option.some Jvm.ClassFile.FieldType.int) 1 := ⟨wt_452, wt_453, wt_1, wt_454, by decide, by decide, by decide +kernel⟩
theorem sc_X4_191 : SC RX4 191 yJ9_min_7cf53 cJ9_min_7cf53 2 (Option.some Jvm.ClassFile.FieldType.int) 2 := ⟨wt_455, wt_456, wt_9, wt_457, by decide, by decide, by decide +kernel⟩
theorem vc_L_73 : VC RL 73 RX4 yX4_leftIn cX4_leftIn 6 (Option.some Jvm.ClassFile.FieldType.int) 2 := ⟨wt_458, wt_459, wt_460, wt_1, wt_461, rfl, by decide, by decide, by decide +kernel⟩
theorem vc_L_76 : VC RL 76 RX4 yX4_stateOf cX4_stateOf 2 (Option.some Jvm.ClassFile.FieldType.int) 1 := ⟨wt_462, wt_463, wt_464, wt_1, wt_465, rfl, by decide, by decide, by decide +kernel⟩
theorem vc_L_79 : VC RL 79 RX4 yX4_left cX4_left 2 (Option.some Jvm.ClassFile.FieldType.int) 1 := ⟨wt_466, wt_467, wt_468, wt_1, wt_469, rfl, by decide, by decide, by decide +kernel⟩
theorem vc_L_82 : VC RL 82 RX4 yX4_tries cX4_tries 2 (Option.some Jvm.ClassFile.FieldType.int) 1 := ⟨wt_470, wt_471, wt_472, wt_1, wt_473, rfl, by decide, by decide, by decide +kernel⟩
theorem vc_L_85 : VC RL 85 RX4 yX4_broken cX4_broken 2 (Option.some Jvm.ClassFile.FieldType.int) 1 := ⟨wt_474, wt_475, wt_476, wt_1, wt_477, rfl, by decide, by decide, by decide +kernel⟩
theorem vc_L_88 : VC RL 88 RX4 yX4_waitsFor cX4_waitsFor 2 (Option.some Jvm.ClassFile.FieldType.int) 1 := ⟨wt_478, wt_479, wt_480, wt_1, wt_481, rfl, by decide, by decide, by decide +kernel⟩
theorem vc_L_91 : VC RL 91 RX4 yX4_failures cX4_failures 4 (Option.some Jvm.ClassFile.FieldType.int) 2 := ⟨wt_482, wt_483, wt_484, wt_1, wt_485, rfl, by decide, by decide, by decide +kernel⟩
theorem vc_L_94 : VC RL 94 RX4 yX4_event cX4_event 2 (Option.some Jvm.ClassFile.FieldType.int) 1 := ⟨wt_486, wt_487, wt_488, wt_1, wt_489, rfl, by decide, by decide, by decide +kernel⟩
theorem vc_X4_209 : VC RX4 209 RX2 yX2_told cX2_told 1 (Option.some Jvm.ClassFile.FieldType.int) 0 := ⟨wt_490, wt_491, wt_492, wt_4, wt_493, rfl, by decide, by decide, by decide +kernel⟩
theorem sc_X2_25 : SC RX2 25 yJ9_min_7cf53 cJ9_min_7cf53 2 (Option.some Jvm.ClassFile.FieldType.int) 2 := ⟨wt_494, wt_456, wt_9, wt_457, by decide, by decide, by decide +kernel⟩
theorem vc_X4_214 : VC RX4 214 RX2 yX2_codeAt cX2_codeAt 2 (Option.some Jvm.ClassFile.FieldType.int) 1 := ⟨wt_496, wt_497, wt_498, wt_4, wt_499, rfl, by decide, by decide, by decide +kernel⟩
theorem vc_L_97 : VC RL 97 RX4 yX4_stateAt cX4_stateAt 3 (Option.some Jvm.ClassFile.FieldType.int) 2 := ⟨wt_500, wt_501, wt_502, wt_1, wt_503, rfl, by decide, by decide, by decide +kernel⟩
theorem vc_X4_217 : VC RX4 217 RX2 yX2_lastStateOf cX2_lastStateOf 7 (Option.some Jvm.ClassFile.FieldType.int) 2 := ⟨wt_504, wt_505, wt_506, wt_4, wt_507, rfl, by decide, by decide, by decide +kernel⟩
theorem vc_X2_28 : VC RX2 28 RX2 yX2_told cX2_told 1 (Option.some Jvm.ClassFile.FieldType.int) 0 := ⟨wt_508, wt_491, wt_492, wt_4, wt_493, rfl, by decide, by decide, by decide +kernel⟩
theorem vc_X2_32 : VC RX2 32 RX2 yX2_codeAt cX2_codeAt 2 (Option.some Jvm.ClassFile.FieldType.int) 1 := ⟨wt_509, wt_497, wt_498, wt_4, wt_499, rfl, by decide, by decide, by decide +kernel⟩
theorem vc_L_100 : VC RL 100 RX4 yX4_billed cX4_billed 1 (Option.some Jvm.ClassFile.FieldType.int) 0 := ⟨wt_510, wt_511, wt_512, wt_1, wt_513, rfl, by decide, by decide, by decide +kernel⟩
