/-! numbers, sets, a house of things, a round: what both sides answer, as plain numbers -/
theorem nI_mul (a b : Nat) : nI a * nI b = nI (a * b) := by
  simp only [nI]
  exact (Int32.ofNat_mul a b).symm
theorem nI_inj {a b : Nat} (ha : a < 2 ^ 31) (hb : b < 2 ^ 31) (h : nI a = nI b) : a = b := (nI_eq ha hb).mp h
theorem ts_out {x : Int32} {n : Nat} (hn : n < 2 ^ 31) (h : ∀ k, k ≤ n → ¬ x = nI k) : x.toInt < (0 : Int) ∨ ((n : Nat) : Int) < x.toInt := by
  rcases Int.lt_or_le x.toInt 0 with h0 | h0
  · exact Or.inl h0
  · rcases Int.lt_or_le ((n : Nat) : Int) x.toInt with h1 | h1
    · exact Or.inr h1
    · exfalso
      refine h x.toInt.toNat (by omega) (Int32.toInt_inj.mp ?_)
      rw [nI_toInt (by omega)]
      omega
theorem ts_out3 {x : Int32} (h0 : ¬ x = 0) (h1 : ¬ x = 1) (h2 : ¬ x = 2) (h3 : ¬ x = 3) : x.toInt < (0 : Int) ∨ (3 : Int) < x.toInt :=
  ts_out (n := 3) (by decide) (fun k hk => by
    match k, hk with
    | 0, _ => exact h0
    | 1, _ => exact h1
    | 2, _ => exact h2
    | 3, _ => exact h3)
theorem ts_out5 {x : Int32} (h0 : ¬ x = 0) (h1 : ¬ x = 1) (h2 : ¬ x = 2) (h3 : ¬ x = 3) (h4 : ¬ x = 4) (h5 : ¬ x = 5) : x.toInt < (0 : Int) ∨ (5 : Int) < x.toInt :=
  ts_out (n := 5) (by decide) (fun k hk => by
    match k, hk with
    | 0, _ => exact h0
    | 1, _ => exact h1
    | 2, _ => exact h2
    | 3, _ => exact h3
    | 4, _ => exact h4
    | 5, _ => exact h5)
/-! sets of at most six numbers -/
theorem bt_or : ∀ a, a < 64 → ∀ t, t < 6 → nI a ||| ((1 : Int32) <<< (nI t &&& 31)) = nI (a ||| 2 ^ t) ∧ a ||| 2 ^ t < 64 := by decide +kernel
theorem bt_in : ∀ a, a < 64 → ∀ t, t < 6 → ((nI a >>> (nI t &&& 31)) &&& 1) = bi (a.testBit t) := by decide +kernel
theorem bt_set : ∀ a, a < 64 → ∀ t, t < 6 → ∀ x, x < 6 → (a ||| 2 ^ t).testBit x = (a.testBit x || decide (x = t)) := by decide +kernel
theorem bt_one : ∀ t, t < 6 → (1 : Int32) <<< (nI t &&& 31) = nI (2 ^ t) := by decide +kernel
/-- which numbers below six: how many -/
def s_pop (a : Nat) : Nat := ((List.range 6).filter (fun k => a.testBit k)).length
/-- hours from h on, n of them, that are hours -/
def s_span (n h : Nat) : Nat := (((2 ^ n - 1) * 2 ^ h)) % 64
theorem s_span_lt (n h : Nat) : s_span n h < 64 := Nat.mod_lt _ (by decide)
theorem s_span_bit : ∀ n, n < 7 → ∀ h, h < 6 → ∀ x, x < 6 → (s_span n h).testBit x = (decide (h ≤ x) && decide (x < h + n)) := by decide +kernel
theorem s_and_lt {a b : Nat} (h : a < 64) : a &&& b < 64 := Nat.lt_of_le_of_lt Nat.and_le_left h
theorem bt_and : ∀ a, a < 64 → ∀ b, b < 64 → nI a &&& nI b = nI (a &&& b) := by decide +kernel
theorem bt_sp : ∀ n, n < 7 → ∀ h, h < 6 → (((((1 : Int32) <<< (nI n &&& 31)) - 1) <<< (nI h &&& 31)) &&& 63) = nI (s_span n h) := by decide +kernel
/-! a house: how many things, penalty, law, and of each thing kind, sort, worth, stay, uses (0 .. 4) -/
abbrev s_H : Type := Nat × Nat × Nat × (Nat → Nat → Nat)
def s_ok (H : s_H) : Prop := H.1 ≤ 5 ∧ H.2.1 ≤ 9 ∧ H.2.2.1 ≤ 3 ∧ ∀ t, t < H.1 → H.2.2.2 0 t ≤ 2 ∧ H.2.2.2 1 t ≤ 3 ∧ (1 ≤ H.2.2.2 2 t ∧ H.2.2.2 2 t ≤ 9) ∧ (1 ≤ H.2.2.2 3 t ∧ H.2.2.2 3 t ≤ 6) ∧ H.2.2.2 4 t < 64
def HX (M : pv_M) (H : s_H) : Prop := s_ok H ∧ M 10 1 = nI H.1 ∧ M 10 2 = nI H.2.1 ∧ M 10 3 = nI H.2.2.1 ∧ ∀ t, t < H.1 → ∀ f, f < 5 → M (12 + t) f = nI (H.2.2.2 f t)
def HM (M : pv_M) (H : s_H) : Prop := s_ok H ∧ M 29 3 = nI H.1 ∧ M 29 1 = nI H.2.1 ∧ M 29 2 = nI H.2.2.1 ∧ ∀ t, t < H.1 → ∀ f, f < 5 → M (30 + f) t = nI (H.2.2.2 f t)
def s_val (H : s_H) (t : Nat) : Nat := if H.2.2.2 0 t = 0 then H.2.2.2 2 t else if H.2.2.2 0 t = 1 then H.2.2.2 2 t + 1 else 2 * (H.2.2.2 2 t + 1)
/-- a round: in each hour a thing, or none -/
def s_rI (r : Option Nat) : Int32 := match r with
  | none => -9
  | some t => nI t
def s_row (M : pv_M) (pl k n : Nat) (r : Nat → Option Nat) : Prop := ∀ h, h < k → M pl h = s_rI (r h) ∧ ∀ t, r h = some t → t < n
/-- which things are in their cases in hour 'at', by the takes of the first k hours -/
def s_cs (H : s_H) (r : Nat → Option Nat) (at_ : Nat) : Nat → Nat
  | 0 => 0
  | k + 1 => match r k with
    | none => s_cs H r at_ k
    | some t => if at_ < k + H.2.2.2 3 t then s_cs H r at_ k ||| 2 ^ t else s_cs H r at_ k
def s_last (H : s_H) (t cs : Nat) : Bool := (List.range H.1).all fun x => decide (x = t) || (decide (H.2.2.2 1 x ≠ H.2.2.2 1 t) || cs.testBit x)
def s_gain (H : s_H) (lw t h cs : Nat) : Nat := s_val H t * (if lw.testBit 0 && (H.2.2.2 4 t).testBit h then 2 else 1) + (if lw.testBit 1 && s_last H t cs then 5 else 0)
def s_take (H : s_H) (lw : Nat) (r : Nat → Option Nat) : Nat → Nat
  | 0 => 0
  | k + 1 => s_take H lw r k + (match r k with
    | none => 0
    | some t => s_gain H lw t k (s_cs H r k k))
def s_miss1 (H : s_H) (t h : Nat) : Nat := s_pop (H.2.2.2 4 t &&& s_span (H.2.2.2 3 t) h)
def s_miss (H : s_H) (r : Nat → Option Nat) : Nat → Nat
  | 0 => 0
  | k + 1 => s_miss H r k + (match r k with
    | none => 0
    | some t => s_miss1 H t k)
/-- the first hour below k in which one is taken that is in its case -/
def s_wrong (H : s_H) (r : Nat → Option Nat) : Nat → Option Nat
  | 0 => none
  | k + 1 => match s_wrong H r k with
    | some h => some h
    | none => match r k with
      | none => none
      | some t => if (s_cs H r k k).testBit t then some k else none
theorem s_cs_lt {H : s_H} {r : Nat → Option Nat} {at_ : Nat} {n : Nat} (hn : n ≤ 5) : ∀ k, (∀ h, h < k → ∀ t, r h = some t → t < n) → s_cs H r at_ k < 64
  | 0, _ => by simp [s_cs]
  | k + 1, hr => by
    have ih := s_cs_lt (H := H) (at_ := at_) hn k (fun h hh => hr h (by omega))
    cases hk : r k with
    | none => simpa [s_cs, hk] using ih
    | some t =>
      have ht := hr k (by omega) t hk
      simp only [s_cs, hk]
      split
      · exact (bt_or _ ih t (by omega)).2
      · exact ih
theorem s_val_le {H : s_H} (hH : s_ok H) {t : Nat} (ht : t < H.1) : s_val H t ≤ 20 := by
  have h := hH.2.2.2 t ht
  unfold s_val
  split
  · omega
  · split <;> omega
theorem s_gain_le {H : s_H} (hH : s_ok H) {lw t h cs : Nat} (ht : t < H.1) : s_gain H lw t h cs ≤ 45 := by
  have h := s_val_le hH ht
  unfold s_gain
  split <;> split <;> omega
theorem s_pop_le (a : Nat) : s_pop a ≤ 6 := by
  unfold s_pop
  exact Nat.le_trans (List.length_filter_le _ _) (by simp)
theorem s_take_le {H : s_H} (hH : s_ok H) {lw : Nat} {r : Nat → Option Nat} : ∀ k, (∀ h, h < k → ∀ t, r h = some t → t < H.1) → s_take H lw r k ≤ 45 * k
  | 0, _ => Nat.le_refl _
  | k + 1, hr => by
    have ih := s_take_le hH (lw := lw) k (fun h hh => hr h (by omega))
    cases hk : r k with
    | none => simp only [s_take, hk]; omega
    | some t =>
      have := s_gain_le hH (lw := lw) (h := k) (cs := s_cs H r k k) (hr k (by omega) t hk)
      simp only [s_take, hk]
      omega
theorem s_miss_le {H : s_H} {r : Nat → Option Nat} : ∀ k, s_miss H r k ≤ 6 * k
  | 0 => Nat.le_refl _
  | k + 1 => by
    have ih := s_miss_le (H := H) (r := r) k
    cases hk : r k with
    | none => simp only [s_miss, hk]; omega
    | some t =>
      have := s_pop_le (H.2.2.2 4 t &&& s_span (H.2.2.2 3 t) k)
      simp only [s_miss, hk, s_miss1]
      omega
def s_hasB (c t : Int32) : Bool := !decide (t < 0) && !decide (t ≥ c)
theorem s_has_of {n : Nat} (hn : n ≤ 5) {t : Int32} (h : s_hasB (nI n) t = true) : ∃ j, j < n ∧ t = nI j := by
  simp only [s_hasB, Bool.and_eq_true, Bool.not_eq_true', decide_eq_false_iff_not] at h
  obtain ⟨j, hj, rfl⟩ := nI_of h.1
  refine ⟨j, ?_, rfl⟩
  rcases Nat.lt_or_ge j n with h1 | h1
  · exact h1
  · exact absurd (nI_le h1 hj) h.2
theorem s_has_nI {n j : Nat} (hn : n ≤ 5) (hj : j < n) : s_hasB (nI n) (nI j) = true := by
  simp only [s_hasB, Bool.and_eq_true, Bool.not_eq_true', decide_eq_false_iff_not]
  exact ⟨nI_pos (by omega), fun h => nI_ge hj (by omega) h⟩
theorem s_has_none {n : Nat} : s_hasB (nI n) (-9) = false := by
  have h : (-9 : Int32) < 0 := by decide
  simp [s_hasB, h]
theorem s_has_rI {n : Nat} (hn : n ≤ 5) {r : Option Nat} (hr : ∀ t, r = some t → t < n) : s_hasB (nI n) (s_rI r) = r.isSome := by
  cases r with
  | none => exact s_has_none
  | some t => exact s_has_nI hn (hr t rfl)
