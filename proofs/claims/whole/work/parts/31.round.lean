/-! the reference: one round, hour by hour -/
/-- from which hour on thing t is out again, by the takes of the first k hours (the last one counts) -/
def s_till (H : s_H) (r : Nat → Option Nat) : Nat → Nat → Nat
  | 0 => fun _ => 0
  | k + 1 => fun t => if r k = some t then k + H.2.2.2 3 t else s_till H r k t
/-- the first hour below k in which one is taken that is in its case, or never is to be taken -/
def s_wrn (H : s_H) (nv : Option Nat) (r : Nat → Option Nat) : Nat → Option Nat
  | 0 => none
  | k + 1 => match s_wrn H nv r k with
    | some h => some h
    | none => match r k with
      | none => none
      | some t => if (s_cs H r k k).testBit t = true ∨ nv = some t then some k else none
theorem s_wrn_none (H : s_H) (r : Nat → Option Nat) : ∀ k, s_wrn H none r k = s_wrong H r k
  | 0 => rfl
  | k + 1 => by
    simp only [s_wrn, s_wrong, s_wrn_none H r k]
    cases s_wrong H r k with
    | some h => rfl
    | none =>
      cases r k with
      | none => rfl
      | some t => simp
def s_set (f : Nat → Bool) : Nat → Nat
  | 0 => 0
  | n + 1 => if f n = true then s_set f n ||| 2 ^ n else s_set f n
theorem s_set_lt (f : Nat → Bool) : ∀ n, n ≤ 6 → s_set f n < 64
  | 0, _ => by simp [s_set]
  | n + 1, hn => by
    have ih := s_set_lt f n (by omega)
    simp only [s_set]
    split
    · exact (bt_or _ ih n (by omega)).2
    · exact ih
theorem bt_2 (m : Nat) (t : Nat) : (2 ^ m).testBit t = decide (m = t) := Nat.testBit_two_pow
theorem s_set_bit (f : Nat → Bool) (t : Nat) : ∀ n, (s_set f n).testBit t = (decide (t < n) && f t)
  | 0 => by simp [s_set]
  | n + 1 => by
    have ih := s_set_bit f t n
    simp only [s_set]
    by_cases hf : f n = true
    · rw [if_pos hf, Nat.testBit_or, ih, bt_2]
      by_cases htn : n = t
      · subst htn; simp [hf]
      · simp [htn]
        by_cases h1 : t < n
        · simp [h1, show t < n + 1 by omega]
        · simp [h1, show ¬ t < n + 1 by omega]
    · rw [if_neg hf, ih]
      by_cases htn : t = n
      · subst htn; simp [hf]
      · by_cases h1 : t < n
        · simp [h1, show t < n + 1 by omega]
        · simp [h1, show ¬ t < n + 1 by omega]
/-- a thing is in its case, as some take's hours cover that one -/
theorem s_cs_bit (H : s_H) (r : Nat → Option Nat) (at_ t : Nat) : ∀ k, (s_cs H r at_ k).testBit t = true ↔ ∃ h, h < k ∧ r h = some t ∧ at_ < h + H.2.2.2 3 t
  | 0 => by simp [s_cs]
  | k + 1 => by
    have ih := s_cs_bit H r at_ t k
    constructor
    · intro hb
      simp only [s_cs] at hb
      cases hr : r k with
      | none =>
        rw [hr] at hb
        obtain ⟨h, h1, h2⟩ := ih.mp hb
        exact ⟨h, by omega, h2⟩
      | some x =>
        rw [hr] at hb
        by_cases hx : at_ < k + H.2.2.2 3 x
        · simp only [if_pos hx, Nat.testBit_or, Bool.or_eq_true, bt_2, decide_eq_true_eq] at hb
          rcases hb with hb | hb
          · obtain ⟨h, h1, h2⟩ := ih.mp hb
            exact ⟨h, by omega, h2⟩
          · subst hb
            exact ⟨k, by omega, hr, hx⟩
        · simp only [if_neg hx] at hb
          obtain ⟨h, h1, h2⟩ := ih.mp hb
          exact ⟨h, by omega, h2⟩
    · rintro ⟨h, h1, h2, h3⟩
      simp only [s_cs]
      by_cases hk : h = k
      · subst hk
        rw [h2]
        simp only [if_pos h3, Nat.testBit_or, bt_2, Bool.or_eq_true]
        exact Or.inr (by simp)
      · have hb := ih.mpr ⟨h, by omega, h2, h3⟩
        cases r k with
        | none => exact hb
        | some x =>
          show (if at_ < k + H.2.2.2 3 x then s_cs H r at_ k ||| 2 ^ x else s_cs H r at_ k).testBit t = true
          split
          · rw [Nat.testBit_or, hb]; rfl
          · exact hb
theorem s_wrn_pre {H : s_H} {nv : Option Nat} {r : Nat → Option Nat} {k : Nat} (h : s_wrn H nv r (k + 1) = none) : s_wrn H nv r k = none ∧ ∀ t, r k = some t → (s_cs H r k k).testBit t = false ∧ nv ≠ some t := by
  simp only [s_wrn] at h
  cases hk : s_wrn H nv r k with
  | some x => rw [hk] at h; cases h
  | none =>
    rw [hk] at h
    refine ⟨rfl, fun t ht => ?_⟩
    rw [ht] at h
    by_cases hc : (s_cs H r k k).testBit t = true ∨ nv = some t
    · simp only [if_pos hc] at h; cases h
    · refine ⟨?_, fun z => hc (Or.inr z)⟩
      rcases Bool.eq_false_or_eq_true ((s_cs H r k k).testBit t) with z | z
      · exact absurd (Or.inl z) hc
      · exact z
/-- while nothing is wrong, the last take of a thing ends last -/
theorem s_till_top {H : s_H} {nv : Option Nat} {r : Nat → Option Nat} : ∀ k, s_wrn H nv r k = none → ∀ h t, h < k → r h = some t → h + H.2.2.2 3 t ≤ s_till H r k t
  | 0, _, h, _, hh, _ => absurd hh (Nat.not_lt_zero h)
  | k + 1, hw, h, t, hh, hr => by
    obtain ⟨w1, w2⟩ := s_wrn_pre hw
    simp only [s_till]
    by_cases hk : r k = some t
    · rw [if_pos hk]
      by_cases hhk : h = k
      · subst hhk; exact Nat.le_refl _
      · have hb := (w2 t hk).1
        have : ¬ k < h + H.2.2.2 3 t := fun z => by
          rw [(s_cs_bit H r k t k).mpr ⟨h, by omega, hr, z⟩] at hb
          cases hb
        omega
    · rw [if_neg hk]
      have hhk : h ≠ k := fun z => hk (z ▸ hr)
      exact s_till_top k w1 h t (by omega) hr
theorem s_till_is {H : s_H} {r : Nat → Option Nat} {t : Nat} : ∀ k, s_till H r k t = 0 ∨ ∃ h, h < k ∧ r h = some t ∧ s_till H r k t = h + H.2.2.2 3 t
  | 0 => Or.inl rfl
  | k + 1 => by
    simp only [s_till]
    by_cases hk : r k = some t
    · rw [if_pos hk]
      exact Or.inr ⟨k, by omega, hk, rfl⟩
    · rw [if_neg hk]
      rcases s_till_is (H := H) (r := r) (t := t) k with h | ⟨h, h1, h2⟩
      · exact Or.inl h
      · exact Or.inr ⟨h, by omega, h2⟩
theorem s_cs_till {H : s_H} {nv : Option Nat} {r : Nat → Option Nat} {k : Nat} (hw : s_wrn H nv r k = none) (at_ t : Nat) : (s_cs H r at_ k).testBit t = decide (at_ < s_till H r k t) := by
  rw [Bool.eq_iff_iff, s_cs_bit, decide_eq_true_eq]
  constructor
  · rintro ⟨h, h1, h2, h3⟩
    have := s_till_top k hw h t h1 h2
    omega
  · intro hlt
    rcases s_till_is (H := H) (r := r) (t := t) k with h | ⟨h, h1, h2, h3⟩
    · omega
    · exact ⟨h, h1, h2, by omega⟩
/-- the cases, as the reference puts them together -/
theorem s_cs_set {H : s_H} {nv : Option Nat} {r : Nat → Option Nat} {k at_ : Nat} (hw : s_wrn H nv r k = none) (hr : ∀ h, h < k → ∀ t, r h = some t → t < H.1) : s_set (fun t => decide (at_ < s_till H r k t)) H.1 = s_cs H r at_ k := by
  apply Nat.eq_of_testBit_eq
  intro t
  rw [s_set_bit, ← s_cs_till hw at_ t]
  by_cases ht : t < H.1
  · simp [ht]
  · have : (s_cs H r at_ k).testBit t = false := by
      rcases Bool.eq_false_or_eq_true ((s_cs H r at_ k).testBit t) with z | z
      · obtain ⟨h, h1, h2, -⟩ := (s_cs_bit H r at_ t k).mp z
        exact absurd (hr h h1 t h2) ht
      · exact z
    simp [ht, this]
/-- how many uses are missed in hour h, of the first n things, by the cases cs -/
def s_mi (H : s_H) (cs h : Nat) : Nat → Nat
  | 0 => 0
  | n + 1 => if cs.testBit n = true ∧ (H.2.2.2 4 n).testBit h = true then s_mi H cs h n + 1 else s_mi H cs h n
def s_mm (H : s_H) (r : Nat → Option Nat) : Nat → Nat
  | 0 => 0
  | k + 1 => s_mm H r k + s_mi H (s_cs H r k (k + 1)) k H.1
theorem s_mi_le (H : s_H) (cs h : Nat) : ∀ n, s_mi H cs h n ≤ n
  | 0 => Nat.le_refl _
  | n + 1 => by
    have := s_mi_le H cs h n
    simp only [s_mi]
    split <;> omega
theorem s_last_cs {H : s_H} {r : Nat → Option Nat} {t k : Nat} (hr : r k = some t) : s_last H t (s_cs H r k (k + 1)) = s_last H t (s_cs H r k k) := by
  rw [Bool.eq_iff_iff]
  simp only [s_last, List.all_eq_true, List.mem_range, Bool.or_eq_true, decide_eq_true_eq]
  have e : ∀ x, x ≠ t → (s_cs H r k (k + 1)).testBit x = (s_cs H r k k).testBit x := by
    intro x hx
    rw [Bool.eq_iff_iff, s_cs_bit, s_cs_bit]
    constructor
    · rintro ⟨h, h1, h2, h3⟩
      have : h ≠ k := fun z => hx (by subst z; rw [hr] at h2; exact (Option.some.inj h2).symm)
      exact ⟨h, by omega, h2, h3⟩
    · rintro ⟨h, h1, h2⟩
      exact ⟨h, by omega, h2⟩
  constructor
  · intro q x hx
    rcases q x hx with z | z | z
    · exact Or.inl z
    · exact Or.inr (Or.inl z)
    · by_cases hxt : x = t
      · exact Or.inl hxt
      · exact Or.inr (Or.inr (by rw [← e x hxt]; exact z))
  · intro q x hx
    rcases q x hx with z | z | z
    · exact Or.inl z
    · exact Or.inr (Or.inl z)
    · by_cases hxt : x = t
      · exact Or.inl hxt
      · exact Or.inr (Or.inr (by rw [e x hxt]; exact z))
