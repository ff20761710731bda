/-! rounds by the readings: what fits is so -/
theorem s_mask_bit (rd : s_R) (b : Bool) (h t : Nat) : ∀ k, (s_mask rd b h k).testBit t = true ↔ ∃ i, i < k ∧ rd.2.2.2 i = b ∧ rd.2.2.1 i = h ∧ rd.2.1 i = t
  | 0 => by simp [s_mask]
  | k + 1 => by
    have ih := s_mask_bit rd b h t k
    simp only [s_mask]
    by_cases hc : rd.2.2.2 k = b ∧ rd.2.2.1 k = h
    · rw [if_pos hc, Nat.testBit_or, Bool.or_eq_true, ih, bt_2, decide_eq_true_eq]
      constructor
      · rintro (⟨i, h1, h2⟩ | h1)
        · exact ⟨i, by omega, h2⟩
        · exact ⟨k, by omega, hc.1, hc.2, h1⟩
      · rintro ⟨i, h1, h2, h3, h4⟩
        by_cases hik : i = k
        · subst hik; exact Or.inr h4
        · exact Or.inl ⟨i, by omega, h2, h3, h4⟩
    · rw [if_neg hc, ih]
      constructor
      · rintro ⟨i, h1, h2⟩
        exact ⟨i, by omega, h2⟩
      · rintro ⟨i, h1, h2, h3, h4⟩
        by_cases hik : i = k
        · subst hik; exact absurd ⟨h2, h3⟩ hc
        · exact ⟨i, by omega, h2, h3, h4⟩
def s_kr (rd : s_R) : s_K := (none, 30, fun h => s_mask rd true h rd.1, fun h => s_mask rd false h rd.1)
theorem s_fit_rd {rd : s_R} (h6 : ∀ i, i < rd.1 → rd.2.1 i < 6) (h cs : Nat) : s_fit (s_kr rd) h cs = true ↔ ∀ i, i < rd.1 → rd.2.2.1 i = h → cs.testBit (rd.2.1 i) = rd.2.2.2 i := by
  simp only [s_fit, s_kr, List.all_eq_true, List.mem_range, Bool.and_eq_true, Bool.or_eq_true, Bool.not_eq_true', Bool.and_eq_false_iff]
  constructor
  · intro H i hi hh
    obtain ⟨g1, g2⟩ := H (rd.2.1 i) (h6 i hi)
    cases hb : rd.2.2.2 i with
    | true =>
      have hm := (s_mask_bit rd true h (rd.2.1 i) rd.1).mpr ⟨i, hi, hb, hh, rfl⟩
      rcases g1 with g | g
      · rw [hm] at g; cases g
      · exact g
    | false =>
      have hm := (s_mask_bit rd false h (rd.2.1 i) rd.1).mpr ⟨i, hi, hb, hh, rfl⟩
      rcases g2 with g | g
      · rw [hm] at g; cases g
      · exact g
  · intro H t ht
    constructor
    · cases hm : (s_mask rd true h rd.1).testBit t with
      | false => exact Or.inl rfl
      | true =>
        obtain ⟨i, h1, h2, h3, h4⟩ := (s_mask_bit rd true h t rd.1).mp hm
        have := H i h1 h3
        rw [h4, h2] at this
        exact Or.inr this
    · cases hm : (s_mask rd false h rd.1).testBit t with
      | false => exact Or.inl rfl
      | true =>
        obtain ⟨i, h1, h2, h3, h4⟩ := (s_mask_bit rd false h t rd.1).mp hm
        have := H i h1 h3
        rw [h4, h2] at this
        exact Or.inr this
theorem s_so_iff {H : s_H} {rd : s_R} {r : Nat → Option Nat} : ∀ n, s_so H rd r n = true ↔ s_wrong H r 6 = none ∧ ∀ i, i < n → (s_cs H r (rd.2.2.1 i) (rd.2.2.1 i + 1)).testBit (rd.2.1 i) = rd.2.2.2 i
  | 0 => by
    simp only [s_so, Option.isNone_iff_eq_none]
    exact ⟨fun h => ⟨h, fun i hi => absurd hi (Nat.not_lt_zero i)⟩, fun h => h.1⟩
  | n + 1 => by
    rw [s_so, Bool.and_eq_true, s_so_iff n, beq_iff_eq]
    constructor
    · rintro ⟨⟨h1, h2⟩, h3⟩
      refine ⟨h1, fun i hi => ?_⟩
      by_cases hin : i = n
      · subst hin; exact h3
      · exact h2 i (by omega)
    · rintro ⟨h1, h2⟩
      exact ⟨⟨h1, fun i hi => h2 i (by omega)⟩, h2 n (by omega)⟩
