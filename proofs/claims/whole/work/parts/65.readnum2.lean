/-! rounds by the readings, by number: op_rounds, op_sure -/
theorem s_cs_nx {H : s_H} {r : Nat → Option Nat} {k t : Nat} (hok : s_ok H) (hr : r k = some t) (ht : t < H.1) : s_cs H r k (k + 1) = s_cs H r k k ||| 2 ^ t := by
  have h3 := (hok.2.2.2 t ht).2.2.2.1.1
  simp only [s_cs, hr]
  rw [if_pos (by omega)]
theorem s_rt_rd {H : s_H} {rd : s_R} {r : Nat → Option Nat} (hok : s_ok H) (hr : ∀ h, h < 6 → ∀ t, r h = some t → t < H.1) : ∀ k, k ≤ 6 → (s_rt H (s_kr rd) r k = true ↔ s_wrong H r k = none ∧ ∀ h, h < k → s_fit (s_kr rd) h (s_cs H r h (h + 1)) = true)
  | 0, _ => ⟨fun _ => ⟨rfl, fun h hh => absurd hh (Nat.not_lt_zero h)⟩, fun _ => rfl⟩
  | k + 1, hk => by
    have ih := s_rt_rd (rd := rd) hok hr k (by omega)
    have e : (∀ h, h < k + 1 → s_fit (s_kr rd) h (s_cs H r h (h + 1)) = true) ↔ (∀ h, h < k → s_fit (s_kr rd) h (s_cs H r h (h + 1)) = true) ∧ s_fit (s_kr rd) k (s_cs H r k (k + 1)) = true := by
      constructor
      · exact fun h => ⟨fun x hx => h x (by omega), h k (by omega)⟩
      · rintro ⟨h1, h2⟩ x hx
        by_cases z : x = k
        · subst z; exact h2
        · exact h1 x (by omega)
    rw [e, s_rt, Bool.and_eq_true, ih]
    cases hz : r k with
    | none =>
      have e2 : s_cs H r k (k + 1) = s_cs H r k k := by simp only [s_cs, hz]
      have e3 : s_wrong H r (k + 1) = none ↔ s_wrong H r k = none := by
        simp only [s_wrong, hz]
        cases s_wrong H r k <;> simp
      rw [e2, e3]
      exact and_assoc
    | some t =>
      have ht := hr k (by omega) t hz
      rw [s_cs_nx hok hz ht]
      have e3 : s_wrong H r (k + 1) = none ↔ s_wrong H r k = none ∧ (s_cs H r k k).testBit t = false := by
        simp only [s_wrong, hz]
        cases s_wrong H r k with
        | some x => simp
        | none => cases (s_cs H r k k).testBit t <;> simp
      rw [e3, Bool.and_eq_true, decide_eq_true_eq]
      constructor
      · rintro ⟨⟨h1, h2⟩, ⟨-, h3⟩, h4⟩
        exact ⟨⟨h1, h3⟩, h2, h4⟩
      · rintro ⟨⟨h1, h3⟩, h2, h4⟩
        exact ⟨⟨h1, h2⟩, ⟨(fun z => by cases z), h3⟩, h4⟩
theorem s_rt_so {H : s_H} {rd : s_R} {r : Nat → Option Nat} (hok : s_ok H) (hr : ∀ h, h < 6 → ∀ t, r h = some t → t < H.1) (hrd : ∀ i, i < rd.1 → rd.2.1 i < 6 ∧ rd.2.2.1 i < 6) : s_rt H (s_kr rd) r 6 = s_so H rd r rd.1 := by
  rw [Bool.eq_iff_iff, s_rt_rd hok hr 6 (Nat.le_refl _), s_so_iff]
  refine and_congr Iff.rfl ⟨fun h i hi => ?_, fun h x hx => ?_⟩
  · exact (s_fit_rd (fun i hi => (hrd i hi).1) _ _).mp (h _ (hrd i hi).2) i hi rfl
  · refine (s_fit_rd (fun i hi => (hrd i hi).1) _ _).mpr (fun i hi hx2 => ?_)
    have := h i hi
    rw [hx2] at this
    exact this
theorem s_fo_rd {H : s_H} {rd : s_R} (hok : s_ok H) (hrd : ∀ i, i < rd.1 → rd.2.1 i < 6 ∧ rd.2.2.1 i < 6) (n : Nat) : s_fo H (s_kr rd) (n + 1) = if s_so H rd (s_rn H.1 n) rd.1 = true then s_nt 0 (s_tr (s_rn H.1 n)) (s_arr (s_kr rd) H.2.1 (s_tr (s_rn H.1 n)) (s_take H H.2.2.1 (s_tr (s_rn H.1 n)) 6) (s_miss H (s_tr (s_rn H.1 n)) 6) (s_fo H (s_kr rd) n)) else s_fo H (s_kr rd) n := by
  rw [s_fo, s_arv, s_rt_same (p := s_rn H.1 n) 6 (s_tr_6 _), s_rt_so hok (fun h hh t ht => s_rn_lt ht) hrd]
theorem s_rds_fo {H : s_H} {rd : s_R} (hok : s_ok H) (hrd : ∀ i, i < rd.1 → rd.2.1 i < 6 ∧ rd.2.2.1 i < 6) : ∀ n, (s_fo H (s_kr rd) n).1 = (s_rds H rd n).1 ∧ ((s_rds H rd n).1 = 0 ↔ (s_rds H rd n).2 = none) ∧ (s_fo H (s_kr rd) n).2.1 = ((s_rds H rd n).2.map (fun j => s_tr (s_rn H.1 j))).getD s_N ∧ ∀ h, h < 6 → (s_fo H (s_kr rd) n).2.2.2.2.2 h = s_sre H rd h n
  | 0 => ⟨rfl, ⟨fun _ => rfl, fun _ => rfl⟩, rfl, fun h _ => rfl⟩
  | n + 1 => by
    obtain ⟨i1, i2, i3, i4⟩ := s_rds_fo hok hrd n
    rw [s_fo_rd hok hrd]
    simp only [s_rds, s_sre]
    by_cases hs : s_so H rd (s_rn H.1 n) rd.1 = true
    · simp only [if_pos hs, s_nt, s_arr]
      refine ⟨by rw [i1], ⟨fun z => absurd z (Nat.succ_ne_zero _), fun z => ?_⟩, ?_, fun h hh => ?_⟩
      · cases hz : (s_rds H rd n).2 <;> rw [hz] at z <;> cases z
      · cases hz : (s_rds H rd n).2 with
        | none => rw [i1, if_pos (i2.mpr hz)]; rfl
        | some j => rw [i1, if_neg (fun y => by rw [i2.mp y] at hz; cases hz), i3, hz]
      · rw [if_pos ⟨Nat.zero_le _, hh⟩, i4 h hh, s_tr_6 _ h hh]
    · simp only [if_neg hs]
      exact ⟨i1, i2, i3, i4⟩
theorem s_read_fo (H : s_H) (rd : s_R) : s_read H rd = s_fo H (s_kr rd) ((H.1 + 1) ^ 6) := s_walk_fo H _
theorem s_rn_00 (c x : Nat) : s_rn c 0 x = none := by
  simp [s_rn]
theorem op_rounds_num {h : Int32} {a : s_A} (hok : s_ok a.1) (hrd : ∀ i, i < a.2.1.1 → a.2.1.2.1 i < 6 ∧ a.2.1.2.2.1 i < 6) : op_rounds h a = opn_rounds h a := by
  obtain ⟨e1, e2, e3, e4⟩ := s_rds_fo hok hrd ((a.1.1 + 1) ^ 6)
  simp only [op_rounds, opn_rounds, s_read_fo, e1, e3]
  by_cases q : s_rng h (-1) 5 = true
  · rw [if_pos q, if_pos q]
    by_cases hp : a.1.1 = 0
    · rw [if_pos hp, if_pos hp]
    · rw [if_neg hp, if_neg hp]
      by_cases h1 : h = -1
      · rw [if_pos h1, if_pos h1]
      · rw [if_neg h1, if_neg h1]
        by_cases h0 : 0 ≤ h
        · obtain ⟨y, hy, rfl⟩ := s_rng_05 q h0
          rw [ix_nI (by omega)]
          cases hz : (s_rds a.1 a.2.1 ((a.1.1 + 1) ^ 6)).2 with
          | none =>
            show (s_rI none, a) = (s_rI (s_rn a.1.1 0 y), a)
            rw [s_rn_00]
          | some j =>
            show (s_rI (s_tr (s_rn a.1.1 j) y), a) = (s_rI (s_rn a.1.1 j y), a)
            rw [s_tr_6 _ y hy]
        · exact absurd (s_rng_mm q h0) h1
  · rw [if_neg q, if_neg q]
theorem op_sure_num {h : Int32} {a : s_A} (hok : s_ok a.1) (hrd : ∀ i, i < a.2.1.1 → a.2.1.2.1 i < 6 ∧ a.2.1.2.2.1 i < 6) : op_sure h a = opn_sure h a := by
  obtain ⟨e1, e2, e3, e4⟩ := s_rds_fo hok hrd ((a.1.1 + 1) ^ 6)
  simp only [op_sure, opn_sure, s_read_fo]
  by_cases q : s_rng h 0 5 = true
  · rw [if_pos q, if_pos q]
    obtain ⟨j, hj, rfl⟩ := s_rng_of (n := 5) q
    rw [ix_nI (by omega), e4 j (by omega)]
  · rw [if_neg q, if_neg q]
