/-! best, worth, shift: the same by number -/
theorem s_best_num {H : s_H} (hok : s_ok H) (w : Option Nat) : (s_best H w).2.2.1 = s_tr (s_rn H.1 (s_bj H w)) ∧ (s_best H w).2.2.2.1 = (s_bst H w ((H.1 + 1) ^ 6)).2 := by
  have e : s_best H w = s_fo H (w, 30, fun _ => 0, fun _ => 0) ((H.1 + 1) ^ 6) := s_walk_fo H _
  rw [e]
  exact (s_bst_fo H w 30 _).2 _ (s_bj_of hok w).1
theorem op_best_num {h : Int32} {a : s_A} (hok : s_ok a.1) : op_best h a = opn_best h a := by
  obtain ⟨e1, e2⟩ := s_best_num hok none
  simp only [op_best, opn_best, e1, e2]
  by_cases q : s_rng h (-1) 5 = true
  · rw [if_pos q, if_pos q]
    by_cases hp : a.1.1 = 0
    · rw [if_pos hp, if_pos hp]
    · rw [if_neg hp, if_neg hp]
      by_cases h1 : h = -1
      · rw [if_pos h1, if_pos h1]
      · rw [if_neg h1, if_neg h1]
        by_cases h0 : 0 ≤ h
        · obtain ⟨y, hy, rfl⟩ := s_rng_05 q h0
          rw [ix_nI (by omega), s_tr_6 _ y hy]
        · exact absurd (s_rng_mm q h0) h1
  · rw [if_neg q, if_neg q]
theorem op_worth_num {t : Int32} {a : s_A} (hok : s_ok a.1) : op_worth t a = opn_worth t a := by
  simp only [op_worth, opn_worth, (s_best_num hok none).2, (s_best_num hok (some (ix t))).2]
theorem s_tk_same {p q : Nat → Option Nat} (t : Nat) : ∀ k, (∀ x, x < k → q x = p x) → s_tk q t k = s_tk p t k
  | 0, _ => rfl
  | k + 1, h => by simp only [s_tk, h k (by omega), s_tk_same t k (fun x hx => h x (by omega))]
theorem s_takes_num {H : s_H} (hok : s_ok H) (t : Nat) : s_takes H t = s_tkn H t := by
  rw [s_takes, (s_best_num hok none).1, s_tkn]
  exact s_tk_same t 6 (s_tr_6 _)
theorem s_ok_use {H : s_H} (h : s_ok H) {j u : Nat} (hu : u < 64) : s_ok (s_use H j u) := by
  obtain ⟨o1, o2, o3, o4⟩ := h
  refine ⟨o1, o2, o3, fun t ht => ?_⟩
  obtain ⟨g1, g2, g3, g4, g5⟩ := o4 t ht
  refine ⟨by simpa [s_use] using g1, by simpa [s_use] using g2, by simpa [s_use] using g3, by simpa [s_use] using g4, ?_⟩
  simp only [s_use]
  split
  · exact hu
  · exact g5
theorem s_clr_lt {u h : Nat} (hu : u < 64) : s_clr u h < 64 := Nat.lt_of_le_of_lt Nat.and_le_left hu
theorem s_shl_num {H : s_H} (hok : s_ok H) {j : Nat} (hu : H.2.2.2 4 j < 64) : ∀ k, s_shl H j k = s_shn H j k
  | 0 => by rw [s_shl, s_shn, s_takes_num hok]
  | k + 1 => by
    rw [s_shl, s_shn, s_shl_num hok hu k, s_takes_num (s_ok_use hok (s_clr_lt hu))]
theorem op_shift_num {t : Int32} {a : s_A} (hok : s_ok a.1) : op_shift t a = opn_shift t a := by
  simp only [op_shift, opn_shift]
  by_cases q : s_hb a t = true
  · obtain ⟨j, hj, rfl⟩ := s_hb_of hok.1 q
    rw [if_pos q, if_pos q, ix_nI (by have := hok.1; omega), s_shl_num hok (hok.2.2.2 j hj).2.2.2.2]
  · rw [if_neg q, if_neg q]
