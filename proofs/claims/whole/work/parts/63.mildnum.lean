/-! mild: the same by number -/
theorem s_mld_fo (H : s_H) (v : Nat) : ∀ n, (s_fo H (none, v, fun _ => 0, fun _ => 0) n).2.2.2.2.1 = s_mld H v n
  | 0 => rfl
  | n + 1 => by
    have ih := s_mld_fo H v n
    rw [s_fo_step, s_wrn_none]
    simp only [s_mld]
    by_cases hw : s_wrong H (s_rn H.1 n) 6 = none
    · rw [if_pos hw]
      simp only [s_nt, s_arr, ih, Bool.and_eq_true, decide_eq_true_eq]
      by_cases hc : s_miss H (s_rn H.1 n) 6 ≤ v ∧ s_mld H v n < s_take H H.2.2.1 (s_rn H.1 n) 6
      · rw [if_pos hc, if_pos ⟨⟨hw, hc.1⟩, hc.2⟩]
      · rw [if_neg hc, if_neg (fun z => hc ⟨z.1.2, z.2⟩)]
    · rw [if_neg hw, ih, if_neg (fun z => by
        have := z.1
        rw [Bool.and_eq_true, decide_eq_true_eq] at this
        exact hw this.1)]
theorem op_mild_num {v : Int32} {a : s_A} : op_mild v a = opn_mild v a := by
  have e : ∀ y, (s_mild a.1 y).2.2.2.2.1 = s_mld a.1 y ((a.1.1 + 1) ^ 6) := fun y => by
    rw [s_mild, s_walk_fo, s_mld_fo]
  simp only [op_mild, opn_mild, e]
