/-! the searches, by number -/
theorem s_fit_0 (h cs : Nat) (w : Option Nat) (v : Nat) : s_fit (w, v, fun _ => 0, fun _ => 0) h cs = true := by
  simp [s_fit]
theorem s_rt_wrn {H : s_H} {w : Option Nat} {v : Nat} {r : Nat → Option Nat} : ∀ k, s_rt H (w, v, fun _ => 0, fun _ => 0) r k = (s_wrn H w r k).isNone
  | 0 => rfl
  | k + 1 => by
    have ih := s_rt_wrn (H := H) (w := w) (v := v) (r := r) k
    simp only [s_rt, s_wrn, ih, s_fit_0]
    cases hz : s_wrn H w r k with
    | some x => rfl
    | none =>
      cases hr : r k with
      | none => rfl
      | some t =>
        simp only [Option.isNone_none, Bool.true_and, Bool.and_true]
        by_cases hc : (s_cs H r k k).testBit t = true ∨ w = some t
        · rw [if_pos hc, decide_eq_false (fun z => hc.elim (fun y => by rw [z.2] at y; cases y) z.1)]
          rfl
        · rw [if_neg hc, decide_eq_true ⟨fun z => hc (Or.inr z), by
            rcases Bool.eq_false_or_eq_true ((s_cs H r k k).testBit t) with z | z
            · exact absurd (Or.inl z) hc
            · exact z⟩]
          rfl
