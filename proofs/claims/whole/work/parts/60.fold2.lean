/-! the searches, by number: rows cut to six hours -/
def s_tr (r : Nat → Option Nat) : Nat → Option Nat := fun x => if x < 6 then r x else none
theorem s_tr_eq {p q : Nat → Option Nat} (h : ∀ x, x < 6 → p x = q x) : s_tr p = s_tr q := by
  funext x
  unfold s_tr
  by_cases hx : x < 6
  · rw [if_pos hx, if_pos hx, h x hx]
  · rw [if_neg hx, if_neg hx]
theorem s_six_tr {α : Type} (F : (Nat → Option Nat) → α → α) : s_six (fun r => F (s_tr r)) := fun p q σ h => by
  show F (s_tr p) σ = F (s_tr q) σ
  rw [s_tr_eq h]
theorem s_seq_tr {α : Type} {F : (Nat → Option Nat) → α → α} {c : Nat} : ∀ m, m ≤ 6 → ∀ p σ, (∀ x, 6 ≤ x → p x = none) → s_seq F c m p σ = s_seq (fun r => F (s_tr r)) c m p σ
  | 0, _, p, σ, h => by
    have e : s_tr p = p := by
      funext x
      unfold s_tr
      by_cases hx : x < 6
      · rw [if_pos hx]
      · rw [if_neg hx, h x (by omega)]
    simp only [s_seq, e]
  | m + 1, hm, p, σ, h => by
    have key : ∀ o σ, s_seq F c m (s_ext p (5 - m) o) σ = s_seq (fun r => F (s_tr r)) c m (s_ext p (5 - m) o) σ := fun o σ =>
      s_seq_tr m (by omega) _ σ (fun x hx => by rw [s_ext, if_neg (by omega)]; exact h x hx)
    simp only [s_seq]
    rw [key none]
    exact s_fold_list _ _ (fun t _ σ => key (some t) σ)
/-- a walk from the beginning is the fold over all numbers -/
theorem s_walk_num (H : s_H) (κ : s_K) (σ : s_S) : s_walk H κ 6 s_N 0 0 σ = (List.range ((H.1 + 1) ^ 6)).foldl (fun σ i => s_arv H κ 0 (s_tr (s_rn H.1 i)) σ) σ := by
  have e := s_walk_seq H κ 6 (Nat.le_refl _) s_N σ rfl
  have e2 := s_seq_tr (F := s_arv H κ 0) (c := H.1) 6 (Nat.le_refl _) s_N σ (fun _ _ => rfl)
  have e3 := s_seq_all (s_six_tr (s_arv H κ 0)) H.1 s_N σ
  exact e.trans (e2.trans e3)
