/-! by their hours is by their numbers -/
theorem s_rn_top {c m d i : Nat} (hm : m ≤ 5) (hi : i < (c + 1) ^ m) (hd : d < c + 1) : s_rn c (d * (c + 1) ^ m + i) (5 - m) = s_dgt d := by
  have hN : 0 < (c + 1) ^ m := Nat.pow_pos (by omega)
  have e : (d * (c + 1) ^ m + i) / (c + 1) ^ (5 - (5 - m)) % (c + 1) = d := by
    rw [show 5 - (5 - m) = m by omega, Nat.add_comm, Nat.add_mul_div_right _ _ hN, Nat.div_eq_of_lt hi, Nat.zero_add, Nat.mod_eq_of_lt hd]
  simp only [s_rn, e, s_dgt]
theorem s_rn_low {c m d i x : Nat} (hm : m ≤ 5) (hx : 5 - m < x) (hx2 : x < 6) : s_rn c (d * (c + 1) ^ m + i) x = s_rn c i x := by
  have hN : 0 < (c + 1) ^ (5 - x) := Nat.pow_pos (by omega)
  have e : (d * (c + 1) ^ m + i) / (c + 1) ^ (5 - x) % (c + 1) = i / (c + 1) ^ (5 - x) % (c + 1) := by
    have e1 : d * (c + 1) ^ m = d * (c + 1) ^ (m - (5 - x) - 1) * (c + 1) * (c + 1) ^ (5 - x) := by
      rw [Nat.mul_assoc, Nat.mul_assoc, Nat.mul_comm (c + 1), ← Nat.pow_succ, ← Nat.pow_add, show m - (5 - x) - 1 + (5 - x + 1) = m by omega]
    rw [e1, Nat.add_comm, Nat.add_mul_div_right _ _ hN, Nat.add_mul_mod_self_right]
  simp only [s_rn, e]
/-- F minds the six hours only -/
def s_six {α : Type} (F : (Nat → Option Nat) → α → α) : Prop := ∀ p q σ, (∀ x, x < 6 → p x = q x) → F p σ = F q σ
theorem s_fold_congr {α : Type} {f g : α → Nat → α} : ∀ (n : Nat) (σ : α), (∀ i, i < n → ∀ σ, f σ i = g σ i) → (List.range n).foldl f σ = (List.range n).foldl g σ
  | 0, _, _ => rfl
  | n + 1, σ, h => by
    rw [List.range_succ, List.foldl_append, List.foldl_append, s_fold_congr n σ (fun i hi => h i (by omega))]
    exact h n (by omega) _
theorem s_seq_num {α : Type} {F : (Nat → Option Nat) → α → α} (hF : s_six F) (c : Nat) : ∀ m, m ≤ 6 → ∀ p σ, s_seq F c m p σ = (List.range ((c + 1) ^ m)).foldl (fun σ i => F (s_num c m p i) σ) σ
  | 0, _, p, σ => by
    simp only [s_seq, Nat.pow_zero, List.range_one, List.foldl_cons, List.foldl_nil]
    refine hF _ _ _ (fun x hx => ?_)
    rw [s_num, if_neg (by omega)]
  | m + 1, hm, p, σ => by
    rw [s_seq_d, Nat.pow_succ, Nat.mul_comm, s_blk]
    refine s_fold_congr _ _ (fun d hd σ => ?_)
    rw [s_seq_num hF c m (by omega)]
    refine s_fold_congr _ _ (fun i hi σ => ?_)
    refine hF _ _ _ (fun x hx => ?_)
    unfold s_num s_ext
    by_cases h1 : 6 - m ≤ x
    · rw [if_pos h1, if_pos (by omega), s_rn_low (by omega) (by omega) hx]
    · rw [if_neg h1]
      by_cases h2 : x = 5 - m
      · rw [if_pos h2, if_pos (by omega), h2, s_rn_top (by omega) hi hd]
      · rw [if_neg h2, if_neg (by omega)]
/-- from the beginning: every number's round, in the order of the numbers -/
theorem s_seq_all {α : Type} {F : (Nat → Option Nat) → α → α} (hF : s_six F) (c : Nat) (p : Nat → Option Nat) (σ : α) : s_seq F c 6 p σ = (List.range ((c + 1) ^ 6)).foldl (fun σ i => F (s_rn c i) σ) σ := by
  rw [s_seq_num hF c 6 (Nat.le_refl _)]
  refine s_fold_congr _ _ (fun i _ σ => hF _ _ _ (fun x _ => ?_))
  rw [s_num, if_pos (by omega)]
