/-! completions: what holds of all of them -/
theorem s_fold_list {α : Type} {f g : α → Nat → α} : ∀ (l : List Nat) (σ : α), (∀ i, i ∈ l → ∀ σ, f σ i = g σ i) → l.foldl f σ = l.foldl g σ
  | [], _, _ => rfl
  | a :: l, σ, h => by
    rw [List.foldl_cons, List.foldl_cons, h a List.mem_cons_self, s_fold_list l _ (fun i hi => h i (List.mem_cons_of_mem _ hi))]
/-- completions of p agree with it before its last m hours, and hold things of the house -/
theorem s_seq_congr {α : Type} {F G : (Nat → Option Nat) → α → α} {c : Nat} : ∀ m, m ≤ 6 → ∀ p σ, (∀ q, (∀ x, x < 6 - m → q x = p x) → (∀ x, 6 - m ≤ x → x < 6 → ∀ t, q x = some t → t < c) → ∀ σ, F q σ = G q σ) → s_seq F c m p σ = s_seq G c m p σ
  | 0, _, p, σ, h => h p (fun _ _ => rfl) (fun x h1 h2 => by omega) σ
  | m + 1, hm, p, σ, h => by
    have key : ∀ o : Option Nat, (∀ t, o = some t → t < c) → ∀ σ, s_seq F c m (s_ext p (5 - m) o) σ = s_seq G c m (s_ext p (5 - m) o) σ := by
      intro o ho σ
      refine s_seq_congr m (by omega) _ σ (fun q h1 h2 σ => h q (fun x hx => ?_) (fun x hx hx2 t ht => ?_) σ)
      · rw [h1 x (by omega), s_ext, if_neg (by omega)]
      · by_cases h3 : x = 5 - m
        · have := h1 x (by omega)
          rw [s_ext, if_pos h3, ht] at this
          exact ho t this.symm
        · exact h2 x (by omega) hx2 t ht
    simp only [s_seq]
    rw [key none (fun t ht => by cases ht)]
    exact s_fold_list _ _ (fun t ht σ => key (some t) (fun y hy => by cases hy; exact List.mem_range.mp ht) σ)
theorem s_fold_id {α : Type} : ∀ (l : List Nat) (σ : α), l.foldl (fun σ _ => σ) σ = σ
  | [], _ => rfl
  | _ :: l, σ => s_fold_id l σ
theorem s_seq_id {α : Type} (c : Nat) : ∀ m (p : Nat → Option Nat) (σ : α), s_seq (fun _ σ => σ) c m p σ = σ
  | 0, _, _ => rfl
  | m + 1, p, σ => by
    simp only [s_seq, s_seq_id c m]
    exact s_fold_id _ σ
/-- where no completion does anything -/
theorem s_seq_none {α : Type} {F : (Nat → Option Nat) → α → α} {c m : Nat} (hm : m ≤ 6) {p : Nat → Option Nat} (h : ∀ q, (∀ x, x < 6 - m → q x = p x) → ∀ σ, F q σ = σ) (σ : α) : s_seq F c m p σ = σ := by
  rw [s_seq_congr (G := fun _ σ => σ) m hm p σ (fun q h1 _ σ => h q h1 σ), s_seq_id]
