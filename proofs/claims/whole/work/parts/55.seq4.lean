/-! noting an hour behind, or at each arrival -/
/-- note b in hour h, whatever the count -/
def s_n1 (h b : Nat) (σ : s_S) : s_S := (σ.1, σ.2.1, σ.2.2.1, σ.2.2.2.1, σ.2.2.2.2.1, fun x => if x = h then σ.2.2.2.2.2 h ||| 2 ^ b else σ.2.2.2.2.2 x)
theorem s_note_n1 (h b c : Nat) (σ : s_S) : s_note h b c σ = if c < σ.1 then s_n1 h b σ else σ := rfl
theorem s_n1_n1 (h b : Nat) (σ : s_S) : s_n1 h b (s_n1 h b σ) = s_n1 h b σ := by
  unfold s_n1
  simp only [Prod.mk.injEq, true_and]
  funext x
  by_cases hx : x = h
  · simp [hx, Nat.or_assoc]
  · simp [hx]
/-- A' is A, with b noted in hour h wherever A counts -/
def s_prs (h b : Nat) (A' A : s_S → s_S) : Prop := (∀ σ, A' σ = s_note h b σ.1 (A σ)) ∧ (∀ σ, σ.1 ≤ (A σ).1) ∧ ∀ σ, A (s_n1 h b σ) = s_n1 h b (A σ)
theorem s_prs_id (h b : Nat) : s_prs h b id id := ⟨fun σ => by rw [s_note_n1, if_neg (by simp)], fun σ => Nat.le_refl _, fun σ => rfl⟩
theorem s_prs_cmp {h b : Nat} {A' A B' B : s_S → s_S} (hA : s_prs h b A' A) (hB : s_prs h b B' B) : s_prs h b (fun σ => B' (A' σ)) (fun σ => B (A σ)) := by
  obtain ⟨a1, a2, a3⟩ := hA
  obtain ⟨b1, b2, b3⟩ := hB
  refine ⟨fun σ => ?_, fun σ => Nat.le_trans (a2 σ) (b2 _), fun σ => by show B (A (s_n1 h b σ)) = s_n1 h b (B (A σ)); rw [a3, b3]⟩
  have m1 := a2 σ
  have m2 := b2 (A σ)
  show B' (A' σ) = s_note h b σ.1 (B (A σ))
  have e1 : A' σ = if σ.1 < (A σ).1 then s_n1 h b (A σ) else A σ := a1 σ
  have e2 : ∀ τ, B' τ = if τ.1 < (B τ).1 then s_n1 h b (B τ) else B τ := b1
  rw [e1, e2, s_note_n1]
  by_cases h1 : σ.1 < (A σ).1
  · rw [if_pos h1, b3, if_pos (show σ.1 < (B (A σ)).1 by omega), s_n1_n1]
    split <;> rfl
  · rw [if_neg h1]
    by_cases h2 : (A σ).1 < (B (A σ)).1
    · rw [if_pos h2, if_pos (by omega)]
    · rw [if_neg h2, if_neg (by omega)]
theorem s_prs_fold {h b : Nat} {f' f : s_S → Nat → s_S} : ∀ (l : List Nat), (∀ i, i ∈ l → s_prs h b (fun σ => f' σ i) (fun σ => f σ i)) → s_prs h b (fun σ => l.foldl f' σ) (fun σ => l.foldl f σ)
  | [], _ => s_prs_id h b
  | a :: l, H => s_prs_cmp (H a List.mem_cons_self) (s_prs_fold l (fun i hi => H i (List.mem_cons_of_mem _ hi)))
