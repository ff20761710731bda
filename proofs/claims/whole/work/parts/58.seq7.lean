/-! the walk is the arrivals, one after another: the proof -/
theorem s_walk_seq (H : s_H) (κ : s_K) : ∀ m, m ≤ 6 → ∀ p σ, s_rt H κ p (6 - m) = true → s_walk H κ m p (s_take H H.2.2.1 p (6 - m)) (s_miss H p (6 - m)) σ = s_seq (s_arv H κ (6 - m)) H.1 m p σ
  | 0, _, p, σ, h => by
    simp only [s_walk, s_seq, s_arv]
    rw [if_pos h, s_nt_6]
  | m + 1, hm, p, σ, h => by
    obtain ⟨k, hk⟩ : ∃ k, k = 5 - m := ⟨_, rfl⟩
    have e1 : 6 - (m + 1) = k := by omega
    have e2 : 6 - m = k + 1 := by omega
    rw [e1] at h ⊢
    have ih := fun p σ => s_walk_seq H κ m (by omega) p σ
    rw [e2] at ih
    have x1 : ∀ o x, x < k → s_ext p k o x = p x := fun o x hx => by rw [s_ext, if_neg (by omega)]
    have x2 : ∀ o, s_ext p k o k = o := fun o => by rw [s_ext, if_pos rfl]
    have go : ∀ o σ, s_rt H κ (s_ext p k o) (k + 1) = true → s_note k (o.getD 5) σ.1 (s_walk H κ m (s_ext p k o) (s_take H H.2.2.1 (s_ext p k o) (k + 1)) (s_miss H (s_ext p k o) (k + 1)) σ) = s_seq (s_arv H κ k) H.1 m (s_ext p k o) σ := by
      intro o σ ho
      rw [ih _ σ ho, (s_prs_seq (H := H) (κ := κ) (lo := k) (c := H.1) (by omega) m (by omega) (s_ext p k o) (by rw [x2])).1 σ]
    have no : ∀ o σ, s_rt H κ (s_ext p k o) (k + 1) = false → s_seq (s_arv H κ k) H.1 m (s_ext p k o) σ = σ := by
      intro o σ ho
      refine s_seq_none (by omega) (fun q hq σ => ?_) σ
      have h1 : s_rt H κ q (k + 1) = false := by rw [s_rt_same (p := s_ext p k o) (k + 1) (fun x hx => hq x (by omega))]; exact ho
      have h2 := s_rt_mono h1 (5 - k)
      rw [show k + 1 + (5 - k) = 6 by omega] at h2
      rw [s_arv, if_neg (by rw [h2]; decide)]
    have hr : ∀ o, s_rt H κ (s_ext p k o) k = true := fun o => by rw [s_rt_same (p := p) k (x1 o)]; exact h
    simp only [s_walk, s_seq, s_all]
    rw [← hk]
    have kn : ∀ σ, s_non (s_walk H κ m) κ p k (s_take H H.2.2.1 p k) (s_miss H p k) (s_cs H p k k) σ = s_seq (s_arv H κ k) H.1 m (s_ext p k none) σ := by
      intro σ
      have er : s_rt H κ (s_ext p k none) (k + 1) = s_fit κ k (s_cs H p k k) := by
        rw [s_rt, hr, x2, s_cs_same (p := p) k (x1 none), Bool.true_and]
      unfold s_non
      by_cases hf : s_fit κ k (s_cs H p k k) = true
      · rw [if_pos hf, ← go none σ (by rw [er]; exact hf)]
        simp only [s_take, s_miss, x2, s_take_same (p := p) k (x1 none), s_miss_same (p := p) k (x1 none)]
        rfl
      · rw [if_neg hf, no none σ (by rw [er]; simpa using hf)]
    have kt : ∀ t σ, s_one (s_walk H κ m) H κ p k (s_take H H.2.2.1 p k) (s_miss H p k) (s_cs H p k k) t σ = s_seq (s_arv H κ k) H.1 m (s_ext p k (some t)) σ := by
      intro t σ
      have er : s_rt H κ (s_ext p k (some t)) (k + 1) = (decide (κ.1 ≠ some t ∧ (s_cs H p k k).testBit t = false) && s_fit κ k (s_cs H p k k ||| 2 ^ t)) := by
        rw [s_rt, hr, x2, s_cs_same (p := p) k (x1 (some t)), Bool.true_and]
      unfold s_one
      by_cases hf : κ.1 ≠ some t ∧ (s_cs H p k k).testBit t = false ∧ s_fit κ k (s_cs H p k k ||| 2 ^ t) = true
      · rw [if_pos hf, ← go (some t) σ (by rw [er, hf.2.2, decide_eq_true ⟨hf.1, hf.2.1⟩]; rfl)]
        simp only [s_take, s_miss, x2, s_take_same (p := p) k (x1 (some t)), s_miss_same (p := p) k (x1 (some t)), s_cs_same (p := p) k (x1 (some t))]
        rfl
      · rw [if_neg hf, no (some t) σ]
        rw [er, Bool.and_eq_false_iff, decide_eq_false_iff_not]
        by_cases hg : κ.1 ≠ some t ∧ (s_cs H p k k).testBit t = false
        · refine Or.inr ?_
          rcases Bool.eq_false_or_eq_true (s_fit κ k (s_cs H p k k ||| 2 ^ t)) with z | z
          · exact absurd ⟨hg.1, hg.2, z⟩ hf
          · exact z
        · exact Or.inl hg
    rw [kn]
    exact s_fold_list _ _ (fun t _ σ => kt t σ)
