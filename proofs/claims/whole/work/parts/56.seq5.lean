/-! what arrives, round by round -/
/-- the first k hours are right, hold not what never is to be held, and fit -/
def s_rt (H : s_H) (κ : s_K) (r : Nat → Option Nat) : Nat → Bool
  | 0 => true
  | k + 1 => s_rt H κ r k && (match r k with
    | none => s_fit κ k (s_cs H r k k)
    | some t => decide (κ.1 ≠ some t ∧ (s_cs H r k k).testBit t = false) && s_fit κ k (s_cs H r k k ||| 2 ^ t))
def s_nt (lo : Nat) (r : Nat → Option Nat) (σ : s_S) : s_S := (σ.1, σ.2.1, σ.2.2.1, σ.2.2.2.1, σ.2.2.2.2.1, fun x => if lo ≤ x ∧ x < 6 then σ.2.2.2.2.2 x ||| 2 ^ ((r x).getD 5) else σ.2.2.2.2.2 x)
def s_arv (H : s_H) (κ : s_K) (lo : Nat) (r : Nat → Option Nat) (σ : s_S) : s_S := if s_rt H κ r 6 = true then s_nt lo r (s_arr κ H.2.1 r (s_take H H.2.2.1 r 6) (s_miss H r 6) σ) else σ
theorem s_nt_n1 (lo : Nat) (hlo : lo < 6) (r : Nat → Option Nat) (σ : s_S) : s_nt lo r σ = s_n1 lo ((r lo).getD 5) (s_nt (lo + 1) r σ) := by
  unfold s_nt s_n1
  simp only [Prod.mk.injEq, true_and]
  funext x
  by_cases hx : x = lo
  · subst hx
    rw [if_pos ⟨Nat.le_refl _, hlo⟩, if_pos rfl, if_neg (by omega)]
  · rw [if_neg hx]
    by_cases h1 : lo + 1 ≤ x ∧ x < 6
    · rw [if_pos h1, if_pos ⟨by omega, h1.2⟩]
    · rw [if_neg h1, if_neg (fun z => h1 ⟨by omega, z.2⟩)]
theorem s_prs_arv {H : s_H} {κ : s_K} {lo b : Nat} (hlo : lo < 6) {r : Nat → Option Nat} (hb : (r lo).getD 5 = b) : s_prs lo b (s_arv H κ lo r) (s_arv H κ (lo + 1) r) := by
  refine ⟨fun σ => ?_, fun σ => ?_, fun σ => ?_⟩
  · unfold s_arv
    split
    · rw [s_nt_n1 lo hlo, hb, s_note_n1, if_pos (by simp [s_nt, s_arr])]
    · rw [s_note_n1, if_neg (by simp)]
  · unfold s_arv
    split
    · simp [s_nt, s_arr]
    · exact Nat.le_refl _
  · unfold s_arv
    split
    · unfold s_nt s_arr s_n1
      simp only [Prod.mk.injEq, true_and]
      funext x
      by_cases hx : x = lo
      · subst hx
        rw [if_neg (by omega), if_pos rfl, if_pos rfl, if_neg (by omega)]
      · simp only [if_neg hx]
    · rfl
theorem s_prs_seq {H : s_H} {κ : s_K} {lo b c : Nat} (hlo : lo < 6) : ∀ m, lo + 1 + m ≤ 6 → ∀ p, (p lo).getD 5 = b → s_prs lo b (s_seq (s_arv H κ lo) c m p) (s_seq (s_arv H κ (lo + 1)) c m p)
  | 0, _, p, hp => s_prs_arv hlo hp
  | m + 1, hm, p, hp => by
    have key : ∀ o, s_prs lo b (s_seq (s_arv H κ lo) c m (s_ext p (5 - m) o)) (s_seq (s_arv H κ (lo + 1)) c m (s_ext p (5 - m) o)) := fun o =>
      s_prs_seq hlo m (by omega) _ (by rw [s_ext, if_neg (by omega)]; exact hp)
    have fold := s_prs_fold (h := lo) (b := b) (f' := fun σ t => s_seq (s_arv H κ lo) c m (s_ext p (5 - m) (some t)) σ) (f := fun σ t => s_seq (s_arv H κ (lo + 1)) c m (s_ext p (5 - m) (some t)) σ) (List.range c) (fun t _ => key (some t))
    have cmp := s_prs_cmp (A' := s_seq (s_arv H κ lo) c m (s_ext p (5 - m) none)) (A := s_seq (s_arv H κ (lo + 1)) c m (s_ext p (5 - m) none)) (key none) fold
    exact cmp
