/-! the walk is the arrivals, one after another -/
theorem s_cs_same {H : s_H} {p q : Nat → Option Nat} {at_ : Nat} : ∀ k, (∀ x, x < k → q x = p x) → s_cs H q at_ k = s_cs H p at_ k
  | 0, _ => rfl
  | k + 1, h => by simp only [s_cs, h k (by omega), s_cs_same k (fun x hx => h x (by omega))]
theorem s_rt_same {H : s_H} {κ : s_K} {p q : Nat → Option Nat} : ∀ k, (∀ x, x < k → q x = p x) → s_rt H κ q k = s_rt H κ p k
  | 0, _ => rfl
  | k + 1, h => by simp only [s_rt, h k (by omega), s_rt_same k (fun x hx => h x (by omega)), s_cs_same k (fun x hx => h x (by omega))]
theorem s_take_same {H : s_H} {lw : Nat} {p q : Nat → Option Nat} : ∀ k, (∀ x, x < k → q x = p x) → s_take H lw q k = s_take H lw p k
  | 0, _ => rfl
  | k + 1, h => by simp only [s_take, h k (by omega), s_take_same k (fun x hx => h x (by omega)), s_cs_same k (fun x hx => h x (by omega))]
theorem s_miss_same {H : s_H} {p q : Nat → Option Nat} : ∀ k, (∀ x, x < k → q x = p x) → s_miss H q k = s_miss H p k
  | 0, _ => rfl
  | k + 1, h => by simp only [s_miss, h k (by omega), s_miss_same k (fun x hx => h x (by omega))]
theorem s_rt_mono {H : s_H} {κ : s_K} {r : Nat → Option Nat} {j : Nat} (h : s_rt H κ r j = false) : ∀ k, s_rt H κ r (j + k) = false
  | 0 => h
  | k + 1 => by rw [← Nat.add_assoc, s_rt, s_rt_mono h k, Bool.false_and]
theorem s_nt_6 (r : Nat → Option Nat) (σ : s_S) : s_nt 6 r σ = σ := by
  unfold s_nt
  have e : (fun x => if 6 ≤ x ∧ x < 6 then σ.2.2.2.2.2 x ||| 2 ^ ((r x).getD 5) else σ.2.2.2.2.2 x) = σ.2.2.2.2.2 := by
    funext x
    rw [if_neg (by omega)]
  rw [e]
