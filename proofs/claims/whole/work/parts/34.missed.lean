/-! missed uses: hour by hour, and take by take, are the same -/
/-- how many of the hours below n are in a -/
def s_pc (a : Nat) : Nat → Nat
  | 0 => 0
  | n + 1 => if a.testBit n = true then s_pc a n + 1 else s_pc a n
theorem s_pop_pc : ∀ a, a < 64 → s_pop a = s_pc a 6 := by decide +kernel
/-- uses of thing t in the hours from k on to n, n left out, that f holds -/
def s_fu (f : Nat → Bool) (u k : Nat) : Nat → Nat
  | 0 => 0
  | n + 1 => if k ≤ n ∧ (f n = true ∧ u.testBit n = true) then s_fu f u k n + 1 else s_fu f u k n
theorem s_fu_congr {f g : Nat → Bool} {u k : Nat} : ∀ n, (∀ h, k ≤ h → h < n → f h = g h) → s_fu f u k n = s_fu g u k n
  | 0, _ => rfl
  | n + 1, h => by
    have ih := s_fu_congr (u := u) n (fun x h1 h2 => h x h1 (by omega))
    simp only [s_fu]
    by_cases hk : k ≤ n
    · rw [h n hk (by omega), ih]
    · rw [if_neg (fun z => hk z.1), if_neg (fun z => hk z.1), ih]
theorem s_fu_step {f : Nat → Bool} {u k : Nat} : ∀ n, k < n → s_fu f u k n = (if f k = true ∧ u.testBit k = true then 1 else 0) + s_fu f u (k + 1) n
  | 0, h => absurd h (Nat.not_lt_zero k)
  | n + 1, h => by
    simp only [s_fu]
    by_cases hkn : k = n
    · subst hkn
      have e : ∀ m, m ≤ k → s_fu f u k m = 0 ∧ s_fu f u (k + 1) m = 0 := by
        intro m
        induction m with
        | zero => intro _; exact ⟨rfl, rfl⟩
        | succ m ih =>
          intro hm
          obtain ⟨i1, i2⟩ := ih (by omega)
          simp only [s_fu]
          rw [if_neg (fun z => by omega), if_neg (fun z => by omega)]
          exact ⟨i1, i2⟩
      obtain ⟨e1, e2⟩ := e k (Nat.le_refl _)
      rw [e1, e2, if_neg (show ¬ (k + 1 ≤ k ∧ _) from fun z => by omega)]
      by_cases hc : f k = true ∧ u.testBit k = true
      · rw [if_pos ⟨Nat.le_refl _, hc⟩, if_pos hc]
      · rw [if_neg (fun z => hc z.2), if_neg hc]
    · have ih := s_fu_step (f := f) (u := u) n (show k < n by omega)
      by_cases hc : f n = true ∧ u.testBit n = true
      · rw [if_pos (show k ≤ n ∧ (f n = true ∧ u.testBit n = true) from ⟨by omega, hc⟩), if_pos (show k + 1 ≤ n ∧ (f n = true ∧ u.testBit n = true) from ⟨by omega, hc⟩), ih]
        omega
      · rw [if_neg (show ¬ (k ≤ n ∧ (f n = true ∧ u.testBit n = true)) from fun z => hc z.2), if_neg (show ¬ (k + 1 ≤ n ∧ (f n = true ∧ u.testBit n = true)) from fun z => hc z.2), ih]
theorem s_fu_none {f : Nat → Bool} {u k : Nat} : ∀ n, (∀ h, k ≤ h → h < n → f h = false) → s_fu f u k n = 0
  | 0, _ => rfl
  | n + 1, h => by
    have ih := s_fu_none (u := u) n (fun x h1 h2 => h x h1 (by omega))
    simp only [s_fu]
    by_cases hk : k ≤ n
    · rw [if_neg (fun z => by rw [h n hk (by omega)] at z; cases z.2.1), ih]
    · rw [if_neg (fun z => hk z.1), ih]
/-- what a take of thing t at hour k misses: the uses from k on while it is in its case -/
theorem s_miss1_fu {H : s_H} {t k : Nat} (hu : H.2.2.2 4 t < 64) (hs : H.2.2.2 3 t ≤ 6) (hk : k < 6) : s_miss1 H t k = s_fu (fun h => decide (h < k + H.2.2.2 3 t)) (H.2.2.2 4 t) k 6 := by
  have key : ∀ u, u < 64 → ∀ s, s < 7 → ∀ k, k < 6 → s_pop (u &&& s_span s k) = s_fu (fun h => decide (h < k + s)) u k 6 := by decide +kernel
  exact key _ hu _ (by omega) k hk
/-- over the first n things: what is yet to be missed from hour k on -/
def s_fut (H : s_H) (r : Nat → Option Nat) (k : Nat) : Nat → Nat
  | 0 => 0
  | n + 1 => s_fut H r k n + s_fu (fun h => decide (h < s_till H r k n)) (H.2.2.2 4 n) k 6
/-- the same, behind hour k's take -/
def s_fut1 (H : s_H) (r : Nat → Option Nat) (k : Nat) : Nat → Nat
  | 0 => 0
  | n + 1 => s_fut1 H r k n + s_fu (fun h => decide (h < s_till H r (k + 1) n)) (H.2.2.2 4 n) k 6
theorem s_fut1_eq {H : s_H} {nv : Option Nat} {r : Nat → Option Nat} {k : Nat} (hok : s_ok H) (hk : k < 6) (hw : s_wrn H nv r (k + 1) = none) : ∀ n, n ≤ H.1 → s_fut1 H r k n = s_fut H r k n + (match r k with | none => 0 | some t => if t < n then s_miss1 H t k else 0)
  | 0, _ => by
    cases r k with
    | none => rfl
    | some t => simp [s_fut1, s_fut]
  | n + 1, hn => by
    have ih := s_fut1_eq hok hk hw n (by omega)
    obtain ⟨w1, w2⟩ := s_wrn_pre hw
    simp only [s_fut1, s_fut, ih]
    cases hr : r k with
    | none =>
      have e : s_till H r (k + 1) n = s_till H r k n := by simp [s_till, hr]
      rw [e]
      simp only []
      omega
    | some t =>
      simp only []
      by_cases htn : t = n
      · subst htn
        have e : s_till H r (k + 1) t = k + H.2.2.2 3 t := by simp [s_till, hr]
        have hb := (w2 t hr).1
        rw [s_cs_till w1] at hb
        have hb := of_decide_eq_false hb
        have z : s_fu (fun h => decide (h < s_till H r k t)) (H.2.2.2 4 t) k 6 = 0 := s_fu_none 6 (fun h h1 _ => decide_eq_false (by omega))
        obtain ⟨-, -, -, hs, hu⟩ := hok.2.2.2 t (by omega)
        rw [e, z, ← s_miss1_fu hu hs.2 hk, if_neg (by omega), if_pos (by omega)]
      · have e : s_till H r (k + 1) n = s_till H r k n := by
          simp only [s_till]
          rw [if_neg (fun z => htn (by rw [hr] at z; exact Option.some.inj z))]
        rw [e]
        by_cases h1 : t < n
        · rw [if_pos h1, if_pos (by omega)]; omega
        · rw [if_neg h1, if_neg (by omega)]; omega
theorem s_fut1_step {H : s_H} {nv : Option Nat} {r : Nat → Option Nat} {k : Nat} (hk : k < 6) (hw : s_wrn H nv r (k + 1) = none) : ∀ n, s_fut1 H r k n = s_mi H (s_cs H r k (k + 1)) k n + s_fut H r (k + 1) n
  | 0 => rfl
  | n + 1 => by
    have ih := s_fut1_step hk hw n
    simp only [s_fut1, s_fut, s_mi, ih]
    rw [s_fu_step 6 hk]
    have e := s_cs_till hw k n
    by_cases hc : (s_cs H r k (k + 1)).testBit n = true ∧ (H.2.2.2 4 n).testBit k = true
    · rw [if_pos hc, if_pos ⟨by rw [← e]; exact hc.1, hc.2⟩]; omega
    · rw [if_neg hc, if_neg (fun z => hc ⟨by rw [e]; exact z.1, z.2⟩)]; omega
theorem s_miss_inv {H : s_H} {nv : Option Nat} {r : Nat → Option Nat} (hok : s_ok H) : ∀ k, k ≤ 6 → s_wrn H nv r k = none → (∀ h, h < k → ∀ t, r h = some t → t < H.1) → s_miss H r k = s_mm H r k + s_fut H r k H.1
  | 0, _, _, _ => by
    have e : ∀ n, s_fut H r 0 n = 0 := by
      intro n
      induction n with
      | zero => rfl
      | succ n ih =>
        simp only [s_fut, ih]
        rw [s_fu_none 6 (fun h _ _ => decide_eq_false (by simp [s_till]))]
    rw [e]
    rfl
  | k + 1, hk, hw, hr => by
    obtain ⟨w1, w2⟩ := s_wrn_pre hw
    have ih := s_miss_inv hok k (by omega) w1 (fun h hh => hr h (by omega))
    have e1 := s_fut1_eq hok (show k < 6 by omega) hw H.1 (Nat.le_refl _)
    have e2 := s_fut1_step (show k < 6 by omega) hw H.1
    simp only [s_miss, s_mm, ih]
    cases hrk : r k with
    | none =>
      rw [hrk] at e1
      simp only [] at e1 ⊢
      omega
    | some t =>
      rw [hrk] at e1
      simp only [] at e1 ⊢
      rw [if_pos (hr k (by omega) t hrk)] at e1
      omega
theorem s_miss_mm {H : s_H} {nv : Option Nat} {r : Nat → Option Nat} (hok : s_ok H) (hw : s_wrn H nv r 6 = none) (hr : ∀ h, h < 6 → ∀ t, r h = some t → t < H.1) : s_mm H r 6 = s_miss H r 6 := by
  have e := s_miss_inv hok 6 (by decide) hw hr
  have z : ∀ n, s_fut H r 6 n = 0 := by
    intro n
    induction n with
    | zero => rfl
    | succ n ih =>
      simp only [s_fut, ih]
      have q : ∀ m, m ≤ 6 → s_fu (fun h => decide (h < s_till H r 6 n)) (H.2.2.2 4 n) 6 m = 0 := by
        intro m
        induction m with
        | zero => intro _; rfl
        | succ m ih2 =>
          intro hm
          simp only [s_fu]
          rw [if_neg (fun z => by omega)]
          exact ih2 (by omega)
      rw [q 6 (by decide)]
  rw [z] at e
  omega
