/-! the best round is the best by number -/
def s_fo (H : s_H) (κ : s_K) : Nat → s_S
  | 0 => s_S0
  | n + 1 => s_arv H κ 0 (s_tr (s_rn H.1 n)) (s_fo H κ n)
theorem s_fo_fold (H : s_H) (κ : s_K) : ∀ n, (List.range n).foldl (fun σ i => s_arv H κ 0 (s_tr (s_rn H.1 i)) σ) s_S0 = s_fo H κ n
  | 0 => rfl
  | n + 1 => by rw [List.range_succ, List.foldl_append, s_fo_fold H κ n]; rfl
theorem s_walk_fo (H : s_H) (κ : s_K) : s_walk H κ 6 s_N 0 0 s_S0 = s_fo H κ ((H.1 + 1) ^ 6) := by
  rw [s_walk_num, s_fo_fold]
theorem s_tr_6 (r : Nat → Option Nat) : ∀ x, x < 6 → s_tr r x = r x := fun x hx => if_pos hx
theorem s_wrn_same {H : s_H} {nv : Option Nat} {p q : Nat → Option Nat} : ∀ k, (∀ x, x < k → q x = p x) → s_wrn H nv q k = s_wrn H nv p k
  | 0, _ => rfl
  | k + 1, h => by simp only [s_wrn, h k (by omega), s_wrn_same k (fun x hx => h x (by omega)), s_cs_same k (fun x hx => h x (by omega))]
theorem s_fo_step (H : s_H) (w : Option Nat) (v n : Nat) : s_fo H (w, v, fun _ => 0, fun _ => 0) (n + 1) = if s_wrn H w (s_rn H.1 n) 6 = none then s_nt 0 (s_tr (s_rn H.1 n)) (s_arr (w, v, fun _ => 0, fun _ => 0) H.2.1 (s_tr (s_rn H.1 n)) (s_take H H.2.2.1 (s_rn H.1 n) 6) (s_miss H (s_rn H.1 n) 6) (s_fo H (w, v, fun _ => 0, fun _ => 0) n)) else s_fo H (w, v, fun _ => 0, fun _ => 0) n := by
  rw [s_fo, s_arv, s_rt_wrn, s_wrn_same (p := s_rn H.1 n) 6 (s_tr_6 _), s_take_same (p := s_rn H.1 n) 6 (s_tr_6 _), s_miss_same (p := s_rn H.1 n) 6 (s_tr_6 _)]
  cases s_wrn H w (s_rn H.1 n) 6 with
  | none => rfl
  | some x => rfl
theorem s_bst_fo (H : s_H) (w : Option Nat) (v : Nat) : ∀ n, ((s_fo H (w, v, fun _ => 0, fun _ => 0) n).1 = 0 ↔ (s_bst H w n).1 = none) ∧ ∀ j, (s_bst H w n).1 = some j → (s_fo H (w, v, fun _ => 0, fun _ => 0) n).2.2.1 = s_tr (s_rn H.1 j) ∧ (s_fo H (w, v, fun _ => 0, fun _ => 0) n).2.2.2.1 = (s_bst H w n).2
  | 0 => ⟨by simp [s_fo, s_S0, s_bst], fun j h => by cases h⟩
  | n + 1 => by
    obtain ⟨i1, i2⟩ := s_bst_fo H w v n
    rw [s_fo_step]
    simp only [s_bst]
    by_cases hw : s_wrn H w (s_rn H.1 n) 6 = none
    · rw [if_pos hw]
      simp only [s_nt, s_arr]
      have hc : ((s_fo H (w, v, fun _ => 0, fun _ => 0) n).1 = 0 ∨ (s_fo H (w, v, fun _ => 0, fun _ => 0) n).2.2.2.1 < (s_take H H.2.2.1 (s_rn H.1 n) 6 : Int) - H.2.1 * s_miss H (s_rn H.1 n) 6) ↔ ((s_bst H w n).1 = none ∨ (s_bst H w n).2 < s_lft H (s_rn H.1 n)) := by
        cases hb : (s_bst H w n).1 with
        | none => exact ⟨fun _ => Or.inl rfl, fun _ => Or.inl (i1.mpr hb)⟩
        | some j =>
          rw [(i2 j hb).2]
          refine ⟨fun z => z.elim (fun y => ?_) Or.inr, fun z => z.elim (fun y => by cases y) Or.inr⟩
          rw [i1.mp y] at hb
          cases hb
      by_cases hq : (s_bst H w n).1 = none ∨ (s_bst H w n).2 < s_lft H (s_rn H.1 n)
      · rw [if_pos (hc.mpr hq), if_pos (hc.mpr hq), if_pos ⟨hw, hq⟩]
        exact ⟨⟨fun z => by omega, fun z => by cases z⟩, fun j h => by cases h; exact ⟨rfl, rfl⟩⟩
      · rw [if_neg (fun z => hq (hc.mp z)), if_neg (fun z => hq (hc.mp z)), if_neg (fun z => hq z.2)]
        refine ⟨⟨fun z => by omega, fun z => absurd (Or.inl z) hq⟩, i2⟩
    · rw [if_neg hw, if_neg (fun z => hw z.1)]
      exact ⟨i1, i2⟩
