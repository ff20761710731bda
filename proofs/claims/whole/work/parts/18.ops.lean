/-! what a museum is, and what its calls answer (plain); the class's small calls -/
/-- house, readings, sheets (there, lane, length), cells, fault, trace -/
abbrev s_A : Type := s_H × s_R × (Nat → Bool × Nat × Nat) × (Nat → Nat → Int32) × Int32 × Int32
def s_sh (M : pv_M) (k : Nat) (s : Bool × Nat × Nat) (c : Nat → Int32) : Prop := M (2 + k) 1 = bi s.1 ∧ (s.1 = true → M (2 + k) 2 = nI s.2.1 ∧ s.2.1 ≤ 2 ∧ M (2 + k) 3 = nI s.2.2 ∧ s.2.2 ≤ 60 ∧ ∀ i, i < s.2.2 → M (6 + k) i = c i)
def AX (M : pv_M) (a : s_A) : Prop := HX M a.1 ∧ RX M a.1.1 a.2.1 ∧ (∀ k, k < 4 → s_sh M k (a.2.2.1 k) (a.2.2.2.1 k)) ∧ M 0 5 = a.2.2.2.2.1 ∧ M 0 6 = a.2.2.2.2.2
/-- what is not the class's stays -/
def frX (M M' : pv_M) : Prop := ∀ p, 29 ≤ p → M' p = M p
theorem frX.rf {M : pv_M} : frX M M := fun _ _ => rfl
theorem frX.tr {M M1 M2 : pv_M} (h1 : frX M M1) (h2 : frX M1 M2) : frX M M2 := fun p hp => (h2 p hp).trans (h1 p hp)
theorem frX.up {M M1 : pv_M} {p k : Nat} {v : Int32} (h : frX M M1) (hp : p < 29) : frX M (pv_up M1 p k v) := fun q hq => by rw [pv_up_o (by omega)]; exact h q hq
theorem frX.of {S : List Nat} {M M' : pv_M} (h : fr S M M') (hs : ∀ p, p ∈ S → p < 29) : frX M M' := fun q hq => h q (fun z => by have := hs q z; omega)
def s_hb (a : s_A) (t : Int32) : Bool := s_rng t 0 ((a.1.1 : Int) - 1)
theorem s_hb_has {n : Nat} {t : Int32} (hn : n ≤ 5) : s_hasB (nI n) t = s_rng t 0 ((n : Int) - 1) := by
  rw [Bool.eq_iff_iff]
  simp only [s_hasB, s_rng, Bool.and_eq_true, Bool.not_eq_true', decide_eq_false_iff_not, decide_eq_true_eq, z_lt, ge_iff_le]
  rw [z_ge (by omega)]
  omega
/-- a fault that a call comes to at a sheet's cells -/
def s_foc (s : Bool × Nat × Nat) (l i n : Int32) : Nat := if s.1 = false then 1 else if ¬ nI s.2.1 = l then 2 else if n.toInt < 0 then 4 else if 0 ≤ i.toInt ∧ i.toInt + n.toInt ≤ s.2.2 then 0 else 3
def s_hol (len : Nat) (i n : Int32) : Bool := decide (0 ≤ i.toInt ∧ 0 ≤ n.toInt ∧ i.toInt + n.toInt ≤ len)
theorem v_holds_eq {len : Nat} (hl : len ≤ 60) (i n : Int32) : v_holds (nI len) i n = s_hol len i n := by
  rw [Bool.eq_iff_iff]
  simp only [v_holds, s_hol, Bool.and_eq_true, Bool.not_eq_true', decide_eq_false_iff_not, decide_eq_true_eq, z_lt, gt_iff_lt]
  rw [z_gt (by omega)]
  by_cases h1 : i.toInt < 0
  · simp [h1]
    omega
  by_cases h2 : (len : Int) < i.toInt
  · simp [h1, h2]
    omega
  have e : nI len - i = nI (len - i.toInt.toNat) := by
    have e1 : i = nI i.toInt.toNat := Int32.toInt_inj.mp (by rw [nI_toInt (by omega)]; omega)
    have e2 : nI len = nI (len - i.toInt.toNat) + i := by
      rw [show nI (len - i.toInt.toNat) + i = nI (len - i.toInt.toNat) + nI i.toInt.toNat by rw [← e1], nI_add]
      congr 1
      omega
    rw [e2]
    exact Int32.add_sub_cancel _ _
  rw [e, z_gt (by omega)]
  omega
theorem v_foc_eq {M : pv_M} {k : Nat} {s : Bool × Nat × Nat} {c : Nat → Int32} (h : s_sh M k s c) (l i n : Int32) : v_foc (M (2 + k) 1) (M (2 + k) 2) (M (2 + k) 3) l i n = nI (s_foc s l i n) := by
  obtain ⟨h1, h2⟩ := h
  unfold v_foc s_foc
  rw [h1]
  cases hs : s.1 with
  | false => simp [bi]; rfl
  | true =>
    obtain ⟨g1, g2, g3, g4, -⟩ := h2 hs
    rw [g1, g3, v_holds_eq g4]
    simp only [bi, if_true]
    rw [if_neg (by decide)]
    simp only [Bool.true_eq_false, if_false]
    by_cases hl : nI s.2.1 = l
    · simp only [hl, not_true, if_false, z_lt]
      by_cases hn : n.toInt < 0
      · simp only [hn, if_true]; rfl
      · simp only [hn, if_false, s_hol, decide_eq_true_eq]
        by_cases hh : 0 ≤ i.toInt ∧ i.toInt + n.toInt ≤ s.2.2
        · rw [if_pos ⟨hh.1, by omega, hh.2⟩, if_pos hh]; rfl
        · rw [if_neg (fun z => hh ⟨z.1, z.2.2⟩), if_neg hh]; rfl
    · simp only [hl, not_false_eq_true, if_true]; rfl
theorem s_foc_le (s : Bool × Nat × Nat) (l i n : Int32) : s_foc s l i n ≤ 4 := by
  unfold s_foc
  repeat' split
  all_goals omega
/-! changes of the state -/
def a_flt (a : s_A) (f : Int32) : s_A := (a.1, a.2.1, a.2.2.1, a.2.2.2.1, f, a.2.2.2.2.2)
def a_trc (a : s_A) (f : Int32) : s_A := (a.1, a.2.1, a.2.2.1, a.2.2.2.1, a.2.2.2.2.1, f)
def a_hs (a : s_A) (H : s_H) : s_A := (H, a.2.1, a.2.2.1, a.2.2.2.1, a.2.2.2.2.1, a.2.2.2.2.2)
def a_rd (a : s_A) (r : s_R) : s_A := (a.1, r, a.2.2.1, a.2.2.2.1, a.2.2.2.2.1, a.2.2.2.2.2)
theorem AX.same {M M' : pv_M} {a : s_A} (h : AX M a) (he : ∀ p, p < 21 → M' p = M p) : AX M' a := by
  obtain ⟨h1, h2, h3, h4, h5⟩ := h
  refine ⟨h1.of (he 10 (by decide)) (fun t ht => he _ (by omega)), ?_, fun k hk => ?_, by rw [he 0 (by decide)]; exact h4, by rw [he 0 (by decide)]; exact h5⟩
  · obtain ⟨r1, r2, r3⟩ := h2
    refine ⟨by rw [he 17 (by decide)]; exact r1, r2, fun i hi => ?_⟩
    rw [he 18 (by decide), he 19 (by decide), he 20 (by decide)]
    exact r3 i hi
  · obtain ⟨g1, g2⟩ := h3 k hk
    unfold s_sh
    rw [he (2 + k) (by omega), he (6 + k) (by omega)]
    exact ⟨g1, g2⟩
theorem AX.fault {M : pv_M} {a : s_A} (h : AX M a) (f : Int32) : AX (pv_up M 0 5 f) (a_flt a f) := by
  obtain ⟨h1, h2, h3, h4, h5⟩ := h
  refine ⟨h1.of rfl (fun t ht => pv_up_o (by omega)), ?_, fun k hk => ?_, by simp [pv_up_at, a_flt], ?_⟩
  · exact h2
  · unfold s_sh
    rw [pv_up_o (show 2 + k ≠ 0 by omega), pv_up_o (show 6 + k ≠ 0 by omega)]
    exact h3 k hk
  · rw [pv_up_at, if_neg (by decide)]; exact h5
theorem AX.trace {M : pv_M} {a : s_A} (h : AX M a) (f : Int32) : AX (pv_up M 0 6 f) (a_trc a f) := by
  obtain ⟨h1, h2, h3, h4, h5⟩ := h
  refine ⟨h1.of rfl (fun t ht => pv_up_o (by omega)), h2, fun k hk => ?_, ?_, by simp [pv_up_at, a_trc]⟩
  · unfold s_sh
    rw [pv_up_o (show 2 + k ≠ 0 by omega), pv_up_o (show 6 + k ≠ 0 by omega)]
    exact h3 k hk
  · rw [pv_up_at, if_neg (by decide)]; exact h4
/-- what a call answers and leaves -/
abbrev s_O : Type := Int32 × s_A
def o_X (o : s_O) (M : pv_M) : pv_Q := fun r M' => r = some (.int o.1) ∧ AX M' o.2 ∧ frX M M'
def o_XL (o : Int64 × s_A) (M : pv_M) : pv_Q := fun r M' => r = some (.long o.1) ∧ AX M' o.2 ∧ frX M M'
