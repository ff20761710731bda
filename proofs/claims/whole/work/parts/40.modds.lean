/-! the reference: odds -/
theorem lN_rem0 {a : Nat} (h : a < 2 ^ 62) : (lN a - lN a / 2 * 2 = 0) ↔ a % 2 = 0 := by
  rw [show (2 : Int64) = lN 2 from rfl, pk_lRem (by omega) (by omega) (by omega), show (0 : Int64) = lN 0 from rfl, pk_lEQ (by omega) (by omega)]
theorem s_half_gcd : ∀ u X, u ≤ 60 → X < 2 ^ 62 → 0 < X → s_half u (lN X) (lN (2 ^ u)) = (lN (X / X.gcd (2 ^ u)), lN (2 ^ u / X.gcd (2 ^ u)))
  | 0, X, _, _, _ => by
    simp [s_half]
  | u + 1, X, hu, hX, h0 => by
    simp only [s_half, lN_rem0 hX]
    have hp : 2 ^ u < 2 ^ 61 := Nat.pow_lt_pow_right (by decide) (by omega)
    by_cases h : X % 2 = 0
    · obtain ⟨Z, rfl⟩ : ∃ Z, X = 2 * Z := ⟨X / 2, by omega⟩
      rw [if_pos h, show (2 : Int64) = lN 2 from rfl, pk_lDiv (by omega) (by omega) (by omega), pk_lDiv (by rw [Nat.pow_succ]; omega) (by omega) (by omega)]
      rw [show 2 * Z / 2 = Z by omega, show 2 ^ (u + 1) / 2 = 2 ^ u by rw [Nat.pow_succ]; omega, s_half_gcd u Z (by omega) (by omega) (by omega)]
      rw [show 2 ^ (u + 1) = 2 * 2 ^ u by rw [Nat.pow_succ, Nat.mul_comm], Nat.gcd_mul_left, Nat.mul_div_mul_left _ _ (by decide), Nat.mul_div_mul_left _ _ (by decide)]
    · rw [if_neg h]
      have hc : Nat.Coprime X (2 ^ (u + 1)) := by
        refine Nat.Coprime.pow_right _ ?_
        unfold Nat.Coprime
        rw [Nat.gcd_comm, Nat.gcd_rec, show X % 2 = 1 by omega]
        rfl
      rw [show X.gcd (2 ^ (u + 1)) = 1 from hc, Nat.div_one, Nat.div_one]
/-- ways, in plain numbers -/
def s_wst (u k : Nat) (z : Nat × Nat) : Nat × Nat := (z.1 + z.2, z.2 * (u - k) / (k + 1))
def s_wn (u : Nat) : Nat → Nat × Nat
  | 0 => (0, 1)
  | k + 1 => s_wst u k (s_wn u k)
def s_wok (u : Nat) : Nat → Nat → Nat × Nat → Bool
  | 0, _, _ => true
  | m + 1, k, (x, y) => Nat.blt x (2 ^ 50) && (Nat.blt (y * (u - k)) (2 ^ 50) && (Nat.blt y (2 ^ 50) && (Nat.blt 0 (x + y) && s_wok u m (k + 1) (x + y, y * (u - k) / (k + 1)))))
theorem s_wok_of (u : Nat) : ∀ m k, s_wok u m k (s_wn u k) = true → ∀ j, j < m → (s_wn u (k + j)).1 < 2 ^ 50 ∧ (s_wn u (k + j)).2 * (u - (k + j)) < 2 ^ 50 ∧ (s_wn u (k + j)).2 < 2 ^ 50 ∧ 0 < (s_wn u (k + j + 1)).1
  | 0, _, _, j, hj => absurd hj (Nat.not_lt_zero j)
  | m + 1, k, h, j, hj => by
    have h2 : (Nat.blt (s_wn u k).1 (2 ^ 50) && (Nat.blt ((s_wn u k).2 * (u - k)) (2 ^ 50) && (Nat.blt (s_wn u k).2 (2 ^ 50) && (Nat.blt 0 (s_wn u (k + 1)).1 && s_wok u m (k + 1) (s_wn u (k + 1)))))) = true := h
    simp only [Bool.and_eq_true, Nat.blt_eq] at h2
    obtain ⟨g1, g2, g3, g4, g5⟩ := h2
    cases j with
    | zero => exact ⟨g1, g2, g3, g4⟩
    | succ j =>
      have := s_wok_of u m (k + 1) g5 j (by omega)
      rw [show k + (j + 1) = k + 1 + j by omega]
      exact this
theorem s_wn_ok : ∀ u, u < 37 → s_wok u 32 0 (0, 1) = true := by decide +kernel
theorem s_wn_bd {u k : Nat} (hu : u < 37) (hk : k < 32) : (s_wn u k).1 < 2 ^ 50 ∧ (s_wn u k).2 * (u - k) < 2 ^ 50 ∧ (s_wn u k).2 < 2 ^ 50 ∧ 0 < (s_wn u (k + 1)).1 := by
  have := s_wok_of u 32 0 (s_wn_ok u hu) k hk
  rw [Nat.zero_add] at this
  exact this
theorem s_ways_wn {u : Nat} (hu : u < 37) : ∀ k, k ≤ 31 → k ≤ u + 1 → s_ways u k = (lN (s_wn u k).1, lN (s_wn u k).2)
  | 0, _, _ => rfl
  | k + 1, hk, hku => by
    have ih := s_ways_wn hu k (by omega) (by omega)
    obtain ⟨b1, b2, b3, b4⟩ := s_wn_bd hu (show k < 32 by omega)
    have e1 : (nI u - nI k).toInt64 = lN (u - k) := by
      have : nI u = nI (u - k) + nI k := by rw [nI_add, Nat.sub_add_cancel (by omega)]
      rw [this, Int32.add_sub_cancel, nI_l (by omega)]
    have e2 : (nI k + 1).toInt64 = lN (k + 1) := by rw [nI_1, nI_l (by omega)]
    simp only [s_ways, ih, e1, e2, s_wn, s_wst]
    rw [lN_add, lN_mul, pk_lDiv (by omega) (by omega) (by omega)]
theorem lN_shl : ∀ u, u < 37 → (1 : Int64) <<< ((nI u).toInt64 &&& 63) = lN (2 ^ u) := by decide +kernel
theorem s_odds_gcd {u v : Nat} (hu : u < 37) (hv : v ≤ 30) : s_odds u v = (lN ((s_wn u (min v u + 1)).1 / (s_wn u (min v u + 1)).1.gcd (2 ^ u)), lN (2 ^ u / (s_wn u (min v u + 1)).1.gcd (2 ^ u))) := by
  have h1 := s_wn_bd hu (show min v u + 1 < 32 by omega)
  have h2 := s_wn_bd hu (show min v u < 32 by omega)
  rw [s_odds, s_ways_wn hu _ (by omega) (by omega), lN_shl u hu]
  exact s_half_gcd u _ (by omega) (by omega) h2.2.2.2
set_option maxHeartbeats 4000000 in
theorem l_X7_told {Γ : pv_G} {d X Y : Nat} {w : Int32} {M : pv_M} (h0 : 0 < X) (hX : X < 2 ^ 62) (hY : Y < 2 ^ 62) : ∀ (B A : Nat) (x9 : Value), A < 2 ^ 62 → B < 2 ^ 62 → Nat.gcd A B = Nat.gcd X Y →
    PW Γ d vX7_told 6 [.long (lN X), .null, .long (lN Y), .null, .int w, .long (lN A), .null, .long (lN B), .null, x9, .null] [] M (pv_fn (some (.long (if w = 0 then lN (X / X.gcd Y) else lN (Y / X.gcd Y)))) M) := by
  have hg : 0 < X.gcd Y := Nat.gcd_pos_of_pos_left _ h0
  intro B
  induction B using Nat.strongRecOn with
  | ind B ih =>
    intro A x9 hA hB hgcd
    refine PW_lload7 (pc' := 8) dX7_told_6 rfl ?_
    refine PW_lconst (pc' := 9) dX7_told_8 rfl (v := 0) (by first | rfl | decide) ?_
    refine PW_lcmp (pc' := 10) dX7_told_9 rfl ?_
    refine PW_if_eq (tgt := 31) (pc' := 13) dX7_told_10 rfl rfl (fun h10 => ?_) (fun h10 => ?_)
    · have hb : B = 0 := by
        have z := lg_cmp_0.mp h10
        rwa [show (0 : Int64) = lN 0 from rfl, pk_lEQ (by omega) (by omega)] at z
      subst hb
      rw [Nat.gcd_zero_right] at hgcd
      have hA0 : 0 < A := by omega
      refine PW_iload4 (pc' := 33) dX7_told_31 rfl ?_
      refine PW_if_ne (tgt := 40) (pc' := 36) dX7_told_33 rfl rfl (fun h33 => ?_) (fun h33 => ?_)
      · refine PW_lload2 (pc' := 41) dX7_told_40 rfl ?_
        refine PW_lload5 (pc' := 43) dX7_told_41 rfl ?_
        refine PW_ldiv (pc' := 44) dX7_told_43 rfl (show ¬ lN A = 0 from fun z => by rw [show (0 : Int64) = lN 0 from rfl, pk_lEQ (by omega) (by omega)] at z; omega) ?_
        refine PW_lreturn dX7_told_44 rfl ?_
        refine ⟨?_, rfl⟩
        first
          | rw [if_pos h33, ← hgcd, pk_lDiv (by omega) (by omega) (by omega)]
          | rw [if_neg h33, ← hgcd, pk_lDiv (by omega) (by omega) (by omega)]
      · refine PW_lload0 (pc' := 37) dX7_told_36 rfl ?_
        refine PW_goto (tgt := 41) dX7_told_37 rfl ?_
        refine PW_lload5 (pc' := 43) dX7_told_41 rfl ?_
        refine PW_ldiv (pc' := 44) dX7_told_43 rfl (show ¬ lN A = 0 from fun z => by rw [show (0 : Int64) = lN 0 from rfl, pk_lEQ (by omega) (by omega)] at z; omega) ?_
        refine PW_lreturn dX7_told_44 rfl ?_
        refine ⟨?_, rfl⟩
        first
          | rw [if_pos h33, ← hgcd, pk_lDiv (by omega) (by omega) (by omega)]
          | rw [if_neg h33, ← hgcd, pk_lDiv (by omega) (by omega) (by omega)]
    · have hB0 : ¬ lN B = 0 := fun z => h10 (lg_cmp_0.mpr z)
      have hb : ¬ B = 0 := fun z => hB0 (by rw [z]; rfl)
      refine PW_lload5 (pc' := 15) dX7_told_13 rfl ?_
      refine PW_lload7 (pc' := 17) dX7_told_15 rfl ?_
      refine PW_lrem (pc' := 18) dX7_told_17 rfl (show ¬ lN B = 0 from hB0) ?_
      rw [pk_lRem (by omega) (by omega) (by omega)]
      refine PW_lstore9 (pc' := 20) dX7_told_18 rfl rfl rfl ?_
      refine PW_lload7 (pc' := 22) dX7_told_20 rfl ?_
      refine PW_lstore5 (pc' := 24) dX7_told_22 rfl rfl rfl ?_
      refine PW_lload9 (pc' := 26) dX7_told_24 rfl ?_
      refine PW_lstore7 (pc' := 28) dX7_told_26 rfl rfl rfl ?_
      refine PW_goto (tgt := 6) dX7_told_28 rfl ?_
      exact ih (A % B) (Nat.mod_lt _ (by omega)) B _ hB (Nat.lt_of_lt_of_le (Nat.mod_lt _ (by omega)) (by omega)) (by rw [← hgcd, Nat.gcd_comm A B, Nat.gcd_rec B A, Nat.gcd_comm])
set_option maxHeartbeats 4000000 in
theorem c_X7_told {Γ : pv_G} {d : Nat} {M : pv_M} {X Y : Nat} {w : Int32} (h0 : 0 < X) (hX : X < 2 ^ 62) (hY : Y < 2 ^ 62) : Ct Γ d vX7_told [.long (lN X), .long (lN Y), .int w] M (pv_fn (some (.long (if w = 0 then lN (X / X.gcd Y) else lN (Y / X.gcd Y)))) M) := by
  refine Ct.of oX7_told.1 rfl (pad := 6) rfl ?_
  show PW Γ d vX7_told 0 [.long (lN X), .null, .long (lN Y), .null, .int w, .null, .null, .null, .null, .null, .null] [] M _
  refine PW_lload0 (pc' := 1) dX7_told_0 rfl ?_
  refine PW_lstore5 (pc' := 3) dX7_told_1 rfl rfl rfl ?_
  refine PW_lload2 (pc' := 4) dX7_told_3 rfl ?_
  refine PW_lstore7 (pc' := 6) dX7_told_4 rfl rfl rfl ?_
  exact l_X7_told h0 hX hY Y X _ hX hY rfl
