/-! the reference: rounds by their numbers -/
/-- round n of c things, in the order of the numbers to the base c + 1 -/
def s_rn (c n : Nat) : Nat → Option Nat := fun x => if n / (c + 1) ^ (5 - x) % (c + 1) = 0 then none else some (n / (c + 1) ^ (5 - x) % (c + 1) - 1)
theorem s_rn_lt {c n x t : Nat} (h : s_rn c n x = some t) : t < c := by
  unfold s_rn at h
  split at h
  · cases h
  · rename_i hz
    have := Nat.mod_lt (n / (c + 1) ^ (5 - x)) (show 0 < c + 1 by omega)
    cases h
    omega
theorem pow_le6 {c k : Nat} (hc : c ≤ 5) (hk : k ≤ 6) : (c + 1) ^ k ≤ 46656 :=
  Nat.le_trans (Nat.pow_le_pow_left (show c + 1 ≤ 6 by omega) k) (Nat.le_trans (Nat.pow_le_pow_right (by decide) hk) (by decide))
theorem nI_n0 {c : Nat} (hc : c ≤ 5) : ¬ nI (c + 1) = 0 := by
  have : ∀ c, c < 6 → ¬ nI (c + 1) = 0 := by decide +kernel
  exact this c (by omega)
theorem nI_rem {a b : Nat} (ha : a < 2 ^ 31) (h0 : 0 < b) (hb : b < 2 ^ 31) : nI a - nI a / nI b * nI b = nI (a % b) := by
  rw [pk_div ha h0 hb, nI_mul]
  have e : nI a = nI (a % b) + nI (a / b * b) := by
    rw [nI_add]
    exact congrArg nI (by have := Nat.div_add_mod' a b; omega)
  rw [e, Int32.add_sub_cancel]
theorem v_dec (k : Nat) : nI k + Int32.ofInt (-1) = iI ((k : Int) - 1) := by
  cases k with
  | zero => decide
  | succ k =>
    have e : Int32.ofInt (-1) = -1 := by decide
    rw [e, ← nI_1, show nI k + 1 + -1 = nI k from by rw [show (-1 : Int32) = -(1 : Int32) from by decide, ← Int32.sub_eq_add_neg, Int32.add_sub_cancel], iI, show ((k + 1 : Nat) : Int) - 1 = (k : Int) by omega]
    rfl
theorem v_dec1 (k : Nat) : iI (((k + 1 : Nat) : Int) - 1) = nI k := by
  rw [iI, show ((k + 1 : Nat) : Int) - 1 = (k : Int) by omega]
  rfl
theorem nI_m1 {k : Nat} (h : 0 < k) : nI k - 1 = nI (k - 1) := by
  cases k with
  | zero => omega
  | succ k => rw [← nI_1, Int32.add_sub_cancel]; rfl
set_option maxHeartbeats 4000000 in
theorem l_X7_rows {Γ : pv_G} {d c : Nat} {M : pv_M} (hc : c ≤ 5) (h3 : M 29 3 = nI c) : ∀ (m k : Nat), k + m = 6 →
    PW Γ d vX7_rows 4 [.ref 29, .int (nI ((c + 1) ^ k)), .int (nI k)] [] M (pv_fn (some (.int (nI ((c + 1) ^ 6)))) M) := by
  intro m
  induction m using Nat.strongRecOn with
  | ind m ih =>
    intro k hkm
    refine PW_iload2 (pc' := 5) dX7_rows_4 rfl ?_
    refine PW_bipush (pc' := 7) dX7_rows_5 rfl (v := nI 6) (by first | rfl | decide) ?_
    refine PW_icmp_ge (tgt := 25) (pc' := 10) dX7_rows_7 rfl rfl (fun h7 => ?_) (fun h7 => ?_)
    · have hk : k = 6 := by have := s_bge (by omega) (by omega) h7; omega
      subst hk
      refine PW_iload1 (pc' := 26) dX7_rows_25 rfl ?_
      refine PW_ireturn .int dX7_rows_26 rfl rfl ?_
      exact ⟨rfl, rfl⟩
    · have hk : k < 6 := s_bnd (by omega) (by omega) h7
      refine PW_iload1 (pc' := 11) dX7_rows_10 rfl ?_
      refine PW_aload0 (pc' := 12) dX7_rows_11 rfl ?_
      refine PW_getI (pc' := 15) dX7_rows_12 rfl fX7_84 rfl rfl ?_
      rw [h3]
      refine PW_iconst (pc' := 16) dX7_rows_15 rfl (v := 1) (by first | rfl | decide) ?_
      refine PW_iadd (pc' := 17) dX7_rows_16 rfl ?_
      rw [nI_1]
      refine PW_imul (pc' := 18) dX7_rows_17 rfl ?_
      rw [nI_mul, ← Nat.pow_succ]
      refine PW_istore1 (pc' := 19) dX7_rows_18 rfl rfl rfl ?_
      refine PW_iinc2 (pc' := 22) dX7_rows_19 rfl rfl rfl nI_inc ?_
      refine PW_goto (tgt := 4) dX7_rows_22 rfl ?_
      exact ih (m - 1) (by omega) (k + 1) (by omega)
set_option maxHeartbeats 4000000 in
theorem c_X7_rows {Γ : pv_G} {d : Nat} {M : pv_M} {c : Nat} (hc : c ≤ 5) (h3 : M 29 3 = nI c) : Ct Γ d vX7_rows [.ref 29] M (pv_fn (some (.int (nI ((c + 1) ^ 6)))) M) := by
  refine Ct.of oX7_rows.1 rfl (pad := 2) rfl ?_
  show PW Γ d vX7_rows 0 [.ref 29, .null, .null] [] M _
  refine PW_iconst (pc' := 1) dX7_rows_0 rfl (v := nI ((c + 1) ^ 0)) (by first | rfl | decide) ?_
  refine PW_istore1 (pc' := 2) dX7_rows_1 rfl rfl rfl ?_
  refine PW_iconst (pc' := 3) dX7_rows_2 rfl (v := nI 0) (by first | rfl | decide) ?_
  refine PW_istore2 (pc' := 4) dX7_rows_3 rfl rfl rfl ?_
  exact l_X7_rows hc h3 6 0 (by omega)
def a_lay (c n : Nat) (M : pv_M) : pv_M → Prop := fun M' => (∀ p, p ≠ 40 → M' p = M p) ∧ s_row M' 40 6 c (s_rn c n)
set_option maxHeartbeats 4000000 in
theorem l_X7_layRow {Γ : pv_G} {d c n : Nat} {M0 : pv_M} (hc : c ≤ 5) (hn : n < (c + 1) ^ 6) (h3 : M0 29 3 = nI c) : ∀ (k : Nat) (M : pv_M) (x4 : Value), k ≤ 6 → (∀ p, p ≠ 40 → M p = M0 p) → (∀ x, k ≤ x → x < 6 → M 40 x = s_rI (s_rn c n x)) →
    PW Γ d vX7_layRow 4 [.ref 29, .int (nI n), .int (nI (n / (c + 1) ^ (6 - k))), .int (iI ((k : Int) - 1)), x4] [] M (fun r M' => r = none ∧ a_lay c n M0 M') := by
  intro k
  induction k with
  | zero =>
    intro M x4 hk hp hx
    refine PW_iload3 (pc' := 5) dX7_layRow_4 rfl ?_
    refine PW_if_lt (tgt := 53) (pc' := 8) dX7_layRow_5 rfl rfl (fun h5 => ?_) (fun h5 => ?_)
    · refine PW_return dX7_layRow_53 rfl ?_
      exact ⟨rfl, hp, fun x hx6 => ⟨hx x (Nat.zero_le _) hx6, fun t ht => s_rn_lt ht⟩⟩
    · exact absurd (by decide) h5
  | succ k ih =>
    intro M x4 hk hp hx
    rw [v_dec1]
    have h3M : M 29 3 = nI c := by rw [hp 29 (by decide)]; exact h3
    have hb := pow_le6 hc (show 6 ≤ 6 by decide)
    have hR : n / (c + 1) ^ (6 - (k + 1)) ≤ n := Nat.div_le_self _ _
    have e5 : 6 - (k + 1) = 5 - k := by omega
    have hdg : (n / (c + 1) ^ (5 - k)) % (c + 1) < c + 1 := Nat.mod_lt _ (by omega)
    have hdv : n / (c + 1) ^ (5 - k) / (c + 1) = n / (c + 1) ^ (6 - k) := by
      rw [Nat.div_div_eq_div_mul, ← Nat.pow_succ, show (5 - k).succ = 6 - k by omega]
    rw [e5] at hR ⊢
    refine PW_iload3 (pc' := 5) dX7_layRow_4 rfl ?_
    refine PW_if_lt (tgt := 53) (pc' := 8) dX7_layRow_5 rfl rfl (fun h5 => ?_) (fun h5 => ?_)
    · exact absurd h5 (nI_pos (by omega))
    · refine PW_iload2 (pc' := 9) dX7_layRow_8 rfl ?_
      refine PW_aload0 (pc' := 10) dX7_layRow_9 rfl ?_
      refine PW_getI (pc' := 13) dX7_layRow_10 rfl fX7_84 rfl rfl ?_
      rw [h3M]
      refine PW_iconst (pc' := 14) dX7_layRow_13 rfl (v := 1) (by first | rfl | decide) ?_
      refine PW_iadd (pc' := 15) dX7_layRow_14 rfl ?_
      rw [nI_1]
      refine PW_irem (pc' := 16) dX7_layRow_15 rfl (nI_n0 hc) ?_
      rw [nI_rem (by omega) (by omega) (by omega)]
      refine PW_istore4 (pc' := 18) dX7_layRow_16 rfl rfl rfl ?_
      refine PW_aload0 (pc' := 19) dX7_layRow_18 rfl ?_
      refine PW_getR (pc' := 22) dX7_layRow_19 rfl fX7_40 rfl rfl ?_
      refine PW_iload3 (pc' := 23) dX7_layRow_22 rfl ?_
      refine PW_iload4 (pc' := 25) dX7_layRow_23 rfl ?_
      refine PW_if_ne (tgt := 33) (pc' := 28) dX7_layRow_25 rfl rfl (fun h25 => ?_) (fun h25 => ?_)
      · have hd0 : ¬ n / (c + 1) ^ (5 - k) % (c + 1) = 0 := fun z => h25 (by rw [z]; rfl)
        have ed : s_rn c n k = some (n / (c + 1) ^ (5 - k) % (c + 1) - 1) := if_neg hd0
        refine PW_iload4 (pc' := 35) dX7_layRow_33 rfl ?_
        refine PW_iconst (pc' := 36) dX7_layRow_35 rfl (v := 1) (by first | rfl | decide) ?_
        refine PW_isub (pc' := 37) dX7_layRow_36 rfl ?_
        try rw [nI_m1 (by omega)]
        refine PW_iastn (pc' := 38) dX7_layRow_37 rfl rfl rfl (by omega) ?_
        refine PW_iload2 (pc' := 39) dX7_layRow_38 rfl ?_
        refine PW_aload0 (pc' := 40) dX7_layRow_39 rfl ?_
        refine PW_getI (pc' := 43) dX7_layRow_40 rfl fX7_84 rfl rfl ?_
        rw [pv_up_o (by decide), h3M]
        refine PW_iconst (pc' := 44) dX7_layRow_43 rfl (v := 1) (by first | rfl | decide) ?_
        refine PW_iadd (pc' := 45) dX7_layRow_44 rfl ?_
        rw [nI_1]
        refine PW_idiv (pc' := 46) dX7_layRow_45 rfl (nI_n0 hc) ?_
        rw [pk_div (by omega) (by omega) (by omega), hdv]
        refine PW_istore2 (pc' := 47) dX7_layRow_46 rfl rfl rfl ?_
        refine PW_iinc3 (pc' := 50) dX7_layRow_47 rfl rfl rfl (v_dec k) ?_
        refine PW_goto (tgt := 4) dX7_layRow_50 rfl ?_
        refine ih _ _ (by omega) (fun p hp2 => by rw [pv_up_o hp2]; exact hp p hp2) (fun x hx1 hx2 => ?_)
        rw [pv_up_at]
        by_cases hxk : x = k
        · rw [if_pos ⟨rfl, hxk⟩, hxk, ed]
          rfl
        · rw [if_neg (fun z => hxk z.2)]
          exact hx x (by omega) hx2
      · have hd0 : n / (c + 1) ^ (5 - k) % (c + 1) = 0 := nI_inj (by omega) (by decide) h25
        have ed : s_rn c n k = none := if_pos hd0
        refine PW_bipush (pc' := 30) dX7_layRow_28 rfl (v := -9) (by first | rfl | decide) ?_
        refine PW_goto (tgt := 37) dX7_layRow_30 rfl ?_
        try rw [nI_m1 (by omega)]
        refine PW_iastn (pc' := 38) dX7_layRow_37 rfl rfl rfl (by omega) ?_
        refine PW_iload2 (pc' := 39) dX7_layRow_38 rfl ?_
        refine PW_aload0 (pc' := 40) dX7_layRow_39 rfl ?_
        refine PW_getI (pc' := 43) dX7_layRow_40 rfl fX7_84 rfl rfl ?_
        rw [pv_up_o (by decide), h3M]
        refine PW_iconst (pc' := 44) dX7_layRow_43 rfl (v := 1) (by first | rfl | decide) ?_
        refine PW_iadd (pc' := 45) dX7_layRow_44 rfl ?_
        rw [nI_1]
        refine PW_idiv (pc' := 46) dX7_layRow_45 rfl (nI_n0 hc) ?_
        rw [pk_div (by omega) (by omega) (by omega), hdv]
        refine PW_istore2 (pc' := 47) dX7_layRow_46 rfl rfl rfl ?_
        refine PW_iinc3 (pc' := 50) dX7_layRow_47 rfl rfl rfl (v_dec k) ?_
        refine PW_goto (tgt := 4) dX7_layRow_50 rfl ?_
        refine ih _ _ (by omega) (fun p hp2 => by rw [pv_up_o hp2]; exact hp p hp2) (fun x hx1 hx2 => ?_)
        rw [pv_up_at]
        by_cases hxk : x = k
        · rw [if_pos ⟨rfl, hxk⟩, hxk, ed]
          rfl
        · rw [if_neg (fun z => hxk z.2)]
          exact hx x (by omega) hx2
set_option maxHeartbeats 4000000 in
theorem c_X7_layRow {Γ : pv_G} {d : Nat} {M : pv_M} {c n : Nat} (hc : c ≤ 5) (hn : n < (c + 1) ^ 6) (h3 : M 29 3 = nI c) : Ct Γ d vX7_layRow [.ref 29, .int (nI n)] M (fun r M' => r = none ∧ a_lay c n M M') := by
  refine Ct.of oX7_layRow.1 rfl (pad := 3) rfl ?_
  show PW Γ d vX7_layRow 0 [.ref 29, .int (nI n), .null, .null, .null] [] M _
  refine PW_iload1 (pc' := 1) dX7_layRow_0 rfl ?_
  refine PW_istore2 (pc' := 2) dX7_layRow_1 rfl rfl rfl ?_
  refine PW_iconst (pc' := 3) dX7_layRow_2 rfl (v := iI (((6 : Nat) : Int) - 1)) (by first | rfl | decide) ?_
  refine PW_istore3 (pc' := 4) dX7_layRow_3 rfl rfl rfl ?_
  have hgo := l_X7_layRow (Γ := Γ) (d := d) (M0 := M) hc hn h3 6 M .null (by omega) (fun _ _ => rfl) (fun x hx1 hx2 => by omega)
  rw [show 6 - 6 = 0 from rfl, Nat.pow_zero, Nat.div_one] at hgo
  exact hgo
