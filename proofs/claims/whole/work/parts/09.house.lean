/-! the class: its house of things -/
set_option maxHeartbeats 4000000 in
theorem c_X6_isIn {Γ : pv_G} {d : Nat} {M : pv_M} {a t : Nat} (ha : a < 64) (ht : t < 6) : Ct Γ d vX6_isIn [.int (nI a), .int (nI t)] M (pv_fn (some (.int (bi (a.testBit t)))) M) := by
  refine Ct.of oX6_isIn.1 rfl (pad := 0) rfl ?_
  show PW Γ d vX6_isIn 0 [.int (nI a), .int (nI t)] [] M _
  refine PW_iload0 (pc' := 1) dX6_isIn_0 rfl ?_
  refine PW_iload1 (pc' := 2) dX6_isIn_1 rfl ?_
  refine PW_ishr (pc' := 3) dX6_isIn_2 rfl ?_
  refine PW_iconst (pc' := 4) dX6_isIn_3 rfl (v := 1) (by first | rfl | decide) ?_
  refine PW_iand (pc' := 5) dX6_isIn_4 rfl ?_
  refine PW_if_eq (tgt := 12) (pc' := 8) dX6_isIn_5 rfl rfl (fun h5 => ?_) (fun h5 => ?_)
  · refine PW_iconst (pc' := 13) dX6_isIn_12 rfl (v := 0) (by first | rfl | decide) ?_
    refine PW_ireturn .boolean dX6_isIn_13 rfl (by first | rfl | exact bi_nar _) ?_
    refine ⟨?_, rfl⟩
    rw [bt_in a ha t ht] at h5
    first | rw [bi_one (bi_t h5)] | rw [bi_zero (bi_f h5)]
  · refine PW_iconst (pc' := 9) dX6_isIn_8 rfl (v := 1) (by first | rfl | decide) ?_
    refine PW_goto (tgt := 13) dX6_isIn_9 rfl ?_
    refine PW_ireturn .boolean dX6_isIn_13 rfl (by first | rfl | exact bi_nar _) ?_
    refine ⟨?_, rfl⟩
    rw [bt_in a ha t ht] at h5
    first | rw [bi_one (bi_t h5)] | rw [bi_zero (bi_f h5)]
set_option maxHeartbeats 4000000 in
theorem c_X0_has {Γ : pv_G} {d : Nat} {M : pv_M} {n : Nat} {t : Int32} (hc : M 10 1 = nI n) : Ct Γ d vX0_has [.ref 10, .int t] M (pv_fn (some (.int (bi (s_hasB (nI n) t)))) M) := by
  refine Ct.of oX0_has.1 rfl (pad := 0) rfl ?_
  show PW Γ d vX0_has 0 [.ref 10, .int t] [] M _
  refine PW_iload1 (pc' := 1) dX0_has_0 rfl ?_
  refine PW_if_lt (tgt := 16) (pc' := 4) dX0_has_1 rfl rfl (fun h1 => ?_) (fun h1 => ?_)
  · refine PW_iconst (pc' := 17) dX0_has_16 rfl (v := 0) (by first | rfl | decide) ?_
    refine PW_ireturn .boolean dX0_has_17 rfl (by first | rfl | exact bi_nar _) ?_
    refine ⟨?_, rfl⟩
    first | rw [bi_zero (show s_hasB (nI n) t = false by simp_all [s_hasB])] | rw [bi_one (show s_hasB (nI n) t = true by simp_all [s_hasB])]
  · refine PW_iload1 (pc' := 5) dX0_has_4 rfl ?_
    refine PW_aload0 (pc' := 6) dX0_has_5 rfl ?_
    refine PW_getI (pc' := 9) dX0_has_6 rfl fX0_18 rfl rfl ?_
    refine PW_icmp_ge (tgt := 16) (pc' := 12) dX0_has_9 rfl rfl (fun h9 => ?_) (fun h9 => ?_)
    · refine PW_iconst (pc' := 17) dX0_has_16 rfl (v := 0) (by first | rfl | decide) ?_
      refine PW_ireturn .boolean dX0_has_17 rfl (by first | rfl | exact bi_nar _) ?_
      refine ⟨?_, rfl⟩
      first | rw [bi_zero (show s_hasB (nI n) t = false by simp_all [s_hasB])] | rw [bi_one (show s_hasB (nI n) t = true by simp_all [s_hasB])]
    · refine PW_iconst (pc' := 13) dX0_has_12 rfl (v := 1) (by first | rfl | decide) ?_
      refine PW_goto (tgt := 17) dX0_has_13 rfl ?_
      refine PW_ireturn .boolean dX0_has_17 rfl (by first | rfl | exact bi_nar _) ?_
      refine ⟨?_, rfl⟩
      first | rw [bi_zero (show s_hasB (nI n) t = false by simp_all [s_hasB])] | rw [bi_one (show s_hasB (nI n) t = true by simp_all [s_hasB])]
theorem s_pos_t {n : Nat} (hn : n ≤ 5) (h : ¬ nI n ≤ 0) : decide (0 < n) = true := by
  rcases Nat.eq_zero_or_pos n with rfl | h1
  · exact absurd (by decide) h
  · simp [h1]
theorem s_pos_f {n : Nat} (hn : n ≤ 5) (h : nI n ≤ 0) : decide (0 < n) = false := by
  rcases Nat.eq_zero_or_pos n with rfl | h1
  · rfl
  · exact absurd h (nI_nle h1 (by omega))
set_option maxHeartbeats 4000000 in
theorem c_X0_stands {Γ : pv_G} {d : Nat} {M : pv_M} {n : Nat} (hn : n ≤ 5) (hc : M 10 1 = nI n) : Ct Γ d vX0_stands [.ref 10] M (pv_fn (some (.int (bi (decide (0 < n))))) M) := by
  refine Ct.of oX0_stands.1 rfl (pad := 0) rfl ?_
  show PW Γ d vX0_stands 0 [.ref 10] [] M _
  refine PW_aload0 (pc' := 1) dX0_stands_0 rfl ?_
  refine PW_getI (pc' := 4) dX0_stands_1 rfl fX0_18 rfl rfl ?_
  refine PW_if_le (tgt := 11) (pc' := 7) dX0_stands_4 rfl rfl (fun h4 => ?_) (fun h4 => ?_)
  · refine PW_iconst (pc' := 12) dX0_stands_11 rfl (v := 0) (by first | rfl | decide) ?_
    refine PW_ireturn .boolean dX0_stands_12 rfl (by first | rfl | exact bi_nar _) ?_
    refine ⟨?_, rfl⟩
    rw [hc] at h4
    first | rw [s_pos_f hn h4]; rfl | rw [s_pos_t hn h4]; rfl
  · refine PW_iconst (pc' := 8) dX0_stands_7 rfl (v := 1) (by first | rfl | decide) ?_
    refine PW_goto (tgt := 12) dX0_stands_8 rfl ?_
    refine PW_ireturn .boolean dX0_stands_12 rfl (by first | rfl | exact bi_nar _) ?_
    refine ⟨?_, rfl⟩
    rw [hc] at h4
    first | rw [s_pos_f hn h4]; rfl | rw [s_pos_t hn h4]; rfl
def v_val (k w : Int32) : Int32 := if k = 2 then 2 * (w + 1) else if k = 1 then w + 1 else w
theorem v_val_eq {H : s_H} (hok : s_ok H) {t : Nat} (ht : t < H.1) : v_val (nI (H.2.2.2 0 t)) (nI (H.2.2.2 2 t)) = nI (s_val H t) := by
  have hk := (hok.2.2.2 t ht).1
  rcases (show H.2.2.2 0 t = 0 ∨ H.2.2.2 0 t = 1 ∨ H.2.2.2 0 t = 2 by omega) with h | h | h
  · simp only [s_val, h, v_val]
    rfl
  · simp only [s_val, h, v_val]
    exact nI_1 _
  · simp only [s_val, h, v_val]
    rw [if_pos (by decide), nI_1]
    exact nI_mul 2 _
set_option maxHeartbeats 4000000 in
theorem c_X5_value {Γ : pv_G} {d : Nat} {M : pv_M} {t : Nat} {H : s_H} (ht : t < H.1) (hH : HX M H) : Ct Γ d vX5_value [.ref (12 + t)] M (pv_fn (some (.int (nI (s_val H t)))) M) := by
  obtain ⟨hok, hc1, hc2, hc3, hf⟩ := hH
  have h5 : t < 5 := Nat.lt_of_lt_of_le ht hok.1
  have hv := v_val_eq hok ht
  rw [← hf t ht 0 (by decide), ← hf t ht 2 (by decide)] at hv
  refine Ct.of oX5_value.1 rfl (pad := 0) rfl ?_
  show PW Γ d vX5_value 0 [.ref (12 + t)] [] M _
  refine PW_aload0 (pc' := 1) dX5_value_0 rfl ?_
  refine PW_getI (pc' := 4) dX5_value_1 rfl fX5_9 (pv_lay_thing (by omega)) rfl ?_
  refine PW_iconst (pc' := 5) dX5_value_4 rfl (v := 2) (by first | rfl | decide) ?_
  refine PW_icmp_ne (tgt := 17) (pc' := 8) dX5_value_5 rfl rfl (fun h5 => ?_) (fun h5 => ?_)
  · refine PW_aload0 (pc' := 18) dX5_value_17 rfl ?_
    refine PW_getI (pc' := 21) dX5_value_18 rfl fX5_9 (pv_lay_thing (by omega)) rfl ?_
    refine PW_iconst (pc' := 22) dX5_value_21 rfl (v := 1) (by first | rfl | decide) ?_
    refine PW_icmp_ne (tgt := 34) (pc' := 25) dX5_value_22 rfl rfl (fun h22 => ?_) (fun h22 => ?_)
    · refine PW_aload0 (pc' := 35) dX5_value_34 rfl ?_
      refine PW_getI (pc' := 38) dX5_value_35 rfl fX5_15 (pv_lay_thing (by omega)) rfl ?_
      refine PW_ireturn .int dX5_value_38 rfl rfl ?_
      refine ⟨?_, rfl⟩
      rw [← hv]
      simp_all [v_val]
    · refine PW_aload0 (pc' := 26) dX5_value_25 rfl ?_
      refine PW_getI (pc' := 29) dX5_value_26 rfl fX5_15 (pv_lay_thing (by omega)) rfl ?_
      refine PW_iconst (pc' := 30) dX5_value_29 rfl (v := 1) (by first | rfl | decide) ?_
      refine PW_iadd (pc' := 31) dX5_value_30 rfl ?_
      refine PW_goto (tgt := 38) dX5_value_31 rfl ?_
      refine PW_ireturn .int dX5_value_38 rfl rfl ?_
      refine ⟨?_, rfl⟩
      rw [← hv]
      simp_all [v_val]
  · refine PW_iconst (pc' := 9) dX5_value_8 rfl (v := 2) (by first | rfl | decide) ?_
    refine PW_aload0 (pc' := 10) dX5_value_9 rfl ?_
    refine PW_getI (pc' := 13) dX5_value_10 rfl fX5_15 (pv_lay_thing (by omega)) rfl ?_
    refine PW_iconst (pc' := 14) dX5_value_13 rfl (v := 1) (by first | rfl | decide) ?_
    refine PW_iadd (pc' := 15) dX5_value_14 rfl ?_
    refine PW_imul (pc' := 16) dX5_value_15 rfl ?_
    refine PW_ireturn .int dX5_value_16 rfl rfl ?_
    refine ⟨?_, rfl⟩
    rw [← hv]
    simp_all [v_val]
set_option maxHeartbeats 4000000 in
theorem c_X5_span {Γ : pv_G} {d : Nat} {M : pv_M} {t h : Nat} {H : s_H} (ht : t < H.1) (hh : h < 6) (hH : HX M H) : Ct Γ d vX5_span [.ref (12 + t), .int (nI h)] M (pv_fn (some (.int (nI (s_span (H.2.2.2 3 t) h)))) M) := by
  obtain ⟨hok, hc1, hc2, hc3, hf⟩ := hH
  have h5 : t < 5 := Nat.lt_of_lt_of_le ht hok.1
  have hs := (hok.2.2.2 t ht).2.2.2.1
  refine Ct.of oX5_span.1 rfl (pad := 0) rfl ?_
  show PW Γ d vX5_span 0 [.ref (12 + t), .int (nI h)] [] M _
  refine PW_iconst (pc' := 1) dX5_span_0 rfl (v := 1) (by first | rfl | decide) ?_
  refine PW_aload0 (pc' := 2) dX5_span_1 rfl ?_
  refine PW_getI (pc' := 5) dX5_span_2 rfl fX5_18 (pv_lay_thing (by omega)) rfl ?_
  refine PW_ishl (pc' := 6) dX5_span_5 rfl ?_
  refine PW_iconst (pc' := 7) dX5_span_6 rfl (v := 1) (by first | rfl | decide) ?_
  refine PW_isub (pc' := 8) dX5_span_7 rfl ?_
  refine PW_iload1 (pc' := 9) dX5_span_8 rfl ?_
  refine PW_ishl (pc' := 10) dX5_span_9 rfl ?_
  refine PW_bipush (pc' := 12) dX5_span_10 rfl (v := 63) (by first | rfl | decide) ?_
  refine PW_iand (pc' := 13) dX5_span_12 rfl ?_
  refine PW_ireturn .int dX5_span_13 rfl rfl ?_
  refine ⟨?_, rfl⟩
  rw [hf t ht 3 (by decide), bt_sp _ (by omega) h hh]
