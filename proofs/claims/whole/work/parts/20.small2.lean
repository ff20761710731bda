/-! the class: readings, sheets, parts -/
set_option maxHeartbeats 4000000 in
theorem c_X6_reading {Γ : pv_G} {d : Nat} {M : pv_M} {a : s_A} {t h : Int32} {w : Bool} (hA : AX M a) : Ct Γ (d + 1) vX6_reading [.ref 0, .int t, .int h, .int (bi w)] M (o_X (op_reading t h w a) M) := by
  obtain ⟨hH, hR, hSh, hfl, htr⟩ := id hA
  obtain ⟨hok, hc1, hc2, hc3, hf⟩ := id hH
  have hn5 := hok.1
  refine Ct.of oX6_reading.1 rfl (pad := 0) rfl ?_
  show PW Γ (d + 1) vX6_reading 0 [.ref 0, .int t, .int h, .int (bi w)] [] M _
  refine PW_aload0 (pc' := 1) dX6_reading_0 rfl ?_
  refine PW_getR (pc' := 4) dX6_reading_1 rfl fX6_21 rfl rfl ?_
  refine PW_iload1 (pc' := 5) dX6_reading_4 rfl ?_
  refine PW_callV1f (pc' := 8) dX6_reading_5 rfl oX0_has lX6_79 rfl rfl rfl (Nat.le_of_ble_eq_true rfl) (c_X0_hasb hn5 hc1) ?_
  refine PW_if_ne (tgt := 13) (pc' := 11) dX6_reading_8 rfl rfl (fun h8 => ?_) (fun h8 => ?_)
  · have q := bi_t h8
    obtain ⟨j, hj, rfl⟩ := s_hb_of hn5 q
    have hj2 : j < 2 ^ 31 := by omega
    refine PW_iload2 (pc' := 14) dX6_reading_13 rfl ?_
    refine PW_callS1f (pc' := 17) dX6_reading_14 rfl oX6_isHour lX6_165 (Nat.le_of_ble_eq_true rfl) (c_X6_isHour) ?_
    refine PW_if_ne (tgt := 23) (pc' := 20) dX6_reading_17 rfl rfl (fun h17 => ?_) (fun h17 => ?_)
    · have q2 := bi_t h17
      obtain ⟨u, hu, rfl⟩ := s_rng_of (n := 5) q2
      have hu2 : u < 2 ^ 31 := by omega
      refine PW_aload0 (pc' := 24) dX6_reading_23 rfl ?_
      refine PW_getR (pc' := 27) dX6_reading_24 rfl fX6_28 rfl rfl ?_
      refine PW_iload1 (pc' := 28) dX6_reading_27 rfl ?_
      refine PW_iload2 (pc' := 29) dX6_reading_28 rfl ?_
      refine PW_iload3 (pc' := 30) dX6_reading_29 rfl ?_
      refine PW_callV3f (pc' := 33) dX6_reading_30 rfl oX1_add lX6_168 rfl rfl rfl (Nat.le_of_ble_eq_true rfl) (c_X1_add hR.1 hR.2.1 (vp_nar_bool w)) ?_
      refine PW_ireturn .int dX6_reading_33 rfl rfl ?_
      obtain ⟨r1, r2, r3⟩ := id hR
      by_cases h8 : a.2.1.1 < 8
      · rw [if_pos h8, if_pos h8]
        refine ⟨by simp [op_reading, s_hb, q, q2, h8], ?_, ((((frX.rf.up (by decide)).up (by decide)).up (by decide)).up (by decide))⟩
        have hfr : fr [17, 18, 19, 20] M (pv_up (pv_up (pv_up (pv_up M 18 a.2.1.1 (nI j)) 19 a.2.1.1 (nI u)) 20 a.2.1.1 (bi w)) 17 3 (nI (a.2.1.1 + 1))) := (((fr.up fr.rf (by decide)).up (by decide)).up (by decide)).up (by decide)
        have := hA.rd (r := (a.2.1.1 + 1, fun i => if i = a.2.1.1 then j else a.2.1.2.1 i, fun i => if i = a.2.1.1 then u else a.2.1.2.2.1 i, fun i => if i = a.2.1.1 then w else a.2.1.2.2.2 i)) ⟨by simp [pv_up_at], by show a.2.1.1 + 1 ≤ 8; omega, fun i hi => ?_⟩ hfr
        · simpa [op_reading, s_hb, q, q2, h8, ix_nI hj2, ix_nI hu2] using this
        · have hi : i < a.2.1.1 + 1 := hi
          by_cases hq : i = a.2.1.1
          · subst hq
            refine ⟨⟨?_, ?_⟩, ⟨?_, ?_⟩, ?_⟩
            · simp [pv_up_at]
            · simpa using hj
            · simp [pv_up_at]
            · simp; omega
            · simp [pv_up_at]
          · obtain ⟨⟨g1, g2⟩, ⟨g3, g4⟩, g5⟩ := r3 i (by omega)
            refine ⟨⟨?_, ?_⟩, ⟨?_, ?_⟩, ?_⟩
            · simpa [pv_up_at, hq] using g1
            · simpa [hq] using g2
            · simpa [pv_up_at, hq] using g3
            · simpa [hq] using g4
            · simpa [pv_up_at, hq] using g5
      · rw [if_neg h8, if_neg h8]
        exact ⟨by simp [op_reading, s_hb, q, q2, h8], by simpa [op_reading, s_hb, q, q2, h8] using hA, frX.rf⟩
    · have q2 := bi_f h17
      refine PW_bipush (pc' := 22) dX6_reading_20 rfl (v := -2) (by first | rfl | decide) ?_
      refine PW_ireturn .int dX6_reading_22 rfl rfl ?_
      exact ⟨by simp [op_reading, s_hb, q, q2], by simpa [op_reading, s_hb, q, q2] using hA, frX.rf⟩
  · have q := bi_f h8
    refine PW_iconst (pc' := 12) dX6_reading_11 rfl (v := -1) (by first | rfl | decide) ?_
    refine PW_ireturn .int dX6_reading_12 rfl rfl ?_
    exact ⟨by simp [op_reading, s_hb, q], by simpa [op_reading, s_hb, q] using hA, frX.rf⟩
set_option maxHeartbeats 4000000 in
theorem c_X6_back {Γ : pv_G} {d : Nat} {M : pv_M} {a : s_A} {k : Int32} (hA : AX M a) : Ct Γ d vX6_back [.ref 0, .int k] M (o_X (op_back k a) M) := by
  obtain ⟨hH, hR, hSh, hfl, htr⟩ := id hA
  obtain ⟨hok, hc1, hc2, hc3, hf⟩ := id hH
  have hn5 := hok.1
  refine Ct.of oX6_back.1 rfl (pad := 0) rfl ?_
  show PW Γ d vX6_back 0 [.ref 0, .int k] [] M _
  refine PW_iload1 (pc' := 1) dX6_back_0 rfl ?_
  refine PW_if_lt (tgt := 15) (pc' := 4) dX6_back_1 rfl rfl (fun h1 => ?_) (fun h1 => ?_)
  · rw [z_lt] at h1
    have q : s_rng k 0 a.2.1.1 = false := by
      simp only [s_rng, Bool.and_eq_false_iff, decide_eq_false_iff_not]
      omega
    refine PW_bipush (pc' := 17) dX6_back_15 rfl (v := -2) (by first | rfl | decide) ?_
    refine PW_ireturn .int dX6_back_17 rfl rfl ?_
    exact ⟨by simp [op_back, q], by simpa [op_back, q] using hA, frX.rf⟩
  · rw [z_lt] at h1
    refine PW_iload1 (pc' := 5) dX6_back_4 rfl ?_
    refine PW_aload0 (pc' := 6) dX6_back_5 rfl ?_
    refine PW_getR (pc' := 9) dX6_back_6 rfl fX6_28 rfl rfl ?_
    refine PW_getI (pc' := 12) dX6_back_9 rfl fX6_75 rfl rfl ?_
    rw [hR.1]
    refine PW_icmp_le (tgt := 18) (pc' := 15) dX6_back_12 rfl rfl (fun h12 => ?_) (fun h12 => ?_)
    · simp only [Int32.le_iff_toInt_le, nI_toInt (show a.2.1.1 < 2 ^ 31 by have := hR.2.1; omega)] at h12
      have q : s_rng k 0 a.2.1.1 = true := by
        simp only [s_rng, Bool.and_eq_true, decide_eq_true_eq]
        omega
      obtain ⟨j, hj, rfl⟩ := s_rng_of (n := a.2.1.1) q
      have hr8 := hR.2.1
      have hj2 : j < 2 ^ 31 := by omega
      have e : nI a.2.1.1 - nI j = nI (a.2.1.1 - j) := by
        rw [show nI a.2.1.1 = nI (a.2.1.1 - j) + nI j by rw [nI_add]; congr 1; omega]
        exact Int32.add_sub_cancel _ _
      refine PW_aload0 (pc' := 19) dX6_back_18 rfl ?_
      refine PW_getR (pc' := 22) dX6_back_19 rfl fX6_28 rfl rfl ?_
      refine PW_dupR (pc' := 23) dX6_back_22 rfl ?_
      refine PW_getI (pc' := 26) dX6_back_23 rfl fX6_75 rfl rfl ?_
      refine PW_iload1 (pc' := 27) dX6_back_26 rfl ?_
      rw [show M 17 3 = nI a.2.1.1 from hR.1]
      refine PW_isub (pc' := 28) dX6_back_27 rfl ?_
      rw [show nI a.2.1.1 - nI j = nI (a.2.1.1 - j) from e]
      refine PW_putI (pc' := 31) dX6_back_28 rfl fX6_75 w1_3 rfl rfl ?_
      refine PW_aload0 (pc' := 32) dX6_back_31 rfl ?_
      refine PW_getR (pc' := 35) dX6_back_32 rfl fX6_28 rfl rfl ?_
      refine PW_getI (pc' := 38) dX6_back_35 rfl fX6_75 rfl rfl ?_
      refine PW_ireturn .int dX6_back_38 rfl rfl ?_
      rw [pv_up_at, if_pos ⟨rfl, rfl⟩]
      refine ⟨by simp [op_back, q, ix_nI hj2], ?_, frX.rf.up (by decide)⟩
      obtain ⟨r1, r2, r3⟩ := id hR
      have := hA.rd (M' := pv_up M 17 3 (nI (a.2.1.1 - j))) (r := (a.2.1.1 - j, a.2.1.2.1, a.2.1.2.2.1, a.2.1.2.2.2)) ⟨by simp [pv_up_at], by show a.2.1.1 - j ≤ 8; omega, fun i hi => by have hi : i < a.2.1.1 - j := hi; simpa [pv_up_at] using r3 i (by omega)⟩ (fr.up fr.rf (by decide))
      simpa [op_back, q, ix_nI hj2] using this
    · simp only [Int32.le_iff_toInt_le, nI_toInt (show a.2.1.1 < 2 ^ 31 by have := hR.2.1; omega)] at h12
      have q : s_rng k 0 a.2.1.1 = false := by
        simp only [s_rng, Bool.and_eq_false_iff, decide_eq_false_iff_not]
        omega
      refine PW_bipush (pc' := 17) dX6_back_15 rfl (v := -2) (by first | rfl | decide) ?_
      refine PW_ireturn .int dX6_back_17 rfl rfl ?_
      exact ⟨by simp [op_back, q], by simpa [op_back, q] using hA, frX.rf⟩
set_option maxHeartbeats 4000000 in
theorem c_X6_as {Γ : pv_G} {d : Nat} {M : pv_M} {a : s_A} {t k : Int32} (hA : AX M a) : Ct Γ (d + 1) vX6_as [.ref 0, .int t, .int k] M (o_X (op_as t k a) M) := by
  obtain ⟨hH, hR, hSh, hfl, htr⟩ := id hA
  obtain ⟨hok, hc1, hc2, hc3, hf⟩ := id hH
  have hn5 := hok.1
  refine Ct.of oX6_as.1 rfl (pad := 0) rfl ?_
  show PW Γ (d + 1) vX6_as 0 [.ref 0, .int t, .int k] [] M _
  refine PW_aload0 (pc' := 1) dX6_as_0 rfl ?_
  refine PW_iconst (pc' := 2) dX6_as_1 rfl (v := 0) (by first | rfl | decide) ?_
  refine PW_putI (pc' := 5) dX6_as_2 rfl fX6_43 w5_5 rfl rfl ?_
  refine PW_aload0 (pc' := 6) dX6_as_5 rfl ?_
  refine PW_getR (pc' := 9) dX6_as_6 rfl fX6_21 rfl rfl ?_
  refine PW_iload1 (pc' := 10) dX6_as_9 rfl ?_
  refine PW_callV1f (pc' := 13) dX6_as_10 rfl oX0_has lX6_79 rfl rfl rfl (Nat.le_of_ble_eq_true rfl) (c_X0_hasb hn5 (show (pv_up M 0 5 0) 10 1 = nI a.1.1 from hc1)) ?_
  refine PW_if_ne (tgt := 18) (pc' := 16) dX6_as_13 rfl rfl (fun h13 => ?_) (fun h13 => ?_)
  · have q := bi_t h13
    obtain ⟨j, hj, rfl⟩ := s_hb_of hn5 q
    have hj2 : j < 2 ^ 31 := by omega
    refine PW_iload2 (pc' := 19) dX6_as_18 rfl ?_
    refine PW_if_lt (tgt := 27) (pc' := 22) dX6_as_19 rfl rfl (fun h19 => ?_) (fun h19 => ?_)
    · rw [z_lt] at h19
      have q2 : s_rng k 0 2 = false := by
        simp only [s_rng, Bool.and_eq_false_iff, decide_eq_false_iff_not]
        omega
      refine PW_bipush (pc' := 29) dX6_as_27 rfl (v := -2) (by first | rfl | decide) ?_
      refine PW_ireturn .int dX6_as_29 rfl rfl ?_
      exact ⟨by simp [op_as, s_hb, q, q2], by simpa [op_as, s_hb, q, q2] using hA.fault 0, frX.rf.up (by decide)⟩
    · rw [z_lt] at h19
      refine PW_iload2 (pc' := 23) dX6_as_22 rfl ?_
      refine PW_iconst (pc' := 24) dX6_as_23 rfl (v := nI 3) (by first | rfl | decide) ?_
      refine PW_icmp_lt (tgt := 30) (pc' := 27) dX6_as_24 rfl rfl (fun h24 => ?_) (fun h24 => ?_)
      · simp only [Int32.lt_iff_toInt_lt, Int32.le_iff_toInt_le, nI_toInt (show 3 < 2 ^ 31 by decide)] at h24
        have q2 : s_rng k 0 2 = true := by
          simp only [s_rng, Bool.and_eq_true, decide_eq_true_eq]
          omega
        obtain ⟨u, hu, rfl⟩ := s_rng_of (n := 2) q2
        have hu2 : u < 2 ^ 31 := by omega
        have hk2 := (hok.2.2.2 j hj).1
        refine PW_aload0 (pc' := 31) dX6_as_30 rfl ?_
        refine PW_getR (pc' := 34) dX6_as_31 rfl fX6_21 rfl rfl ?_
        refine PW_getR (pc' := 37) dX6_as_34 rfl fX6_82 rfl rfl ?_
        refine PW_iload1 (pc' := 38) dX6_as_37 rfl ?_
        refine PW_aald3 (pc' := 39) dX6_as_38 rfl (by omega) ?_
        refine PW_getI (pc' := 42) dX6_as_39 rfl fX6_86 (pv_lay_thing (by omega)) rfl ?_
        rw [show (pv_up M 0 5 0) (12 + j) 0 = nI (a.1.2.2.2 0 j) by rw [pv_up_o (by omega)]; exact hf j hj 0 (by decide)]
        refine PW_iload2 (pc' := 43) dX6_as_42 rfl ?_
        refine PW_icmp_lt (tgt := 50) (pc' := 46) dX6_as_43 rfl rfl (fun h43 => ?_) (fun h43 => ?_)
        · rw [nI_ltI (by omega) (by omega)] at h43
          have q3 : ¬ u ≤ a.1.2.2.2 0 j := by omega
          refine PW_aload0 (pc' := 51) dX6_as_50 rfl ?_
          refine PW_iconst (pc' := 52) dX6_as_51 rfl (v := 2) (by first | rfl | decide) ?_
          refine PW_callV1f (pc' := 55) dX6_as_52 rfl oX6_answerFault lX6_58 rfl rfl rfl (Nat.le_of_ble_eq_true rfl) (c_X6_answerFault) ?_
          refine PW_ireturn .int dX6_as_55 rfl rfl ?_
          first
            | exact ⟨by simp [op_as, s_hb, q, q2, ix_nI hj2, ix_nI hu2, show u ≤ a.1.2.2.2 0 j by omega], by simpa [op_as, s_hb, q, q2, ix_nI hj2, ix_nI hu2, show u ≤ a.1.2.2.2 0 j by omega] using hA.fault 0, frX.rf.up (by decide)⟩
            | exact ⟨by simp [op_as, s_hb, q, q2, ix_nI hj2, ix_nI hu2, q3], by simpa [op_as, s_hb, q, q2, ix_nI hj2, ix_nI hu2, q3, a_flt] using (hA.fault 0).fault 2, (frX.rf.up (by decide)).up (by decide)⟩
        · rw [nI_ltI (by omega) (by omega)] at h43
          have q3 : u ≤ a.1.2.2.2 0 j := by omega
          refine PW_iconst (pc' := 47) dX6_as_46 rfl (v := 1) (by first | rfl | decide) ?_
          refine PW_goto (tgt := 55) dX6_as_47 rfl ?_
          refine PW_ireturn .int dX6_as_55 rfl rfl ?_
          first
            | exact ⟨by simp [op_as, s_hb, q, q2, ix_nI hj2, ix_nI hu2, show u ≤ a.1.2.2.2 0 j by omega], by simpa [op_as, s_hb, q, q2, ix_nI hj2, ix_nI hu2, show u ≤ a.1.2.2.2 0 j by omega] using hA.fault 0, frX.rf.up (by decide)⟩
            | exact ⟨by simp [op_as, s_hb, q, q2, ix_nI hj2, ix_nI hu2, q3], by simpa [op_as, s_hb, q, q2, ix_nI hj2, ix_nI hu2, q3, a_flt] using (hA.fault 0).fault 2, (frX.rf.up (by decide)).up (by decide)⟩
      · simp only [Int32.lt_iff_toInt_lt, Int32.le_iff_toInt_le, nI_toInt (show 3 < 2 ^ 31 by decide)] at h24
        have q2 : s_rng k 0 2 = false := by
          simp only [s_rng, Bool.and_eq_false_iff, decide_eq_false_iff_not]
          omega
        refine PW_bipush (pc' := 29) dX6_as_27 rfl (v := -2) (by first | rfl | decide) ?_
        refine PW_ireturn .int dX6_as_29 rfl rfl ?_
        exact ⟨by simp [op_as, s_hb, q, q2], by simpa [op_as, s_hb, q, q2] using hA.fault 0, frX.rf.up (by decide)⟩
  · have q := bi_f h13
    refine PW_iconst (pc' := 17) dX6_as_16 rfl (v := -1) (by first | rfl | decide) ?_
    refine PW_ireturn .int dX6_as_17 rfl rfl ?_
    exact ⟨by simp [op_as, s_hb, q], by simpa [op_as, s_hb, q] using hA.fault 0, frX.rf.up (by decide)⟩
set_option maxHeartbeats 4000000 in
theorem c_X6_thingTells {Γ : pv_G} {d : Nat} {M : pv_M} {j : Nat} (hj : j < 5) : Ct Γ (d + 1) vX6_thingTells [.ref 0, .ref (12 + j)] M (pv_fn (some (.int (M (12 + j) 2))) (pv_up M 0 6 (s_t1 (M 0 6)))) := by
  refine Ct.of oX6_thingTells.1 rfl (pad := 0) rfl ?_
  show PW Γ (d + 1) vX6_thingTells 0 [.ref 0, .ref (12 + j)] [] M _
  refine PW_aload0 (pc' := 1) dX6_thingTells_0 rfl ?_
  refine PW_iconst (pc' := 2) dX6_thingTells_1 rfl (v := 1) (by first | rfl | decide) ?_
  refine PW_callV1v (pc' := 5) dX6_thingTells_2 rfl oX6_leave lX6_231 rfl rfl rfl (Nat.le_of_ble_eq_true rfl) (c_X6_leave) ?_
  refine PW_aload1 (pc' := 6) dX6_thingTells_5 rfl ?_
  refine PW_getI (pc' := 9) dX6_thingTells_6 rfl fX6_94 (pv_lay_thing (by omega)) rfl ?_
  rw [pv_up_o (show 12 + j ≠ 0 by omega)]
  refine PW_ireturn .int dX6_thingTells_9 rfl rfl ?_
  exact ⟨rfl, rfl⟩
theorem pv_up2 (M : pv_M) (p k : Nat) (v w : Int32) : pv_up (pv_up M p k v) p k w = pv_up M p k w := by
  funext q j
  simp only [pv_up_at]
  split <;> rfl
set_option maxHeartbeats 4000000 in
theorem c_X6_heirloomTells {Γ : pv_G} {d : Nat} {M : pv_M} {j : Nat} (hj : j < 5) : Ct Γ (d + 2) vX6_heirloomTells [.ref 0, .ref (12 + j)] M (pv_fn (some (.int (M (12 + j) 2 + 100))) (pv_up M 0 6 (s_t2 (M 0 6)))) := by
  refine Ct.of oX6_heirloomTells.1 rfl (pad := 0) rfl ?_
  show PW Γ (d + 2) vX6_heirloomTells 0 [.ref 0, .ref (12 + j)] [] M _
  refine PW_aload0 (pc' := 1) dX6_heirloomTells_0 rfl ?_
  refine PW_iconst (pc' := 2) dX6_heirloomTells_1 rfl (v := 2) (by first | rfl | decide) ?_
  refine PW_callV1v (pc' := 5) dX6_heirloomTells_2 rfl oX6_leave lX6_231 rfl rfl rfl (Nat.le_of_ble_eq_true rfl) (c_X6_leave) ?_
  refine PW_aload0 (pc' := 6) dX6_heirloomTells_5 rfl ?_
  refine PW_aload1 (pc' := 7) dX6_heirloomTells_6 rfl ?_
  refine PW_callV1f (pc' := 10) dX6_heirloomTells_7 rfl oX6_thingTells lX6_228 rfl rfl rfl (Nat.le_of_ble_eq_true rfl) (c_X6_thingTells hj) ?_
  rw [pv_up_o (show 12 + j ≠ 0 by omega)]
  refine PW_bipush (pc' := 12) dX6_heirloomTells_10 rfl (v := 100) (by first | rfl | decide) ?_
  refine PW_iadd (pc' := 13) dX6_heirloomTells_12 rfl ?_
  refine PW_ireturn .int dX6_heirloomTells_13 rfl rfl ?_
  refine ⟨rfl, ?_⟩
  rw [pv_up2]
  simp [pv_up_at, s_t2]
set_option maxHeartbeats 4000000 in
theorem c_X6_livingTells {Γ : pv_G} {d : Nat} {M : pv_M} {j : Nat} (hj : j < 5) : Ct Γ (d + 3) vX6_livingTells [.ref 0, .ref (12 + j)] M (pv_fn (some (.int (M (12 + j) 2 + 100 + M (12 + j) 2))) (pv_up M 0 6 (s_t1 (s_t2 (31 * M 0 6 + 3))))) := by
  refine Ct.of oX6_livingTells.1 rfl (pad := 1) rfl ?_
  show PW Γ (d + 3) vX6_livingTells 0 [.ref 0, .ref (12 + j), .null] [] M _
  refine PW_aload0 (pc' := 1) dX6_livingTells_0 rfl ?_
  refine PW_iconst (pc' := 2) dX6_livingTells_1 rfl (v := 3) (by first | rfl | decide) ?_
  refine PW_callV1v (pc' := 5) dX6_livingTells_2 rfl oX6_leave lX6_231 rfl rfl rfl (Nat.le_of_ble_eq_true rfl) (c_X6_leave) ?_
  refine PW_aload0 (pc' := 6) dX6_livingTells_5 rfl ?_
  refine PW_aload1 (pc' := 7) dX6_livingTells_6 rfl ?_
  refine PW_callV1f (pc' := 10) dX6_livingTells_7 rfl oX6_heirloomTells lX6_225 rfl rfl rfl (Nat.le_of_ble_eq_true rfl) (c_X6_heirloomTells hj) ?_
  refine PW_istore2 (pc' := 11) dX6_livingTells_10 rfl rfl rfl ?_
  refine PW_iload2 (pc' := 12) dX6_livingTells_11 rfl ?_
  refine PW_aload0 (pc' := 13) dX6_livingTells_12 rfl ?_
  refine PW_aload1 (pc' := 14) dX6_livingTells_13 rfl ?_
  refine PW_callV1f (pc' := 17) dX6_livingTells_14 rfl oX6_thingTells lX6_228 rfl rfl rfl (Nat.le_of_ble_eq_true rfl) (c_X6_thingTells hj) ?_
  refine PW_iadd (pc' := 18) dX6_livingTells_17 rfl ?_
  refine PW_ireturn .int dX6_livingTells_18 rfl rfl ?_
  simp only [pv_up_o (show 12 + j ≠ 0 by omega)]
  refine ⟨rfl, ?_⟩
  rw [pv_up2, pv_up2]
  simp [pv_up_at]
set_option maxHeartbeats 4000000 in
theorem c_X6_tell {Γ : pv_G} {d : Nat} {M : pv_M} {a : s_A} {t : Int32} (hA : AX M a) : Ct Γ (d + 4) vX6_tell [.ref 0, .int t] M (o_X (op_tell t a) M) := by
  obtain ⟨hH, hR, hSh, hfl, htr⟩ := id hA
  obtain ⟨hok, hc1, hc2, hc3, hf⟩ := id hH
  have hn5 := hok.1
  refine Ct.of oX6_tell.1 rfl (pad := 1) rfl ?_
  show PW Γ (d + 4) vX6_tell 0 [.ref 0, .int t, .null] [] M _
  refine PW_aload0 (pc' := 1) dX6_tell_0 rfl ?_
  refine PW_getR (pc' := 4) dX6_tell_1 rfl fX6_21 rfl rfl ?_
  refine PW_iload1 (pc' := 5) dX6_tell_4 rfl ?_
  refine PW_callV1f (pc' := 8) dX6_tell_5 rfl oX0_has lX6_79 rfl rfl rfl (Nat.le_of_ble_eq_true rfl) (c_X0_hasb hn5 hc1) ?_
  refine PW_if_ne (tgt := 13) (pc' := 11) dX6_tell_8 rfl rfl (fun h8 => ?_) (fun h8 => ?_)
  · have q := bi_t h8
    obtain ⟨j, hj, rfl⟩ := s_hb_of hn5 q
    have hj2 : j < 2 ^ 31 := by omega
    refine PW_aload0 (pc' := 14) dX6_tell_13 rfl ?_
    refine PW_getR (pc' := 17) dX6_tell_14 rfl fX6_21 rfl rfl ?_
    refine PW_getR (pc' := 20) dX6_tell_17 rfl fX6_82 rfl rfl ?_
    refine PW_iload1 (pc' := 21) dX6_tell_20 rfl ?_
    refine PW_aald3 (pc' := 22) dX6_tell_21 rfl (by omega) ?_
    refine PW_astore2 (pc' := 23) dX6_tell_22 rfl rfl rfl ?_
    refine PW_aload2 (pc' := 24) dX6_tell_23 rfl ?_
    refine PW_getI (pc' := 27) dX6_tell_24 rfl fX6_86 (pv_lay_thing (by omega)) rfl ?_
    rw [hf j hj 0 (by decide)]
    refine PW_iconst (pc' := 28) dX6_tell_27 rfl (v := 2) (by first | rfl | decide) ?_
    refine PW_icmp_ne (tgt := 37) (pc' := 31) dX6_tell_28 rfl rfl (fun h28 => ?_) (fun h28 => ?_)
    · have q3 : ¬ a.1.2.2.2 0 j = 2 := fun z => h28 (by rw [z]; rfl)
      refine PW_aload2 (pc' := 38) dX6_tell_37 rfl ?_
      refine PW_getI (pc' := 41) dX6_tell_38 rfl fX6_86 (pv_lay_thing (by omega)) rfl ?_
      rw [hf j hj 0 (by decide)]
      refine PW_iconst (pc' := 42) dX6_tell_41 rfl (v := 1) (by first | rfl | decide) ?_
      refine PW_icmp_ne (tgt := 53) (pc' := 45) dX6_tell_42 rfl rfl (fun h42 => ?_) (fun h42 => ?_)
      · have q4 : ¬ a.1.2.2.2 0 j = 1 := fun z => h42 (by rw [z]; rfl)
        refine PW_aload0 (pc' := 54) dX6_tell_53 rfl ?_
        refine PW_aload2 (pc' := 55) dX6_tell_54 rfl ?_
        refine PW_callV1f (pc' := 58) dX6_tell_55 rfl oX6_thingTells lX6_228 rfl rfl rfl (Nat.le_of_ble_eq_true rfl) (c_X6_thingTells (by omega)) ?_
        refine PW_ireturn .int dX6_tell_58 rfl rfl ?_
        simp only [hf j hj 2 (by decide), htr]
        first
          | (rw [show nI (a.1.2.2.2 2 j) + 100 = nI (a.1.2.2.2 2 j + 100) from nI_add _ 100]
             exact ⟨by simp [op_tell, s_hb, q, q4, ix_nI hj2], by simpa [op_tell, s_hb, q, q4, ix_nI hj2] using hA.trace _, frX.rf.up (by decide)⟩)
          | exact ⟨by simp [op_tell, s_hb, q, q3, q4, ix_nI hj2], by simpa [op_tell, s_hb, q, q3, q4, ix_nI hj2] using hA.trace _, frX.rf.up (by decide)⟩
      · have hk2 := (hok.2.2.2 j hj).1
        have q4 : a.1.2.2.2 0 j = 1 := nI_inj (by omega) (by decide) h42
        refine PW_aload0 (pc' := 46) dX6_tell_45 rfl ?_
        refine PW_aload2 (pc' := 47) dX6_tell_46 rfl ?_
        refine PW_callV1f (pc' := 50) dX6_tell_47 rfl oX6_heirloomTells lX6_225 rfl rfl rfl (Nat.le_of_ble_eq_true rfl) (c_X6_heirloomTells (by omega)) ?_
        refine PW_goto (tgt := 58) dX6_tell_50 rfl ?_
        refine PW_ireturn .int dX6_tell_58 rfl rfl ?_
        simp only [hf j hj 2 (by decide), htr]
        first
          | (rw [show nI (a.1.2.2.2 2 j) + 100 = nI (a.1.2.2.2 2 j + 100) from nI_add _ 100]
             exact ⟨by simp [op_tell, s_hb, q, q4, ix_nI hj2], by simpa [op_tell, s_hb, q, q4, ix_nI hj2] using hA.trace _, frX.rf.up (by decide)⟩)
          | exact ⟨by simp [op_tell, s_hb, q, q3, q4, ix_nI hj2], by simpa [op_tell, s_hb, q, q3, q4, ix_nI hj2] using hA.trace _, frX.rf.up (by decide)⟩
    · have hk2 := (hok.2.2.2 j hj).1
      have q3 : a.1.2.2.2 0 j = 2 := nI_inj (by omega) (by decide) h28
      refine PW_aload0 (pc' := 32) dX6_tell_31 rfl ?_
      refine PW_aload2 (pc' := 33) dX6_tell_32 rfl ?_
      refine PW_callV1f (pc' := 36) dX6_tell_33 rfl oX6_livingTells lX6_221 rfl rfl rfl (Nat.le_of_ble_eq_true rfl) (c_X6_livingTells (by omega)) ?_
      refine PW_ireturn .int dX6_tell_36 rfl rfl ?_
      simp only [hf j hj 2 (by decide), htr]
      have e : nI (a.1.2.2.2 2 j) + 100 + nI (a.1.2.2.2 2 j) = nI (2 * a.1.2.2.2 2 j + 100) := by
        rw [show (100 : Int32) = nI 100 from rfl, nI_add, nI_add]
        congr 1
        omega
      rw [e]
      exact ⟨by simp [op_tell, s_hb, q, q3, ix_nI hj2], by simpa [op_tell, s_hb, q, q3, ix_nI hj2] using hA.trace _, frX.rf.up (by decide)⟩
  · have q := bi_f h8
    refine PW_iconst (pc' := 12) dX6_tell_11 rfl (v := -1) (by first | rfl | decide) ?_
    refine PW_ireturn .int dX6_tell_12 rfl rfl ?_
    exact ⟨by simp [op_tell, s_hb, q], by simpa [op_tell, s_hb, q] using hA, frX.rf⟩
set_option maxHeartbeats 4000000 in
theorem c_X6_label {Γ : pv_G} {d : Nat} {M : pv_M} {a : s_A} {t : Int32} (hA : AX M a) : Ct Γ (d + 1) vX6_label [.ref 0, .int t] M (o_X (op_label t a) M) := by
  obtain ⟨hH, hR, hSh, hfl, htr⟩ := id hA
  obtain ⟨hok, hc1, hc2, hc3, hf⟩ := id hH
  have hn5 := hok.1
  refine Ct.of oX6_label.1 rfl (pad := 0) rfl ?_
  show PW Γ (d + 1) vX6_label 0 [.ref 0, .int t] [] M _
  refine PW_aload0 (pc' := 1) dX6_label_0 rfl ?_
  refine PW_getR (pc' := 4) dX6_label_1 rfl fX6_21 rfl rfl ?_
  refine PW_iload1 (pc' := 5) dX6_label_4 rfl ?_
  refine PW_callV1f (pc' := 8) dX6_label_5 rfl oX0_has lX6_79 rfl rfl rfl (Nat.le_of_ble_eq_true rfl) (c_X0_hasb hn5 hc1) ?_
  refine PW_if_ne (tgt := 13) (pc' := 11) dX6_label_8 rfl rfl (fun h8 => ?_) (fun h8 => ?_)
  · have q := bi_t h8
    obtain ⟨j, hj, rfl⟩ := s_hb_of hn5 q
    have hj2 : j < 2 ^ 31 := by omega
    refine PW_aload0 (pc' := 14) dX6_label_13 rfl ?_
    refine PW_getR (pc' := 17) dX6_label_14 rfl fX6_21 rfl rfl ?_
    refine PW_getR (pc' := 20) dX6_label_17 rfl fX6_82 rfl rfl ?_
    refine PW_iload1 (pc' := 21) dX6_label_20 rfl ?_
    refine PW_aald3 (pc' := 22) dX6_label_21 rfl (by omega) ?_
    refine PW_getI (pc' := 25) dX6_label_22 rfl fX6_86 (pv_lay_thing (by omega)) rfl ?_
    rw [hf j hj 0 (by decide)]
    refine PW_iconst (pc' := 26) dX6_label_25 rfl (v := 2) (by first | rfl | decide) ?_
    refine PW_icmp_ne (tgt := 37) (pc' := 29) dX6_label_26 rfl rfl (fun h26 => ?_) (fun h26 => ?_)
    · have q3 : ¬ a.1.2.2.2 0 j = 2 := fun z => h26 (by rw [z]; rfl)
      refine PW_aload0 (pc' := 38) dX6_label_37 rfl ?_
      refine PW_iconst (pc' := 39) dX6_label_38 rfl (v := 4) (by first | rfl | decide) ?_
      refine PW_callV1v (pc' := 42) dX6_label_39 rfl oX6_leave lX6_231 rfl rfl rfl (Nat.le_of_ble_eq_true rfl) (c_X6_leave) ?_
      refine PW_iload1 (pc' := 43) dX6_label_42 rfl ?_
      refine PW_ireturn .int dX6_label_43 rfl rfl ?_
      simp only [htr]
      exact ⟨by simp [op_label, s_hb, q, q3, ix_nI hj2], by simpa [op_label, s_hb, q, q3, ix_nI hj2] using hA.trace _, frX.rf.up (by decide)⟩
    · have hk2 := (hok.2.2.2 j hj).1
      have q3 : a.1.2.2.2 0 j = 2 := nI_inj (by omega) (by decide) h26
      refine PW_aload0 (pc' := 30) dX6_label_29 rfl ?_
      refine PW_iconst (pc' := 31) dX6_label_30 rfl (v := 5) (by first | rfl | decide) ?_
      refine PW_callV1v (pc' := 34) dX6_label_31 rfl oX6_leave lX6_231 rfl rfl rfl (Nat.le_of_ble_eq_true rfl) (c_X6_leave) ?_
      refine PW_bipush (pc' := 36) dX6_label_34 rfl (v := 70) (by first | rfl | decide) ?_
      refine PW_ireturn .int dX6_label_36 rfl rfl ?_
      simp only [htr]
      exact ⟨by simp [op_label, s_hb, q, q3, ix_nI hj2], by simpa [op_label, s_hb, q, q3, ix_nI hj2] using hA.trace _, frX.rf.up (by decide)⟩
  · have q := bi_f h8
    refine PW_iconst (pc' := 12) dX6_label_11 rfl (v := -1) (by first | rfl | decide) ?_
    refine PW_ireturn .int dX6_label_12 rfl rfl ?_
    exact ⟨by simp [op_label, s_hb, q], by simpa [op_label, s_hb, q] using hA, frX.rf⟩
