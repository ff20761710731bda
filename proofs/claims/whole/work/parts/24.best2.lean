/-! the class: best, mild, worth, shift; rounds as read -/
theorem AX.s22 {M M' : pv_M} {a : s_A} (h : AX M a) (hf : fr s_22 M M') : AX M' a := h.same (fun p hp => hf p (by simp; omega))
theorem frX.s22 {M M' : pv_M} (hf : fr s_22 M M') : frX M M' := frX.of hf (by simp)
theorem s_rng_m1 {h : Int32} {hi : Nat} (q : s_rng h (-1) hi = true) (q2 : ¬ h = -1) : ∃ j, j ≤ hi ∧ h = nI j := by
  simp only [s_rng, Bool.and_eq_true, decide_eq_true_eq] at q
  have hb := h.toInt_lt
  have hne : h.toInt ≠ -1 := fun z => q2 (Int32.toInt_inj.mp (by rw [z]; rfl))
  refine ⟨h.toInt.toNat, by omega, Int32.toInt_inj.mp ?_⟩
  rw [nI_toInt (by omega)]
  omega
def op_best (h : Int32) (a : s_A) : s_O := (if s_rng h (-1) 5 = true then (if a.1.1 = 0 then -3 else if h = -1 then iI (s_best a.1 none).2.2.2.1 + 1000 else s_rI ((s_best a.1 none).2.2.1 (ix h))) else -2, a)
def op_mild (v : Int32) (a : s_A) : s_O := (if s_rng v 0 30 = true then (if a.1.1 = 0 then -3 else nI (s_mild a.1 (ix v)).2.2.2.2.1) else -2, a)
def op_worth (t : Int32) (a : s_A) : s_O := (if s_hb a t = true then iI (s_best a.1 none).2.2.2.1 - iI (s_best a.1 (some (ix t))).2.2.2.1 + 1000 else -1, a)
def op_rounds (h : Int32) (a : s_A) : s_O := (if s_rng h (-1) 5 = true then (if a.1.1 = 0 then -3 else if h = -1 then nI (s_read a.1 a.2.1).1 else s_rI ((s_read a.1 a.2.1).2.1 (ix h))) else -2, a)
def op_sure (h : Int32) (a : s_A) : s_O := (if s_rng h 0 5 = true then (if a.1.1 = 0 then -3 else nI ((s_read a.1 a.2.1).2.2.2.2.2 (ix h))) else -2, a)
set_option maxHeartbeats 4000000 in
theorem c_X6_best {Γ : pv_G} {d : Nat} {M : pv_M} {a : s_A} {h : Int32} (hA : AX M a) : Ct Γ (d + 11) vX6_best [.ref 0, .int h] M (o_X (op_best h a) M) := by
  obtain ⟨hH, hR, hSh, hfl, htr⟩ := id hA
  obtain ⟨hok, hc1, hc2, hc3, hf⟩ := id hH
  have hn5 := hok.1
  refine Ct.of oX6_best.1 rfl (pad := 0) rfl ?_
  show PW Γ (d + 11) vX6_best 0 [.ref 0, .int h] [] M _
  refine PW_iload1 (pc' := 1) dX6_best_0 rfl ?_
  refine PW_iconst (pc' := 2) dX6_best_1 rfl (v := -1) (by first | rfl | decide) ?_
  refine PW_icmp_lt (tgt := 11) (pc' := 5) dX6_best_2 rfl rfl (fun h2 => ?_) (fun h2 => ?_)
  · simp only [Int32.lt_iff_toInt_lt, show (-1 : Int32).toInt = -1 from rfl] at h2
    have q : s_rng h (-1) 5 = false := by
      simp only [s_rng, Bool.and_eq_false_iff, decide_eq_false_iff_not]
      omega
    refine PW_bipush (pc' := 13) dX6_best_11 rfl (v := -2) (by first | rfl | decide) ?_
    refine PW_ireturn .int dX6_best_13 rfl rfl ?_
    exact ⟨by simp [op_best, q], hA, frX.rf⟩
  · simp only [Int32.lt_iff_toInt_lt, show (-1 : Int32).toInt = -1 from rfl] at h2
    refine PW_iload1 (pc' := 6) dX6_best_5 rfl ?_
    refine PW_bipush (pc' := 8) dX6_best_6 rfl (v := nI 6) (by first | rfl | decide) ?_
    refine PW_icmp_lt (tgt := 14) (pc' := 11) dX6_best_8 rfl rfl (fun h8 => ?_) (fun h8 => ?_)
    · simp only [Int32.lt_iff_toInt_lt, Int32.le_iff_toInt_le, nI_toInt (show 6 < 2 ^ 31 by decide), Int.cast_ofNat_Int] at h8
      have q : s_rng h (-1) 5 = true := by
        simp only [s_rng, Bool.and_eq_true, decide_eq_true_eq]
        omega
      refine PW_aload0 (pc' := 15) dX6_best_14 rfl ?_
      refine PW_getR (pc' := 18) dX6_best_15 rfl fX6_21 rfl rfl ?_
      refine PW_callV0f (pc' := 21) dX6_best_18 rfl oX0_stands lX6_107 rfl rfl rfl (Nat.le_of_ble_eq_true rfl) (c_X0_stands hn5 hc1) ?_
      refine PW_if_ne (tgt := 27) (pc' := 24) dX6_best_21 rfl rfl (fun h21 => ?_) (fun h21 => ?_)
      · have hp := bi_t h21
        have hp : ¬ a.1.1 = 0 := by
          simp only [decide_eq_true_eq] at hp
          omega
        refine PW_aload0 (pc' := 28) dX6_best_27 rfl ?_
        refine PW_bipush (pc' := 30) dX6_best_28 rfl (v := s_rI none) (by first | rfl | decide) ?_
        refine PW_callV1w (pc' := 33) dX6_best_30 rfl oX6_searchBest lX6_135 rfl rfl rfl (Nat.le_of_ble_eq_true rfl) (c_X6_searchBest (w := none) (fun x hx => by cases hx) hH) (fun M1 hM1 => ?_)
        obtain ⟨hS1, hF1⟩ := hM1
        refine PW_iload1 (pc' := 34) dX6_best_33 rfl ?_
        refine PW_iconst (pc' := 35) dX6_best_34 rfl (v := -1) (by first | rfl | decide) ?_
        refine PW_icmp_ne (tgt := 52) (pc' := 38) dX6_best_35 rfl rfl (fun h35 => ?_) (fun h35 => ?_)
        · obtain ⟨j, hj, rfl⟩ := s_rng_m1 (hi := 5) q h35
          have hj2 : j < 2 ^ 31 := by omega
          refine PW_aload0 (pc' := 53) dX6_best_52 rfl ?_
          refine PW_getR (pc' := 56) dX6_best_53 rfl fX6_35 rfl rfl ?_
          refine PW_getR (pc' := 59) dX6_best_56 rfl fX6_142 rfl rfl ?_
          refine PW_iload1 (pc' := 60) dX6_best_59 rfl ?_
          refine PW_ialdn (pc' := 61) dX6_best_60 rfl rfl rfl (by omega) ?_
          skip
          refine PW_ireturn .int dX6_best_61 rfl rfl ?_
          first
            | exact ⟨by simp only [op_best]; rw [if_pos q, if_neg hp, if_pos h35], hA.s22 hF1, frX.s22 hF1⟩
            | (rw [(hS1.2.2.2.2 j (by omega)).2.1]
               exact ⟨by simp only [op_best]; rw [if_pos q, if_neg hp, if_neg h35, ix_nI hj2], hA.s22 hF1, frX.s22 hF1⟩)
        · refine PW_aload0 (pc' := 39) dX6_best_38 rfl ?_
          refine PW_getR (pc' := 42) dX6_best_39 rfl fX6_35 rfl rfl ?_
          refine PW_getI (pc' := 45) dX6_best_42 rfl fX6_139 rfl rfl ?_
          rw [hS1.2.1]
          refine PW_sipush (pc' := 48) dX6_best_45 rfl (v := 1000) (by first | rfl | decide) ?_
          refine PW_iadd (pc' := 49) dX6_best_48 rfl ?_
          refine PW_goto (tgt := 61) dX6_best_49 rfl ?_
          skip
          refine PW_ireturn .int dX6_best_61 rfl rfl ?_
          first
            | exact ⟨by simp only [op_best]; rw [if_pos q, if_neg hp, if_pos h35], hA.s22 hF1, frX.s22 hF1⟩
            | (rw [(hS1.2.2.2.2 j (by omega)).2.1]
               exact ⟨by simp only [op_best]; rw [if_pos q, if_neg hp, if_neg h35, ix_nI hj2], hA.s22 hF1, frX.s22 hF1⟩)
      · have hp := bi_f h21
        have hp : a.1.1 = 0 := by
          simp only [decide_eq_false_iff_not] at hp
          omega
        refine PW_bipush (pc' := 26) dX6_best_24 rfl (v := -3) (by first | rfl | decide) ?_
        refine PW_ireturn .int dX6_best_26 rfl rfl ?_
        exact ⟨by simp [op_best, q, hp], hA, frX.rf⟩
    · simp only [Int32.lt_iff_toInt_lt, Int32.le_iff_toInt_le, nI_toInt (show 6 < 2 ^ 31 by decide), Int.cast_ofNat_Int] at h8
      have q : s_rng h (-1) 5 = false := by
        simp only [s_rng, Bool.and_eq_false_iff, decide_eq_false_iff_not]
        omega
      refine PW_bipush (pc' := 13) dX6_best_11 rfl (v := -2) (by first | rfl | decide) ?_
      refine PW_ireturn .int dX6_best_13 rfl rfl ?_
      exact ⟨by simp [op_best, q], hA, frX.rf⟩
set_option maxHeartbeats 4000000 in
theorem c_X6_mild {Γ : pv_G} {d : Nat} {M : pv_M} {a : s_A} {v : Int32} (hA : AX M a) : Ct Γ (d + 10) vX6_mild [.ref 0, .int v] M (o_X (op_mild v a) M) := by
  obtain ⟨hH, hR, hSh, hfl, htr⟩ := id hA
  obtain ⟨hok, hc1, hc2, hc3, hf⟩ := id hH
  have hn5 := hok.1
  refine Ct.of oX6_mild.1 rfl (pad := 0) rfl ?_
  show PW Γ (d + 10) vX6_mild 0 [.ref 0, .int v] [] M _
  refine PW_iload1 (pc' := 1) dX6_mild_0 rfl ?_
  refine PW_if_lt (tgt := 10) (pc' := 4) dX6_mild_1 rfl rfl (fun h1 => ?_) (fun h1 => ?_)
  · rw [z_lt] at h1
    have q : s_rng v 0 30 = false := by
      simp only [s_rng, Bool.and_eq_false_iff, decide_eq_false_iff_not]
      omega
    refine PW_bipush (pc' := 12) dX6_mild_10 rfl (v := -2) (by first | rfl | decide) ?_
    refine PW_ireturn .int dX6_mild_12 rfl rfl ?_
    exact ⟨by simp [op_mild, q], hA, frX.rf⟩
  · rw [z_lt] at h1
    refine PW_iload1 (pc' := 5) dX6_mild_4 rfl ?_
    refine PW_bipush (pc' := 7) dX6_mild_5 rfl (v := nI 30) (by first | rfl | decide) ?_
    refine PW_icmp_le (tgt := 13) (pc' := 10) dX6_mild_7 rfl rfl (fun h7 => ?_) (fun h7 => ?_)
    · simp only [Int32.lt_iff_toInt_lt, Int32.le_iff_toInt_le, nI_toInt (show 30 < 2 ^ 31 by decide), Int.cast_ofNat_Int] at h7
      have q : s_rng v 0 30 = true := by
        simp only [s_rng, Bool.and_eq_true, decide_eq_true_eq]
        omega
      obtain ⟨j, hj, rfl⟩ := s_rng_of (n := 30) q
      have hj2 : j < 2 ^ 31 := by omega
      refine PW_aload0 (pc' := 14) dX6_mild_13 rfl ?_
      refine PW_getR (pc' := 17) dX6_mild_14 rfl fX6_21 rfl rfl ?_
      refine PW_callV0f (pc' := 20) dX6_mild_17 rfl oX0_stands lX6_107 rfl rfl rfl (Nat.le_of_ble_eq_true rfl) (c_X0_stands hn5 hc1) ?_
      refine PW_if_ne (tgt := 26) (pc' := 23) dX6_mild_20 rfl rfl (fun h20 => ?_) (fun h20 => ?_)
      · have hp := bi_t h20
        have hp : ¬ a.1.1 = 0 := by
          simp only [decide_eq_true_eq] at hp
          omega
        refine PW_aload0 (pc' := 27) dX6_mild_26 rfl ?_
        refine PW_getR (pc' := 30) dX6_mild_27 rfl fX6_35 rfl rfl ?_
        refine PW_callV0w (pc' := 33) dX6_mild_30 rfl oX2_clear lX6_145 rfl rfl rfl (Nat.le_of_ble_eq_true rfl) (c_X2_clear) (fun M1 hM1 => ?_)
        obtain ⟨hS1, hK1, hF1⟩ := hM1
        have hF1 : fr s_22 M (pv_up M1 21 7 (nI j)) := hF1.up (by decide)
        refine PW_aload0 (pc' := 34) dX6_mild_33 rfl ?_
        refine PW_getR (pc' := 37) dX6_mild_34 rfl fX6_35 rfl rfl ?_
        refine PW_iload1 (pc' := 38) dX6_mild_37 rfl ?_
        refine PW_putI (pc' := 41) dX6_mild_38 rfl fX6_148 w2_7 rfl rfl ?_
        have hS2 : SX (pv_up M1 21 7 (nI j)) s_S0 := by
          obtain ⟨a, b, c, e, g⟩ := hS1
          exact ⟨by simpa [pv_up_at] using a, by simpa [pv_up_at] using b, by simpa [pv_up_at] using c, e, fun x hx => by simpa [pv_up_at] using g x hx⟩
        have hK2 : KX (pv_up M1 21 7 (nI j)) (none, j, fun _ => 0, fun _ => 0) := by
          obtain ⟨a, b, c, e⟩ := hK1
          exact ⟨by simpa [pv_up_at, s_K0] using a, by simp [pv_up_at], hj, fun x hx => by simpa [pv_up_at, s_K0] using e x hx⟩
        refine PW_aload0 (pc' := 42) dX6_mild_41 rfl ?_
        refine PW_getR (pc' := 45) dX6_mild_42 rfl fX6_35 rfl rfl ?_
        refine PW_aload0 (pc' := 46) dX6_mild_45 rfl ?_
        refine PW_getR (pc' := 49) dX6_mild_46 rfl fX6_21 rfl rfl ?_
        refine PW_iconst (pc' := 50) dX6_mild_49 rfl (v := nI 0) (by first | rfl | decide) ?_
        refine PW_iconst (pc' := 51) dX6_mild_50 rfl (v := nI 0) (by first | rfl | decide) ?_
        refine PW_iconst (pc' := 52) dX6_mild_51 rfl (v := nI 0) (by first | rfl | decide) ?_
        refine PW_callS5w (pc' := 55) dX6_mild_52 rfl oX6_walk lX6_151 (Nat.le_of_ble_eq_true rfl) (c_X6_walk (κ := (none, j, fun _ => 0, fun _ => 0)) hok (fun x hx => by cases hx) 6 d 0 _ s_N 0 0 s_S0 (by decide) (hH.fr hF1 (by decide) (by decide)) hK2 hS2 (s_row0 _ _ _ _) (by decide) (by decide) (by decide)) (fun M2 hM2 => ?_)
        obtain ⟨hS3, hK3, hF3, hR3⟩ := hM2
        have hF4 : fr s_22 M M2 := hF1.tr (hF3.sub (by decide))
        refine PW_aload0 (pc' := 56) dX6_mild_55 rfl ?_
        refine PW_getR (pc' := 59) dX6_mild_56 rfl fX6_35 rfl rfl ?_
        refine PW_getI (pc' := 62) dX6_mild_59 rfl fX6_155 rfl rfl ?_
        rw [hS3.2.2.1]
        refine PW_ireturn .int dX6_mild_62 rfl rfl ?_
        exact ⟨by simp only [op_mild]; rw [if_pos q, if_neg hp, ix_nI hj2]; rfl, hA.s22 hF4, frX.s22 hF4⟩
      · have hp := bi_f h20
        have hp : a.1.1 = 0 := by
          simp only [decide_eq_false_iff_not] at hp
          omega
        refine PW_bipush (pc' := 25) dX6_mild_23 rfl (v := -3) (by first | rfl | decide) ?_
        refine PW_ireturn .int dX6_mild_25 rfl rfl ?_
        exact ⟨by simp [op_mild, q, hp], hA, frX.rf⟩
    · simp only [Int32.lt_iff_toInt_lt, Int32.le_iff_toInt_le, nI_toInt (show 30 < 2 ^ 31 by decide), Int.cast_ofNat_Int] at h7
      have q : s_rng v 0 30 = false := by
        simp only [s_rng, Bool.and_eq_false_iff, decide_eq_false_iff_not]
        omega
      refine PW_bipush (pc' := 12) dX6_mild_10 rfl (v := -2) (by first | rfl | decide) ?_
      refine PW_ireturn .int dX6_mild_12 rfl rfl ?_
      exact ⟨by simp [op_mild, q], hA, frX.rf⟩
set_option maxHeartbeats 4000000 in
theorem c_X6_worth {Γ : pv_G} {d : Nat} {M : pv_M} {a : s_A} {t : Int32} (hA : AX M a) : Ct Γ (d + 11) vX6_worth [.ref 0, .int t] M (o_X (op_worth t a) M) := by
  obtain ⟨hH, hR, hSh, hfl, htr⟩ := id hA
  obtain ⟨hok, hc1, hc2, hc3, hf⟩ := id hH
  have hn5 := hok.1
  refine Ct.of oX6_worth.1 rfl (pad := 1) rfl ?_
  show PW Γ (d + 11) vX6_worth 0 [.ref 0, .int t, .null] [] M _
  refine PW_aload0 (pc' := 1) dX6_worth_0 rfl ?_
  refine PW_getR (pc' := 4) dX6_worth_1 rfl fX6_21 rfl rfl ?_
  refine PW_iload1 (pc' := 5) dX6_worth_4 rfl ?_
  refine PW_callV1f (pc' := 8) dX6_worth_5 rfl oX0_has lX6_79 rfl rfl rfl (Nat.le_of_ble_eq_true rfl) (c_X0_hasb hn5 hc1) ?_
  refine PW_if_ne (tgt := 13) (pc' := 11) dX6_worth_8 rfl rfl (fun h8 => ?_) (fun h8 => ?_)
  · have q := bi_t h8
    obtain ⟨j, hj, rfl⟩ := s_hb_of hn5 q
    have hj2 : j < 2 ^ 31 := by omega
    have qh : s_hb a (nI j) = true := q
    refine PW_aload0 (pc' := 14) dX6_worth_13 rfl ?_
    refine PW_bipush (pc' := 16) dX6_worth_14 rfl (v := s_rI none) (by first | rfl | decide) ?_
    refine PW_callV1w (pc' := 19) dX6_worth_16 rfl oX6_searchBest lX6_135 rfl rfl rfl (Nat.le_of_ble_eq_true rfl) (c_X6_searchBest (w := none) (fun x hx => by cases hx) hH) (fun M1 hM1 => ?_)
    obtain ⟨hS1, hF1⟩ := hM1
    refine PW_aload0 (pc' := 20) dX6_worth_19 rfl ?_
    refine PW_getR (pc' := 23) dX6_worth_20 rfl fX6_35 rfl rfl ?_
    refine PW_getI (pc' := 26) dX6_worth_23 rfl fX6_139 rfl rfl ?_
    rw [hS1.2.1]
    refine PW_istore2 (pc' := 27) dX6_worth_26 rfl rfl rfl ?_
    refine PW_aload0 (pc' := 28) dX6_worth_27 rfl ?_
    refine PW_iload1 (pc' := 29) dX6_worth_28 rfl ?_
    refine PW_callV1w (pc' := 32) dX6_worth_29 rfl oX6_searchBest lX6_135 rfl rfl rfl (Nat.le_of_ble_eq_true rfl) (c_X6_searchBest (w := some j) (fun x hx => by cases hx; exact hj) (hH.fr hF1 (by decide) (by decide))) (fun M2 hM2 => ?_)
    obtain ⟨hS2, hF2⟩ := hM2
    refine PW_iload2 (pc' := 33) dX6_worth_32 rfl ?_
    refine PW_aload0 (pc' := 34) dX6_worth_33 rfl ?_
    refine PW_getR (pc' := 37) dX6_worth_34 rfl fX6_35 rfl rfl ?_
    refine PW_getI (pc' := 40) dX6_worth_37 rfl fX6_139 rfl rfl ?_
    rw [hS2.2.1]
    refine PW_isub (pc' := 41) dX6_worth_40 rfl ?_
    refine PW_sipush (pc' := 44) dX6_worth_41 rfl (v := 1000) (by first | rfl | decide) ?_
    refine PW_iadd (pc' := 45) dX6_worth_44 rfl ?_
    refine PW_ireturn .int dX6_worth_45 rfl rfl ?_
    exact ⟨by simp only [op_worth]; rw [if_pos qh, ix_nI hj2], hA.s22 (hF1.tr hF2), frX.s22 (hF1.tr hF2)⟩
  · have q := bi_f h8
    refine PW_iconst (pc' := 12) dX6_worth_11 rfl (v := -1) (by first | rfl | decide) ?_
    refine PW_ireturn .int dX6_worth_12 rfl rfl ?_
    exact ⟨by simp [op_worth, s_hb, q], hA, frX.rf⟩
set_option maxHeartbeats 4000000 in
theorem c_X6_rounds {Γ : pv_G} {d : Nat} {M : pv_M} {a : s_A} {h : Int32} (hA : AX M a) : Ct Γ (d + 11) vX6_rounds [.ref 0, .int h] M (o_X (op_rounds h a) M) := by
  obtain ⟨hH, hR, hSh, hfl, htr⟩ := id hA
  obtain ⟨hok, hc1, hc2, hc3, hf⟩ := id hH
  have hn5 := hok.1
  refine Ct.of oX6_rounds.1 rfl (pad := 0) rfl ?_
  show PW Γ (d + 11) vX6_rounds 0 [.ref 0, .int h] [] M _
  refine PW_iload1 (pc' := 1) dX6_rounds_0 rfl ?_
  refine PW_iconst (pc' := 2) dX6_rounds_1 rfl (v := -1) (by first | rfl | decide) ?_
  refine PW_icmp_lt (tgt := 11) (pc' := 5) dX6_rounds_2 rfl rfl (fun h2 => ?_) (fun h2 => ?_)
  · simp only [Int32.lt_iff_toInt_lt, show (-1 : Int32).toInt = -1 from rfl] at h2
    have q : s_rng h (-1) 5 = false := by
      simp only [s_rng, Bool.and_eq_false_iff, decide_eq_false_iff_not]
      omega
    refine PW_bipush (pc' := 13) dX6_rounds_11 rfl (v := -2) (by first | rfl | decide) ?_
    refine PW_ireturn .int dX6_rounds_13 rfl rfl ?_
    exact ⟨by simp [op_rounds, q], hA, frX.rf⟩
  · simp only [Int32.lt_iff_toInt_lt, show (-1 : Int32).toInt = -1 from rfl] at h2
    refine PW_iload1 (pc' := 6) dX6_rounds_5 rfl ?_
    refine PW_bipush (pc' := 8) dX6_rounds_6 rfl (v := nI 6) (by first | rfl | decide) ?_
    refine PW_icmp_lt (tgt := 14) (pc' := 11) dX6_rounds_8 rfl rfl (fun h8 => ?_) (fun h8 => ?_)
    · simp only [Int32.lt_iff_toInt_lt, Int32.le_iff_toInt_le, nI_toInt (show 6 < 2 ^ 31 by decide), Int.cast_ofNat_Int] at h8
      have q : s_rng h (-1) 5 = true := by
        simp only [s_rng, Bool.and_eq_true, decide_eq_true_eq]
        omega
      refine PW_aload0 (pc' := 15) dX6_rounds_14 rfl ?_
      refine PW_getR (pc' := 18) dX6_rounds_15 rfl fX6_21 rfl rfl ?_
      refine PW_callV0f (pc' := 21) dX6_rounds_18 rfl oX0_stands lX6_107 rfl rfl rfl (Nat.le_of_ble_eq_true rfl) (c_X0_stands hn5 hc1) ?_
      refine PW_if_ne (tgt := 27) (pc' := 24) dX6_rounds_21 rfl rfl (fun h21 => ?_) (fun h21 => ?_)
      · have hp := bi_t h21
        have hp : ¬ a.1.1 = 0 := by
          simp only [decide_eq_true_eq] at hp
          omega
        refine PW_aload0 (pc' := 28) dX6_rounds_27 rfl ?_
        refine PW_callV0w (pc' := 31) dX6_rounds_28 rfl oX6_searchRead lX6_172 rfl rfl rfl (Nat.le_of_ble_eq_true rfl) (c_X6_searchRead hH hR) (fun M1 hM1 => ?_)
        obtain ⟨hS1, hF1⟩ := hM1
        refine PW_iload1 (pc' := 32) dX6_rounds_31 rfl ?_
        refine PW_iconst (pc' := 33) dX6_rounds_32 rfl (v := -1) (by first | rfl | decide) ?_
        refine PW_icmp_ne (tgt := 46) (pc' := 36) dX6_rounds_33 rfl rfl (fun h33 => ?_) (fun h33 => ?_)
        · obtain ⟨j, hj, rfl⟩ := s_rng_m1 (hi := 5) q h33
          have hj2 : j < 2 ^ 31 := by omega
          refine PW_aload0 (pc' := 47) dX6_rounds_46 rfl ?_
          refine PW_getR (pc' := 50) dX6_rounds_47 rfl fX6_35 rfl rfl ?_
          refine PW_getR (pc' := 53) dX6_rounds_50 rfl fX6_176 rfl rfl ?_
          refine PW_iload1 (pc' := 54) dX6_rounds_53 rfl ?_
          refine PW_ialdn (pc' := 55) dX6_rounds_54 rfl rfl rfl (by omega) ?_
          refine PW_ireturn .int dX6_rounds_55 rfl rfl ?_
          first
            | (rw [hS1.1]
               exact ⟨by simp only [op_rounds]; rw [if_pos q, if_neg hp, if_pos h33], hA.s22 hF1, frX.s22 hF1⟩)
            | (rw [(hS1.2.2.2.2 j (by omega)).1]
               exact ⟨by simp only [op_rounds]; rw [if_pos q, if_neg hp, if_neg h33, ix_nI hj2], hA.s22 hF1, frX.s22 hF1⟩)
        · refine PW_aload0 (pc' := 37) dX6_rounds_36 rfl ?_
          refine PW_getR (pc' := 40) dX6_rounds_37 rfl fX6_35 rfl rfl ?_
          refine PW_getI (pc' := 43) dX6_rounds_40 rfl fX6_175 rfl rfl ?_
          refine PW_goto (tgt := 55) dX6_rounds_43 rfl ?_
          refine PW_ireturn .int dX6_rounds_55 rfl rfl ?_
          first
            | (rw [hS1.1]
               exact ⟨by simp only [op_rounds]; rw [if_pos q, if_neg hp, if_pos h33], hA.s22 hF1, frX.s22 hF1⟩)
            | (rw [(hS1.2.2.2.2 j (by omega)).1]
               exact ⟨by simp only [op_rounds]; rw [if_pos q, if_neg hp, if_neg h33, ix_nI hj2], hA.s22 hF1, frX.s22 hF1⟩)
      · have hp := bi_f h21
        have hp : a.1.1 = 0 := by
          simp only [decide_eq_false_iff_not] at hp
          omega
        refine PW_bipush (pc' := 26) dX6_rounds_24 rfl (v := -3) (by first | rfl | decide) ?_
        refine PW_ireturn .int dX6_rounds_26 rfl rfl ?_
        exact ⟨by simp [op_rounds, q, hp], hA, frX.rf⟩
    · simp only [Int32.lt_iff_toInt_lt, Int32.le_iff_toInt_le, nI_toInt (show 6 < 2 ^ 31 by decide), Int.cast_ofNat_Int] at h8
      have q : s_rng h (-1) 5 = false := by
        simp only [s_rng, Bool.and_eq_false_iff, decide_eq_false_iff_not]
        omega
      refine PW_bipush (pc' := 13) dX6_rounds_11 rfl (v := -2) (by first | rfl | decide) ?_
      refine PW_ireturn .int dX6_rounds_13 rfl rfl ?_
      exact ⟨by simp [op_rounds, q], hA, frX.rf⟩
set_option maxHeartbeats 4000000 in
theorem c_X6_sure {Γ : pv_G} {d : Nat} {M : pv_M} {a : s_A} {h : Int32} (hA : AX M a) : Ct Γ (d + 11) vX6_sure [.ref 0, .int h] M (o_X (op_sure h a) M) := by
  obtain ⟨hH, hR, hSh, hfl, htr⟩ := id hA
  obtain ⟨hok, hc1, hc2, hc3, hf⟩ := id hH
  have hn5 := hok.1
  refine Ct.of oX6_sure.1 rfl (pad := 0) rfl ?_
  show PW Γ (d + 11) vX6_sure 0 [.ref 0, .int h] [] M _
  refine PW_iload1 (pc' := 1) dX6_sure_0 rfl ?_
  refine PW_callS1f (pc' := 4) dX6_sure_1 rfl oX6_isHour lX6_165 (Nat.le_of_ble_eq_true rfl) (c_X6_isHour) ?_
  refine PW_if_ne (tgt := 10) (pc' := 7) dX6_sure_4 rfl rfl (fun h4 => ?_) (fun h4 => ?_)
  · have q := bi_t h4
    obtain ⟨j, hj, rfl⟩ := s_rng_of (n := 5) q
    have hj2 : j < 2 ^ 31 := by omega
    refine PW_aload0 (pc' := 11) dX6_sure_10 rfl ?_
    refine PW_getR (pc' := 14) dX6_sure_11 rfl fX6_21 rfl rfl ?_
    refine PW_callV0f (pc' := 17) dX6_sure_14 rfl oX0_stands lX6_107 rfl rfl rfl (Nat.le_of_ble_eq_true rfl) (c_X0_stands hn5 hc1) ?_
    refine PW_if_ne (tgt := 23) (pc' := 20) dX6_sure_17 rfl rfl (fun h17 => ?_) (fun h17 => ?_)
    · have hp := bi_t h17
      have hp : ¬ a.1.1 = 0 := by
        simp only [decide_eq_true_eq] at hp
        omega
      refine PW_aload0 (pc' := 24) dX6_sure_23 rfl ?_
      refine PW_callV0w (pc' := 27) dX6_sure_24 rfl oX6_searchRead lX6_172 rfl rfl rfl (Nat.le_of_ble_eq_true rfl) (c_X6_searchRead hH hR) (fun M1 hM1 => ?_)
      obtain ⟨hS1, hF1⟩ := hM1
      refine PW_aload0 (pc' := 28) dX6_sure_27 rfl ?_
      refine PW_getR (pc' := 31) dX6_sure_28 rfl fX6_35 rfl rfl ?_
      refine PW_getR (pc' := 34) dX6_sure_31 rfl fX6_179 rfl rfl ?_
      refine PW_iload1 (pc' := 35) dX6_sure_34 rfl ?_
      refine PW_ialdn (pc' := 36) dX6_sure_35 rfl rfl rfl (by omega) ?_
      refine PW_ireturn .int dX6_sure_36 rfl rfl ?_
      rw [(hS1.2.2.2.2 j (by omega)).2.2.1]
      exact ⟨by simp only [op_sure]; rw [if_pos q, if_neg hp, ix_nI hj2], hA.s22 hF1, frX.s22 hF1⟩
    · have hp := bi_f h17
      have hp : a.1.1 = 0 := by
        simp only [decide_eq_false_iff_not] at hp
        omega
      refine PW_bipush (pc' := 22) dX6_sure_20 rfl (v := -3) (by first | rfl | decide) ?_
      refine PW_ireturn .int dX6_sure_22 rfl rfl ?_
      exact ⟨by simp [op_sure, q, hp], hA, frX.rf⟩
  · have q := bi_f h4
    refine PW_bipush (pc' := 9) dX6_sure_7 rfl (v := -2) (by first | rfl | decide) ?_
    refine PW_ireturn .int dX6_sure_9 rfl rfl ?_
    exact ⟨by simp [op_sure, q], hA, frX.rf⟩
def s_clr (u h : Nat) : Nat := u &&& (63 - 2 ^ h)
theorem bt_clr : ∀ u, u < 64 → ∀ h, h < 6 → nI u &&& (((1 : Int32) <<< (nI h &&& 31)) ^^^ (-1)) = nI (s_clr u h) ∧ s_clr u h < 64 := by decide +kernel
def s_shl (H : s_H) (j : Nat) : Nat → Nat × Option Nat
  | 0 => (s_takes H j, none)
  | k + 1 => if (H.2.2.2 4 j).testBit k = true then (if s_takes (s_use H j (s_clr (H.2.2.2 4 j) k)) j < (s_shl H j k).1 then (s_takes (s_use H j (s_clr (H.2.2.2 4 j) k)) j, some k) else s_shl H j k) else s_shl H j k
theorem s_takes_le (H : s_H) (j : Nat) : s_takes H j ≤ 6 := s_tk_le _ _ _
theorem s_shl_le (H : s_H) (j : Nat) : ∀ k, (s_shl H j k).1 ≤ 6
  | 0 => s_takes_le H j
  | k + 1 => by
    have ih := s_shl_le H j k
    have t := s_takes_le (s_use H j (s_clr (H.2.2.2 4 j) k)) j
    simp only [s_shl]
    split
    · split
      · exact t
      · exact ih
    · exact ih
theorem s_use_use (H : s_H) (j x y : Nat) : s_use (s_use H j x) j y = s_use H j y := by
  have e : (fun f t => if f = 4 ∧ t = j then y else if f = 4 ∧ t = j then x else H.2.2.2 f t) = fun f t => if f = 4 ∧ t = j then y else H.2.2.2 f t := by
    funext f t
    by_cases h : f = 4 ∧ t = j <;> simp [h]
  simp only [s_use, e]
theorem s_use_self (H : s_H) (j : Nat) : s_use H j (H.2.2.2 4 j) = H := by
  have e : (fun f t => if f = 4 ∧ t = j then H.2.2.2 4 j else H.2.2.2 f t) = H.2.2.2 := by
    funext f t
    by_cases h : f = 4 ∧ t = j
    · rw [if_pos h, h.1, h.2]
    · rw [if_neg h]
  simp only [s_use, e]
def op_shift (t : Int32) (a : s_A) : s_O := (if s_hb a t = true then s_oI (s_shl a.1 (ix t) 6).2 else -1, a)
abbrev s_34 : List Nat := [12, 13, 14, 15, 16, 21, 22, 23, 24, 25, 26, 27]
theorem s_34_in {j : Nat} (hj : j < 5) : 12 + j ∈ s_34 := by
  match j, hj with
  | 0, _ => decide
  | 1, _ => decide
  | 2, _ => decide
  | 3, _ => decide
  | 4, _ => decide
theorem AX.shift {M M' : pv_M} {a : s_A} (h : AX M a) (hH : HX M' a.1) (hf : fr s_34 M M') : AX M' a := by
  obtain ⟨h1, h2, h3, h4, h5⟩ := h
  refine ⟨hH, h2.fr hf (by decide), fun k hk => ?_, by rw [hf 0 (by decide)]; exact h4, by rw [hf 0 (by decide)]; exact h5⟩
  unfold s_sh
  rw [hf (2 + k) (by simp; omega), hf (6 + k) (by simp; omega)]
  exact h3 k hk
set_option maxHeartbeats 4000000 in
theorem l_X6_shift {Γ : pv_G} {d j : Nat} {a : s_A} {M0 : pv_M} (hj : j < a.1.1) (hA : AX M0 a) (ho : op_shift (nI j) a = (s_oI (s_shl a.1 j 6).2, a)) : ∀ (m k : Nat) (M : pv_M) (x : Nat) (x7 : Value), k + m = 6 → x < 64 → HX M (s_use a.1 j x) → fr s_34 M0 M →
    PW Γ (d + 12) vX6_shift 42 [.ref 0, .int (nI j), .ref (12 + j), .int (nI (a.1.2.2.2 4 j)), .int (nI (s_shl a.1 j k).1), .int (s_oI (s_shl a.1 j k).2), .int (nI k), x7] [] M (o_X (op_shift (nI j) a) M0) := by
  obtain ⟨hH, -⟩ := id hA
  have hok := hH.1
  have hn5 := hok.1
  have hu := (hok.2.2.2 j hj).2.2.2.2
  intro m
  induction m using Nat.strongRecOn with
  | ind m ih =>
    intro k M x x7 hkm hx hHx hfr
    have hle := s_shl_le a.1 j k
    have htl := s_takes_le (s_use a.1 j (s_clr (a.1.2.2.2 4 j) k)) j
    refine PW_iload6 (pc' := 44) dX6_shift_42 rfl ?_
    refine PW_bipush (pc' := 46) dX6_shift_44 rfl (v := nI 6) (by first | rfl | decide) ?_
    refine PW_icmp_ge (tgt := 98) (pc' := 49) dX6_shift_46 rfl rfl (fun h46 => ?_) (fun h46 => ?_)
    · have hk6 : k = 6 := by have := s_bge (by omega) (by omega) h46; omega
      subst hk6
      refine PW_aload2 (pc' := 99) dX6_shift_98 rfl ?_
      refine PW_iload3 (pc' := 100) dX6_shift_99 rfl ?_
      refine PW_putI (pc' := 103) dX6_shift_100 rfl fX6_100 w4_4 (pv_lay_thing (by omega)) rfl ?_
      refine PW_iload5 (pc' := 105) dX6_shift_103 rfl ?_
      refine PW_ireturn .int dX6_shift_105 rfl rfl ?_
      have hH3 := hHx.use (u := a.1.2.2.2 4 j) hj hu
      rw [s_use_use, s_use_self] at hH3
      have hfr3 : fr s_34 M0 (pv_up M (12 + j) 4 (nI (a.1.2.2.2 4 j))) := hfr.up (s_34_in (by omega))
      rw [ho]
      exact ⟨rfl, hA.shift hH3 hfr3, frX.of hfr3 (by simp)⟩
    · have hk6 : k < 6 := s_bnd (by omega) (by omega) h46
      have hcl := bt_clr _ hu k hk6
      refine PW_iload3 (pc' := 50) dX6_shift_49 rfl ?_
      refine PW_iload6 (pc' := 52) dX6_shift_50 rfl ?_
      refine PW_callS2f (pc' := 55) dX6_shift_52 rfl oX6_isIn lX6_161 (Nat.le_of_ble_eq_true rfl) (c_X6_isIn hu (by omega)) ?_
      refine PW_if_eq (tgt := 92) (pc' := 58) dX6_shift_55 rfl rfl (fun h55 => ?_) (fun h55 => ?_)
      · have hb := bi_f h55
        have e : s_shl a.1 j (k + 1) = s_shl a.1 j k := by simp [s_shl, hb]
        have hgo := fun x7 => ih (m - 1) (by omega) (k + 1) M x x7 (by omega) hx hHx hfr
        rw [e] at hgo
        refine PW_iinc6 (pc' := 95) dX6_shift_92 rfl rfl rfl nI_inc ?_
        refine PW_goto (tgt := 42) dX6_shift_95 rfl ?_
        exact hgo _
      · have hb := bi_t h55
        refine PW_aload2 (pc' := 59) dX6_shift_58 rfl ?_
        refine PW_iload3 (pc' := 60) dX6_shift_59 rfl ?_
        refine PW_iconst (pc' := 61) dX6_shift_60 rfl (v := 1) (by first | rfl | decide) ?_
        refine PW_iload6 (pc' := 63) dX6_shift_61 rfl ?_
        refine PW_ishl (pc' := 64) dX6_shift_63 rfl ?_
        refine PW_iconst (pc' := 65) dX6_shift_64 rfl (v := -1) (by first | rfl | decide) ?_
        refine PW_ixor (pc' := 66) dX6_shift_65 rfl ?_
        refine PW_iand (pc' := 67) dX6_shift_66 rfl ?_
        rw [hcl.1]
        refine PW_putI (pc' := 70) dX6_shift_67 rfl fX6_100 w4_4 (pv_lay_thing (by omega)) rfl ?_
        have hH1 := hHx.use (u := s_clr (a.1.2.2.2 4 j) k) hj hcl.2
        rw [s_use_use] at hH1
        refine PW_aload0 (pc' := 71) dX6_shift_70 rfl ?_
        refine PW_iload1 (pc' := 72) dX6_shift_71 rfl ?_
        refine PW_callV1r (pc' := 75) dX6_shift_72 rfl oX6_takesByBest lX6_158 rfl rfl rfl (Nat.le_of_ble_eq_true rfl) (c_X6_takesByBest (show j < (s_use a.1 j (s_clr (a.1.2.2.2 4 j) k)).1 from hj) hH1) (fun M2 hM2 => ?_)
        have hfr2 : fr s_34 M0 M2 := (hfr.up (s_34_in (by omega))).tr (hM2.sub (by decide))
        have hH2 : HX M2 (s_use a.1 j (s_clr (a.1.2.2.2 4 j) k)) := hH1.fr hM2 (by decide) (by decide)
        refine PW_istore7 (pc' := 77) dX6_shift_75 rfl rfl rfl ?_
        refine PW_iload7 (pc' := 79) dX6_shift_77 rfl ?_
        refine PW_iload4 (pc' := 81) dX6_shift_79 rfl ?_
        refine PW_icmp_ge (tgt := 92) (pc' := 84) dX6_shift_81 rfl rfl (fun h81 => ?_) (fun h81 => ?_)
        · have h81 : ¬ s_takes (s_use a.1 j (s_clr (a.1.2.2.2 4 j) k)) j < (s_shl a.1 j k).1 := by rw [nI_leI (by omega) (by omega)] at h81; omega
          have e : s_shl a.1 j (k + 1) = s_shl a.1 j k := by simp [s_shl, hb, h81]
          have hgo := fun x7 => ih (m - 1) (by omega) (k + 1) M2 _ x7 (by omega) hcl.2 hH2 hfr2
          rw [e] at hgo
          refine PW_iinc6 (pc' := 95) dX6_shift_92 rfl rfl rfl nI_inc ?_
          refine PW_goto (tgt := 42) dX6_shift_95 rfl ?_
          exact hgo _
        · have h81 : s_takes (s_use a.1 j (s_clr (a.1.2.2.2 4 j) k)) j < (s_shl a.1 j k).1 := by rw [nI_leI (by omega) (by omega)] at h81; omega
          have e : s_shl a.1 j (k + 1) = (s_takes (s_use a.1 j (s_clr (a.1.2.2.2 4 j) k)) j, some k) := by simp [s_shl, hb, h81]
          have hgo := fun x7 => ih (m - 1) (by omega) (k + 1) M2 _ x7 (by omega) hcl.2 hH2 hfr2
          rw [e] at hgo
          refine PW_iload7 (pc' := 86) dX6_shift_84 rfl ?_
          refine PW_istore4 (pc' := 88) dX6_shift_86 rfl rfl rfl ?_
          refine PW_iload6 (pc' := 90) dX6_shift_88 rfl ?_
          refine PW_istore5 (pc' := 92) dX6_shift_90 rfl rfl rfl ?_
          refine PW_iinc6 (pc' := 95) dX6_shift_92 rfl rfl rfl nI_inc ?_
          refine PW_goto (tgt := 42) dX6_shift_95 rfl ?_
          exact hgo _
set_option maxHeartbeats 4000000 in
theorem c_X6_shift {Γ : pv_G} {d : Nat} {M : pv_M} {a : s_A} {t : Int32} (hA : AX M a) : Ct Γ (d + 12) vX6_shift [.ref 0, .int t] M (o_X (op_shift t a) M) := by
  obtain ⟨hH, hR, hSh, hfl, htr⟩ := id hA
  obtain ⟨hok, hc1, hc2, hc3, hf⟩ := id hH
  have hn5 := hok.1
  refine Ct.of oX6_shift.1 rfl (pad := 6) rfl ?_
  show PW Γ (d + 12) vX6_shift 0 [.ref 0, .int t, .null, .null, .null, .null, .null, .null] [] M _
  refine PW_aload0 (pc' := 1) dX6_shift_0 rfl ?_
  refine PW_getR (pc' := 4) dX6_shift_1 rfl fX6_21 rfl rfl ?_
  refine PW_iload1 (pc' := 5) dX6_shift_4 rfl ?_
  refine PW_callV1f (pc' := 8) dX6_shift_5 rfl oX0_has lX6_79 rfl rfl rfl (Nat.le_of_ble_eq_true rfl) (c_X0_hasb hn5 hc1) ?_
  refine PW_if_ne (tgt := 13) (pc' := 11) dX6_shift_8 rfl rfl (fun h8 => ?_) (fun h8 => ?_)
  · have q := bi_t h8
    obtain ⟨j, hj, rfl⟩ := s_hb_of hn5 q
    have hj2 : j < 2 ^ 31 := by omega
    have qh : s_hb a (nI j) = true := q
    refine PW_aload0 (pc' := 14) dX6_shift_13 rfl ?_
    refine PW_getR (pc' := 17) dX6_shift_14 rfl fX6_21 rfl rfl ?_
    refine PW_getR (pc' := 20) dX6_shift_17 rfl fX6_82 rfl rfl ?_
    refine PW_iload1 (pc' := 21) dX6_shift_20 rfl ?_
    refine PW_aald3 (pc' := 22) dX6_shift_21 rfl (by omega) ?_
    refine PW_astore2 (pc' := 23) dX6_shift_22 rfl rfl rfl ?_
    refine PW_aload2 (pc' := 24) dX6_shift_23 rfl ?_
    refine PW_getI (pc' := 27) dX6_shift_24 rfl fX6_100 (pv_lay_thing (by omega)) rfl ?_
    rw [hf j hj 4 (by decide)]
    refine PW_istore3 (pc' := 28) dX6_shift_27 rfl rfl rfl ?_
    refine PW_aload0 (pc' := 29) dX6_shift_28 rfl ?_
    refine PW_iload1 (pc' := 30) dX6_shift_29 rfl ?_
    refine PW_callV1r (pc' := 33) dX6_shift_30 rfl oX6_takesByBest lX6_158 rfl rfl rfl (Nat.le_of_ble_eq_true rfl) (c_X6_takesByBest hj hH) (fun M1 hM1 => ?_)
    refine PW_istore4 (pc' := 35) dX6_shift_33 rfl rfl rfl ?_
    refine PW_bipush (pc' := 37) dX6_shift_35 rfl (v := s_oI none) (by first | rfl | decide) ?_
    refine PW_istore5 (pc' := 39) dX6_shift_37 rfl rfl rfl ?_
    refine PW_iconst (pc' := 40) dX6_shift_39 rfl (v := nI 0) (by first | rfl | decide) ?_
    refine PW_istore6 (pc' := 42) dX6_shift_40 rfl rfl rfl ?_
    refine l_X6_shift hj hA (by simp only [op_shift]; rw [if_pos qh, ix_nI hj2]) 6 0 M1 (a.1.2.2.2 4 j) _ (by omega) (hok.2.2.2 j hj).2.2.2.2 ?_ (hM1.sub (by decide))
    rw [s_use_self]
    exact hH.fr hM1 (by decide) (by decide)
  · have q := bi_f h8
    refine PW_iconst (pc' := 12) dX6_shift_11 rfl (v := -1) (by first | rfl | decide) ?_
    refine PW_ireturn .int dX6_shift_12 rfl rfl ?_
    exact ⟨by simp [op_shift, s_hb, q], hA, frX.rf⟩
