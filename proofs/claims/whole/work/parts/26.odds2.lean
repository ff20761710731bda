/-! the class: odds -/
theorem lN_ne0 {k : Nat} (hk : k < 1000) : ¬ (nI k + 1).toInt64 = 0 := by
  rw [nI_1, nI_l (by omega)]
  intro h
  have := (lN_eq (a := k + 1) (b := 0) (by omega) (by decide)).mp h
  omega
set_option maxHeartbeats 4000000 in
theorem l_X6_ways {Γ : pv_G} {d u v : Nat} {M : pv_M} (hu : u ≤ 100) (hv : v ≤ 100) : ∀ (m k : Nat), k + m = min v u + 1 →
    PW Γ d vX6_waysForAtMost 8 [.int (nI u), .int (nI v), .long (s_ways u k).1, .null, .long (s_ways u k).2, .null, .int (nI k)] [] M (pv_fn (some (.long (s_ways u (min v u + 1)).1)) M) := by
  intro m
  induction m using Nat.strongRecOn with
  | ind m ih =>
    intro k hkm
    refine PW_iload6 (pc' := 10) dX6_waysForAtMost_8 rfl ?_
    refine PW_iload1 (pc' := 11) dX6_waysForAtMost_10 rfl ?_
    refine PW_icmp_gt (tgt := 47) (pc' := 14) dX6_waysForAtMost_11 rfl rfl (fun h11 => ?_) (fun h11 => ?_)
    · have hk : v < k := (nI_ltI (by omega) (by omega)).mp h11
      have hk : k = min v u + 1 := by omega
      subst hk
      refine PW_lload2 (pc' := 48) dX6_waysForAtMost_47 rfl ?_
      refine PW_lreturn dX6_waysForAtMost_48 rfl ?_
      exact ⟨rfl, rfl⟩
    · have hk : ¬ v < k := fun z => h11 ((nI_ltI (by omega) (by omega)).mpr z)
      refine PW_iload6 (pc' := 16) dX6_waysForAtMost_14 rfl ?_
      refine PW_iload0 (pc' := 17) dX6_waysForAtMost_16 rfl ?_
      refine PW_icmp_gt (tgt := 47) (pc' := 20) dX6_waysForAtMost_17 rfl rfl (fun h17 => ?_) (fun h17 => ?_)
      · have hk : u < k := (nI_ltI (by omega) (by omega)).mp h17
        have hk : k = min v u + 1 := by omega
        subst hk
        refine PW_lload2 (pc' := 48) dX6_waysForAtMost_47 rfl ?_
        refine PW_lreturn dX6_waysForAtMost_48 rfl ?_
        exact ⟨rfl, rfl⟩
      · have hk2 : ¬ u < k := fun z => h17 ((nI_ltI (by omega) (by omega)).mpr z)
        refine PW_lload2 (pc' := 21) dX6_waysForAtMost_20 rfl ?_
        refine PW_lload4 (pc' := 23) dX6_waysForAtMost_21 rfl ?_
        refine PW_ladd (pc' := 24) dX6_waysForAtMost_23 rfl ?_
        refine PW_lstore2 (pc' := 25) dX6_waysForAtMost_24 rfl rfl rfl ?_
        refine PW_lload4 (pc' := 27) dX6_waysForAtMost_25 rfl ?_
        refine PW_iload0 (pc' := 28) dX6_waysForAtMost_27 rfl ?_
        refine PW_iload6 (pc' := 30) dX6_waysForAtMost_28 rfl ?_
        refine PW_isub (pc' := 31) dX6_waysForAtMost_30 rfl ?_
        refine PW_i2l (pc' := 32) dX6_waysForAtMost_31 rfl ?_
        refine PW_lmul (pc' := 33) dX6_waysForAtMost_32 rfl ?_
        refine PW_iload6 (pc' := 35) dX6_waysForAtMost_33 rfl ?_
        refine PW_iconst (pc' := 36) dX6_waysForAtMost_35 rfl (v := 1) (by first | rfl | decide) ?_
        refine PW_iadd (pc' := 37) dX6_waysForAtMost_36 rfl ?_
        refine PW_i2l (pc' := 38) dX6_waysForAtMost_37 rfl ?_
        refine PW_ldiv (pc' := 39) dX6_waysForAtMost_38 rfl (lN_ne0 (by omega)) ?_
        refine PW_lstore4 (pc' := 41) dX6_waysForAtMost_39 rfl rfl rfl ?_
        refine PW_iinc6 (pc' := 44) dX6_waysForAtMost_41 rfl rfl rfl nI_inc ?_
        refine PW_goto (tgt := 8) dX6_waysForAtMost_44 rfl ?_
        exact ih (m - 1) (by omega) (k + 1) (by omega)
set_option maxHeartbeats 4000000 in
theorem c_X6_waysForAtMost {Γ : pv_G} {d : Nat} {M : pv_M} {u v : Nat} (hu : u ≤ 100) (hv : v ≤ 100) : Ct Γ d vX6_waysForAtMost [.int (nI u), .int (nI v)] M (pv_fn (some (.long (s_ways u (min v u + 1)).1)) M) := by
  refine Ct.of oX6_waysForAtMost.1 rfl (pad := 5) rfl ?_
  show PW Γ d vX6_waysForAtMost 0 [.int (nI u), .int (nI v), .null, .null, .null, .null, .null] [] M _
  refine PW_lconst (pc' := 1) dX6_waysForAtMost_0 rfl (v := 0) (by first | rfl | decide) ?_
  refine PW_lstore2 (pc' := 2) dX6_waysForAtMost_1 rfl rfl rfl ?_
  refine PW_lconst (pc' := 3) dX6_waysForAtMost_2 rfl (v := 1) (by first | rfl | decide) ?_
  refine PW_lstore4 (pc' := 5) dX6_waysForAtMost_3 rfl rfl rfl ?_
  refine PW_iconst (pc' := 6) dX6_waysForAtMost_5 rfl (v := nI 0) (by first | rfl | decide) ?_
  refine PW_istore6 (pc' := 8) dX6_waysForAtMost_6 rfl rfl rfl ?_
  exact l_X6_ways hu hv (min v u + 1) 0 (by omega)
theorem lg_cmp_0 {x y : Int64} : lg_cmp x y = 0 ↔ x = y := by
  unfold lg_cmp
  by_cases h : x > y
  · rw [if_pos h]
    constructor
    · intro z; exact absurd z (by decide)
    · intro z
      subst z
      simp only [gt_iff_lt, Int64.lt_iff_toInt_lt] at h
      omega
  · rw [if_neg h]
    by_cases h2 : x = y
    · rw [if_pos h2]; exact ⟨fun _ => h2, fun _ => rfl⟩
    · rw [if_neg h2]
      exact ⟨fun z => absurd z (by decide), fun z => absurd z h2⟩
set_option maxHeartbeats 4000000 in
theorem l_X6_odds {Γ : pv_G} {d u : Nat} {o : Int64 × s_A} {M0 M : pv_M} {x1 x2 x3 x4 x5 x6 : Int32} {X : Int64 × Int64} (hu : u ≤ 100) (h0 : x5 = 0 → o_XL o M0 (some (.long X.1)) M) (h1 : ¬ x5 = 0 → o_XL o M0 (some (.long X.2)) M) : ∀ (m h : Nat) (x y : Int64), h + m = u → s_half m x y = X →
    PW Γ (d + 3) vX6_odds 93 [.ref 0, .int x1, .int x2, .int x3, .int x4, .int x5, .int x6, .int (nI u), .long x, .null, .long y, .null, .int (nI h)] [] M (o_XL o M0) := by
  intro m
  induction m with
  | zero =>
    intro h x y hhu hX
    refine PW_iload12 (pc' := 95) dX6_odds_93 rfl ?_
    refine PW_iload7 (pc' := 97) dX6_odds_95 rfl ?_
    refine PW_icmp_ge (tgt := 133) (pc' := 100) dX6_odds_97 rfl rfl (fun h97 => ?_) (fun h97 => ?_)
    · simp only [s_half] at hX
      subst hX
      refine PW_iload5 (pc' := 135) dX6_odds_133 rfl ?_
      refine PW_if_ne (tgt := 143) (pc' := 138) dX6_odds_135 rfl rfl (fun h135 => ?_) (fun h135 => ?_)
      · refine PW_lload10 (pc' := 145) dX6_odds_143 rfl ?_
        refine PW_lreturn dX6_odds_145 rfl ?_
        first
          | exact h0 h135
          | exact h1 h135
      · refine PW_lload8 (pc' := 140) dX6_odds_138 rfl ?_
        refine PW_goto (tgt := 145) dX6_odds_140 rfl ?_
        refine PW_lreturn dX6_odds_145 rfl ?_
        first
          | exact h0 h135
          | exact h1 h135
    · exact absurd (nI_le (a := u) (b := h) (by omega) (by omega)) h97
  | succ m ih =>
    intro h x y hhu hX
    refine PW_iload12 (pc' := 95) dX6_odds_93 rfl ?_
    refine PW_iload7 (pc' := 97) dX6_odds_95 rfl ?_
    refine PW_icmp_ge (tgt := 133) (pc' := 100) dX6_odds_97 rfl rfl (fun h97 => ?_) (fun h97 => ?_)
    · exact absurd h97 (nI_ge (by omega) (by omega))
    · refine PW_lload8 (pc' := 102) dX6_odds_100 rfl ?_
      refine PW_ldc2 (pc' := 105) dX6_odds_102 rfl qX6_196 ?_
      refine PW_lrem (pc' := 106) dX6_odds_105 rfl (by decide) ?_
      refine PW_lconst (pc' := 107) dX6_odds_106 rfl (v := 0) (by first | rfl | decide) ?_
      refine PW_lcmp (pc' := 108) dX6_odds_107 rfl ?_
      refine PW_if_ne (tgt := 133) (pc' := 111) dX6_odds_108 rfl rfl (fun h108 => ?_) (fun h108 => ?_)
      · have q : ¬ x - x / 2 * 2 = 0 := fun z => h108 (lg_cmp_0.mpr z)
        simp only [s_half, if_neg q] at hX
        subst hX
        refine PW_iload5 (pc' := 135) dX6_odds_133 rfl ?_
        refine PW_if_ne (tgt := 143) (pc' := 138) dX6_odds_135 rfl rfl (fun h135 => ?_) (fun h135 => ?_)
        · refine PW_lload10 (pc' := 145) dX6_odds_143 rfl ?_
          refine PW_lreturn dX6_odds_145 rfl ?_
          first
            | exact h0 h135
            | exact h1 h135
        · refine PW_lload8 (pc' := 140) dX6_odds_138 rfl ?_
          refine PW_goto (tgt := 145) dX6_odds_140 rfl ?_
          refine PW_lreturn dX6_odds_145 rfl ?_
          first
            | exact h0 h135
            | exact h1 h135
      · have q : x - x / 2 * 2 = 0 := lg_cmp_0.mp h108
        simp only [s_half, if_pos q] at hX
        refine PW_lload8 (pc' := 113) dX6_odds_111 rfl ?_
        refine PW_ldc2 (pc' := 116) dX6_odds_113 rfl qX6_196 ?_
        refine PW_ldiv (pc' := 117) dX6_odds_116 rfl (by decide) ?_
        refine PW_lstore8 (pc' := 119) dX6_odds_117 rfl rfl rfl ?_
        refine PW_lload10 (pc' := 121) dX6_odds_119 rfl ?_
        refine PW_ldc2 (pc' := 124) dX6_odds_121 rfl qX6_196 ?_
        refine PW_ldiv (pc' := 125) dX6_odds_124 rfl (by decide) ?_
        refine PW_lstore10 (pc' := 127) dX6_odds_125 rfl rfl rfl ?_
        refine PW_iinc12 (pc' := 130) dX6_odds_127 rfl rfl rfl nI_inc ?_
        refine PW_goto (tgt := 93) dX6_odds_130 rfl ?_
        exact ih (h + 1) _ _ (by omega) hX
set_option maxHeartbeats 4000000 in
theorem l_X6_odds_j {Γ : pv_G} {d : Nat} {a : s_A} {k l i v w : Int32} {ok : Bool} {M : pv_M} (hA : AX M a) (hq : ok = (s_rng v 0 30 && s_rng w 0 1)) : PW Γ (d + 3) vX6_odds 28 [.ref 0, .int k, .int l, .int i, .int v, .int w, .null, .null, .null, .null, .null, .null, .null] [.int (bi ok)] M (o_XL (op_odds k l i v w a) M) := by
  obtain ⟨hH, hR, hSh, hfl, htr⟩ := id hA
  obtain ⟨hok, hc1, hc2, hc3, hf⟩ := id hH
  have hn5 := hok.1
  subst hq
  refine PW_istore6 (pc' := 30) dX6_odds_28 rfl rfl rfl ?_
  refine PW_aload0 (pc' := 31) dX6_odds_30 rfl ?_
  refine PW_iload1 (pc' := 32) dX6_odds_31 rfl ?_
  refine PW_iload2 (pc' := 33) dX6_odds_32 rfl ?_
  refine PW_iload3 (pc' := 34) dX6_odds_33 rfl ?_
  refine PW_iload6 (pc' := 36) dX6_odds_34 rfl ?_
  refine PW_callV4r (pc' := 39) dX6_odds_36 rfl oX6_hearRound lX6_117 rfl rfl rfl (Nat.le_of_ble_eq_true rfl) (c_X6_hearRound hA) (fun M1 hM1 => ?_)
  obtain ⟨hA1, hF1, hrw⟩ := hM1
  have hH1 : HX M1 a.1 := hA1.1
  refine PW_if_ne (tgt := 58) (pc' := 42) dX6_odds_39 rfl rfl (fun h39 => ?_) (fun h39 => ?_)
  · skip
    refine PW_ldc2 (pc' := 61) dX6_odds_58 rfl qX6_190 ?_
    refine PW_lreturn dX6_odds_61 rfl ?_
    first
      | (refine ⟨?_, hA1, hF1⟩
         simp only [op_odds]
         rw [if_neg h39]
         rfl)
      | (refine ⟨?_, hA1, hF1⟩
         simp only [op_odds]
         rw [if_pos h39, if_pos q5]
         rfl)
  · refine PW_aload0 (pc' := 43) dX6_odds_42 rfl ?_
    refine PW_getR (pc' := 46) dX6_odds_43 rfl fX6_21 rfl rfl ?_
    refine PW_aload0 (pc' := 47) dX6_odds_46 rfl ?_
    refine PW_getR (pc' := 50) dX6_odds_47 rfl fX6_39 rfl rfl ?_
    refine PW_callV1f (pc' := 53) dX6_odds_50 rfl oX0_firstWrong lX6_121 rfl rfl rfl (Nat.le_of_ble_eq_true rfl) (c_X0_firstWrong (pl := 28) rfl hH1 (hrw h39)) ?_
    refine PW_bipush (pc' := 55) dX6_odds_53 rfl (v := -9) (by first | rfl | decide) ?_
    refine PW_icmp_eq (tgt := 62) (pc' := 58) dX6_odds_55 rfl rfl (fun h55 => ?_) (fun h55 => ?_)
    · have q5 := s_oI_none h55
      refine PW_aload0 (pc' := 63) dX6_odds_62 rfl ?_
      refine PW_getR (pc' := 66) dX6_odds_63 rfl fX6_21 rfl rfl ?_
      refine PW_aload0 (pc' := 67) dX6_odds_66 rfl ?_
      refine PW_getR (pc' := 70) dX6_odds_67 rfl fX6_39 rfl rfl ?_
      refine PW_callV1f (pc' := 73) dX6_odds_70 rfl oX0_missedBy lX6_128 rfl rfl rfl (Nat.le_of_ble_eq_true rfl) (c_X0_missedBy (pl := 28) rfl hH1 (hrw h39)) ?_
      have hml := s_miss_le (H := a.1) (r := s_rw a (ix k) (ix i)) 6
      refine PW_istore7 (pc' := 75) dX6_odds_73 rfl rfl rfl ?_
      have hvv : s_rng v 0 30 = true := by
        cases hb : s_rng v 0 30 with
        | true => rfl
        | false =>
          exfalso
          rw [hb] at h39
          have hm : ∀ f, f ≤ 4 → ¬ (-10 - nI f : Int32) = 0 := by decide +kernel
          simp only [a_hear, Bool.false_and] at h39
          by_cases q1 : s_rng k 0 3 = true
          · rw [if_pos q1, if_neg (by simp)] at h39
            exact absurd h39 (by decide)
          · rw [if_neg q1] at h39
            exact absurd h39 (by decide)
      obtain ⟨j, hj, rfl⟩ := s_rng_of (n := 30) hvv
      have hj2 : j < 2 ^ 31 := by omega
      refine PW_iload7 (pc' := 77) dX6_odds_75 rfl ?_
      refine PW_iload4 (pc' := 79) dX6_odds_77 rfl ?_
      refine PW_callS2f (pc' := 82) dX6_odds_79 rfl oX6_waysForAtMost lX6_192 (Nat.le_of_ble_eq_true rfl) (c_X6_waysForAtMost (by omega) (by omega)) ?_
      refine PW_lstore8 (pc' := 84) dX6_odds_82 rfl rfl rfl ?_
      refine PW_lconst (pc' := 85) dX6_odds_84 rfl (v := 1) (by first | rfl | decide) ?_
      refine PW_iload7 (pc' := 87) dX6_odds_85 rfl ?_
      refine PW_lshl (pc' := 88) dX6_odds_87 rfl ?_
      refine PW_lstore10 (pc' := 90) dX6_odds_88 rfl rfl rfl ?_
      refine PW_iconst (pc' := 91) dX6_odds_90 rfl (v := nI 0) (by first | rfl | decide) ?_
      refine PW_istore12 (pc' := 93) dX6_odds_91 rfl rfl rfl ?_
      refine l_X6_odds (X := s_odds (s_miss a.1 (s_rw a (ix k) (ix i)) 6) j) (by omega) (fun h0 => ?_) (fun h1 => ?_) (s_miss a.1 (s_rw a (ix k) (ix i)) 6) 0 _ _ (by omega) rfl
      · refine ⟨?_, hA1, hF1⟩
        simp only [op_odds]
        rw [if_pos h39, q5, if_neg (by decide), if_pos h0, ix_nI hj2]
      · refine ⟨?_, hA1, hF1⟩
        simp only [op_odds]
        rw [if_pos h39, q5, if_neg (by decide), if_neg h1, ix_nI hj2]
    · have q5 := s_oI_some h55
      skip
      refine PW_ldc2 (pc' := 61) dX6_odds_58 rfl qX6_190 ?_
      refine PW_lreturn dX6_odds_61 rfl ?_
      first
        | (refine ⟨?_, hA1, hF1⟩
           simp only [op_odds]
           rw [if_neg h39]
           rfl)
        | (refine ⟨?_, hA1, hF1⟩
           simp only [op_odds]
           rw [if_pos h39, if_pos q5]
           rfl)
set_option maxHeartbeats 4000000 in
theorem c_X6_odds {Γ : pv_G} {d : Nat} {M : pv_M} {a : s_A} {k l i v w : Int32} (hA : AX M a) : Ct Γ (d + 3) vX6_odds [.ref 0, .int k, .int l, .int i, .int v, .int w] M (o_XL (op_odds k l i v w a) M) := by
  obtain ⟨hH, hR, hSh, hfl, htr⟩ := id hA
  obtain ⟨hok, hc1, hc2, hc3, hf⟩ := id hH
  have hn5 := hok.1
  refine Ct.of oX6_odds.1 rfl (pad := 7) rfl ?_
  show PW Γ (d + 3) vX6_odds 0 [.ref 0, .int k, .int l, .int i, .int v, .int w, .null, .null, .null, .null, .null, .null, .null] [] M _
  refine PW_iload4 (pc' := 2) dX6_odds_0 rfl ?_
  refine PW_if_lt (tgt := 27) (pc' := 5) dX6_odds_2 rfl rfl (fun h2 => ?_) (fun h2 => ?_)
  · rw [z_lt] at h2
    have qv : s_rng v 0 30 = false := by
      simp only [s_rng, Bool.and_eq_false_iff, decide_eq_false_iff_not]
      omega
    refine PW_iconst (pc' := 28) dX6_odds_27 rfl (v := 0) (by first | rfl | decide) ?_
    first
      | exact l_X6_odds_j (ok := true) hA (by rw [qv, qw]; rfl)
      | exact l_X6_odds_j (ok := false) hA (by rw [qv]; rfl)
      | exact l_X6_odds_j (ok := false) hA (by rw [qv, qw]; rfl)
  · rw [z_lt] at h2
    refine PW_iload4 (pc' := 7) dX6_odds_5 rfl ?_
    refine PW_bipush (pc' := 9) dX6_odds_7 rfl (v := nI 30) (by first | rfl | decide) ?_
    refine PW_icmp_gt (tgt := 27) (pc' := 12) dX6_odds_9 rfl rfl (fun h9 => ?_) (fun h9 => ?_)
    · simp only [Int32.lt_iff_toInt_lt, Int32.le_iff_toInt_le, nI_toInt (show 30 < 2 ^ 31 by decide), Int.cast_ofNat_Int] at h9
      have qv : s_rng v 0 30 = false := by
        simp only [s_rng, Bool.and_eq_false_iff, decide_eq_false_iff_not]
        omega
      refine PW_iconst (pc' := 28) dX6_odds_27 rfl (v := 0) (by first | rfl | decide) ?_
      first
        | exact l_X6_odds_j (ok := true) hA (by rw [qv, qw]; rfl)
        | exact l_X6_odds_j (ok := false) hA (by rw [qv]; rfl)
        | exact l_X6_odds_j (ok := false) hA (by rw [qv, qw]; rfl)
    · simp only [Int32.lt_iff_toInt_lt, Int32.le_iff_toInt_le, nI_toInt (show 30 < 2 ^ 31 by decide), Int.cast_ofNat_Int] at h9
      have qv : s_rng v 0 30 = true := by
        simp only [s_rng, Bool.and_eq_true, decide_eq_true_eq]
        omega
      refine PW_iload5 (pc' := 14) dX6_odds_12 rfl ?_
      refine PW_if_eq (tgt := 23) (pc' := 17) dX6_odds_14 rfl rfl (fun h14 => ?_) (fun h14 => ?_)
      · have qw : s_rng w 0 1 = true := by rw [h14]; decide
        refine PW_iconst (pc' := 24) dX6_odds_23 rfl (v := 1) (by first | rfl | decide) ?_
        refine PW_goto (tgt := 28) dX6_odds_24 rfl ?_
        first
          | exact l_X6_odds_j (ok := true) hA (by rw [qv, qw]; rfl)
          | exact l_X6_odds_j (ok := false) hA (by rw [qv]; rfl)
          | exact l_X6_odds_j (ok := false) hA (by rw [qv, qw]; rfl)
      · refine PW_iload5 (pc' := 19) dX6_odds_17 rfl ?_
        refine PW_iconst (pc' := 20) dX6_odds_19 rfl (v := 1) (by first | rfl | decide) ?_
        refine PW_icmp_ne (tgt := 27) (pc' := 23) dX6_odds_20 rfl rfl (fun h20 => ?_) (fun h20 => ?_)
        · have qw : s_rng w 0 1 = false := by
            simp only [s_rng, Bool.and_eq_false_iff, decide_eq_false_iff_not]
            have n0 : w.toInt ≠ 0 := fun z => h14 (Int32.toInt_inj.mp (by rw [z]; rfl))
            have n1 : w.toInt ≠ 1 := fun z => h20 (Int32.toInt_inj.mp (by rw [z]; rfl))
            omega
          refine PW_iconst (pc' := 28) dX6_odds_27 rfl (v := 0) (by first | rfl | decide) ?_
          first
            | exact l_X6_odds_j (ok := true) hA (by rw [qv, qw]; rfl)
            | exact l_X6_odds_j (ok := false) hA (by rw [qv]; rfl)
            | exact l_X6_odds_j (ok := false) hA (by rw [qv, qw]; rfl)
        · have qw : s_rng w 0 1 = true := by rw [h20]; decide
          refine PW_iconst (pc' := 24) dX6_odds_23 rfl (v := 1) (by first | rfl | decide) ?_
          refine PW_goto (tgt := 28) dX6_odds_24 rfl ?_
          first
            | exact l_X6_odds_j (ok := true) hA (by rw [qv, qw]; rfl)
            | exact l_X6_odds_j (ok := false) hA (by rw [qv]; rfl)
            | exact l_X6_odds_j (ok := false) hA (by rw [qv, qw]; rfl)
