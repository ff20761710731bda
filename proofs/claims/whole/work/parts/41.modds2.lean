/-! the reference: odds, the call -/
set_option maxHeartbeats 4000000 in
theorem l_X7_odds {Γ : pv_G} {d u j : Nat} {o : Int64 × s_A} {M0 M : pv_M} {x1 x2 x3 w : Int32} (hu : u < 37) (hj : j ≤ 30) (h23 : M 29 23 = nI u) (hQ : o_ML o M0 (some (.long (if w = 0 then (s_odds u j).1 else (s_odds u j).2))) M) : ∀ (m k : Nat), k + m = min j u + 1 →
    PW Γ (d + 3) vX7_odds 85 [.ref 29, .int x1, .int x2, .int x3, .int (nI j), .int w, .long (s_ways u k).2, .null, .long (s_ways u k).1, .null, .int (nI k)] [] M (o_ML o M0) := by
  rw [s_odds_gcd hu hj] at hQ
  have b1 := s_wn_bd hu (show min j u + 1 < 32 by omega)
  have b2 := s_wn_bd hu (show min j u < 32 by omega)
  have b3 : 2 ^ u < 2 ^ 61 := Nat.pow_lt_pow_right (by decide) (by omega)
  have hend : PW Γ (d + 3) vX7_odds 133 [.ref 29, .int x1, .int x2, .int x3, .int (nI j), .int w, .long (s_ways u (min j u + 1)).2, .null, .long (s_ways u (min j u + 1)).1, .null, .int (nI (min j u + 1))] [] M (o_ML o M0) := by
    refine PW_lload8 (pc' := 135) dX7_odds_133 rfl ?_
    refine PW_lconst (pc' := 136) dX7_odds_135 rfl (v := 1) (by first | rfl | decide) ?_
    refine PW_aload0 (pc' := 137) dX7_odds_136 rfl ?_
    refine PW_getI (pc' := 140) dX7_odds_137 rfl fX7_166 rfl rfl ?_
    rw [h23]
    refine PW_lshl (pc' := 141) dX7_odds_140 rfl ?_
    rw [lN_shl u hu, s_ways_wn hu _ (by omega) (by omega)]
    refine PW_iload5 (pc' := 143) dX7_odds_141 rfl ?_
    refine PW_callS3f (pc' := 146) dX7_odds_143 rfl oX7_told lX7_229 (Nat.le_of_ble_eq_true rfl) (c_X7_told (X := (s_wn u (min j u + 1)).1) (Y := 2 ^ u) b2.2.2.2 (by omega) (by omega)) ?_
    refine PW_lreturn dX7_odds_146 rfl ?_
    exact hQ
  intro m
  induction m using Nat.strongRecOn with
  | ind m ih =>
    intro k hkm
    refine PW_iload10 (pc' := 87) dX7_odds_85 rfl ?_
    refine PW_aload0 (pc' := 88) dX7_odds_87 rfl ?_
    refine PW_getI (pc' := 91) dX7_odds_88 rfl fX7_166 rfl rfl ?_
    rw [h23]
    refine PW_icmp_gt (tgt := 133) (pc' := 94) dX7_odds_91 rfl rfl (fun h91 => ?_) (fun h91 => ?_)
    · have hk : u < k := (nI_ltI (by omega) (by omega)).mp h91
      have hk : k = min j u + 1 := by omega
      subst hk
      exact hend
    · have hk2 : ¬ u < k := fun z => h91 ((nI_ltI (by omega) (by omega)).mpr z)
      refine PW_iload10 (pc' := 96) dX7_odds_94 rfl ?_
      refine PW_iload4 (pc' := 98) dX7_odds_96 rfl ?_
      refine PW_icmp_gt (tgt := 133) (pc' := 101) dX7_odds_98 rfl rfl (fun h98 => ?_) (fun h98 => ?_)
      · have hk : j < k := (nI_ltI (by omega) (by omega)).mp h98
        have hk : k = min j u + 1 := by omega
        subst hk
        exact hend
      · have hk : ¬ j < k := fun z => h98 ((nI_ltI (by omega) (by omega)).mpr z)
        refine PW_lload8 (pc' := 103) dX7_odds_101 rfl ?_
        refine PW_lload6 (pc' := 105) dX7_odds_103 rfl ?_
        refine PW_ladd (pc' := 106) dX7_odds_105 rfl ?_
        refine PW_lstore8 (pc' := 108) dX7_odds_106 rfl rfl rfl ?_
        refine PW_lload6 (pc' := 110) dX7_odds_108 rfl ?_
        refine PW_aload0 (pc' := 111) dX7_odds_110 rfl ?_
        refine PW_getI (pc' := 114) dX7_odds_111 rfl fX7_166 rfl rfl ?_
        refine PW_iload10 (pc' := 116) dX7_odds_114 rfl ?_
        rw [h23]
        refine PW_isub (pc' := 117) dX7_odds_116 rfl ?_
        refine PW_i2l (pc' := 118) dX7_odds_117 rfl ?_
        refine PW_lmul (pc' := 119) dX7_odds_118 rfl ?_
        refine PW_iload10 (pc' := 121) dX7_odds_119 rfl ?_
        refine PW_iconst (pc' := 122) dX7_odds_121 rfl (v := 1) (by first | rfl | decide) ?_
        refine PW_iadd (pc' := 123) dX7_odds_122 rfl ?_
        refine PW_i2l (pc' := 124) dX7_odds_123 rfl ?_
        refine PW_ldiv (pc' := 125) dX7_odds_124 rfl (lN_ne0 (by omega)) ?_
        refine PW_lstore6 (pc' := 127) dX7_odds_125 rfl rfl rfl ?_
        refine PW_iinc10 (pc' := 130) dX7_odds_127 rfl rfl rfl nI_inc ?_
        refine PW_goto (tgt := 85) dX7_odds_130 rfl ?_
        exact ih (m - 1) (by omega) (k + 1) (by omega)
theorem op_odds_bad {k l i v w x f : Int32} {a : s_A} {M M' : pv_M} (ho : a_hear k l i (s_rng v 0 30 && s_rng w 0 1) a = (x, f)) (hx : ¬ x = 0) (h1 : AM M' (a_flt a f)) (h2 : frM M M') : o_ML (op_odds k l i v w a) M (some (.long v_lost)) M' := by
  simp only [o_ML, op_odds]
  rw [ho]
  exact ⟨by rw [if_neg hx], h1, h2⟩
set_option maxHeartbeats 4000000 in
theorem c_X7_odds {Γ : pv_G} {d : Nat} {M : pv_M} {a : s_A} {k l i v w : Int32} (hA : AM M a) : Ct Γ (d + 3) vX7_odds [.ref 29, .int k, .int l, .int i, .int v, .int w] M (o_ML (op_odds k l i v w a) M) := by
  obtain ⟨hH, hR, hSh, hfl, htr, hnv⟩ := id hA
  obtain ⟨hok, hc1, hc2, hc3, hf⟩ := id hH
  have hn5 := hok.1
  have hf0 := fun t ht => hf t ht 0 (by decide)
  have hf2 := fun t ht => hf t ht 2 (by decide)
  have hf4 := fun t ht => hf t ht 4 (by decide)
  refine Ct.of oX7_odds.1 rfl (pad := 5) rfl ?_
  show PW Γ (d + 3) vX7_odds 0 [.ref 29, .int k, .int l, .int i, .int v, .int w, .null, .null, .null, .null, .null] [] M _
  refine PW_iload1 (pc' := 1) dX7_odds_0 rfl ?_
  refine PW_callS1f (pc' := 4) dX7_odds_1 rfl oX7_noSheet lX7_120 (Nat.le_of_ble_eq_true rfl) (c_X7_noSheet) ?_
  refine PW_if_ne (tgt := 50) (pc' := 7) dX7_odds_4 rfl rfl (fun h4 => ?_) (fun h4 => ?_)
  · have q := bn_t h4
    refine PW_aload0 (pc' := 51) dX7_odds_50 rfl ?_
    refine PW_callV0f (pc' := 54) dX7_odds_51 rfl oX7_refusedLong lX7_226 rfl rfl rfl (Nat.le_of_ble_eq_true rfl) (c_X7_refusedLong) ?_
    refine PW_lreturn dX7_odds_54 rfl ?_
    first
      | (refine op_odds_bad (x := -1) (f := 0) ?_ (by decide) (hA.fault 0) (frM.rf.up (by decide)); simp [a_hear, q]; done)
      | (refine op_odds_bad (x := -2) (f := 0) ?_ (by decide) (hA.fault 0) (frM.rf.up (by decide)); simp [a_hear, q, q1]; done)
      | (refine op_odds_bad (x := -2) (f := 0) ?_ (by decide) (hA.fault 0) (frM.rf.up (by decide)); simp [a_hear, q, q1, q2]; done)
      | (refine op_odds_bad (x := -2) (f := 0) ?_ (by decide) (hA.fault 0) (frM.rf.up (by decide)); simp [a_hear, q, q1, q2, q3]; done)
      | (refine op_odds_bad (x := -3) (f := 0) ?_ (by decide) (hA.fault 0) (frM.rf.up (by decide)); simp [a_hear, q, q1, q2, q3, hp]; done)
  · have q := bn_f h4
    obtain ⟨u, hu, rfl⟩ := s_rng_of (n := 3) q
    have hu2 : u < 2 ^ 31 := by omega
    refine PW_iload2 (pc' := 8) dX7_odds_7 rfl ?_
    refine PW_i2l (pc' := 9) dX7_odds_8 rfl ?_
    refine PW_lconst (pc' := 10) dX7_odds_9 rfl (v := 0) (by first | rfl | decide) ?_
    refine PW_ldc2 (pc' := 13) dX7_odds_10 rfl qX7_127 ?_
    refine PW_callS3f (pc' := 16) dX7_odds_13 rfl oX7_in lX7_87 (Nat.le_of_ble_eq_true rfl) (c_X7_inr (a := 0) (b := 2) rfl rfl) ?_
    refine PW_if_eq (tgt := 50) (pc' := 19) dX7_odds_16 rfl rfl (fun h16 => ?_) (fun h16 => ?_)
    · have q1 := bi_f h16
      refine PW_aload0 (pc' := 51) dX7_odds_50 rfl ?_
      refine PW_callV0f (pc' := 54) dX7_odds_51 rfl oX7_refusedLong lX7_226 rfl rfl rfl (Nat.le_of_ble_eq_true rfl) (c_X7_refusedLong) ?_
      refine PW_lreturn dX7_odds_54 rfl ?_
      first
        | (refine op_odds_bad (x := -1) (f := 0) ?_ (by decide) (hA.fault 0) (frM.rf.up (by decide)); simp [a_hear, q]; done)
        | (refine op_odds_bad (x := -2) (f := 0) ?_ (by decide) (hA.fault 0) (frM.rf.up (by decide)); simp [a_hear, q, q1]; done)
        | (refine op_odds_bad (x := -2) (f := 0) ?_ (by decide) (hA.fault 0) (frM.rf.up (by decide)); simp [a_hear, q, q1, q2]; done)
        | (refine op_odds_bad (x := -2) (f := 0) ?_ (by decide) (hA.fault 0) (frM.rf.up (by decide)); simp [a_hear, q, q1, q2, q3]; done)
        | (refine op_odds_bad (x := -3) (f := 0) ?_ (by decide) (hA.fault 0) (frM.rf.up (by decide)); simp [a_hear, q, q1, q2, q3, hp]; done)
    · have q1 := bi_t h16
      refine PW_iload4 (pc' := 21) dX7_odds_19 rfl ?_
      refine PW_i2l (pc' := 22) dX7_odds_21 rfl ?_
      refine PW_lconst (pc' := 23) dX7_odds_22 rfl (v := 0) (by first | rfl | decide) ?_
      refine PW_ldc2 (pc' := 26) dX7_odds_23 rfl qX7_213 ?_
      refine PW_callS3f (pc' := 29) dX7_odds_26 rfl oX7_in lX7_87 (Nat.le_of_ble_eq_true rfl) (c_X7_inr (a := 0) (b := 30) rfl rfl) ?_
      refine PW_if_eq (tgt := 50) (pc' := 32) dX7_odds_29 rfl rfl (fun h29 => ?_) (fun h29 => ?_)
      · have q2 := bi_f h29
        refine PW_aload0 (pc' := 51) dX7_odds_50 rfl ?_
        refine PW_callV0f (pc' := 54) dX7_odds_51 rfl oX7_refusedLong lX7_226 rfl rfl rfl (Nat.le_of_ble_eq_true rfl) (c_X7_refusedLong) ?_
        refine PW_lreturn dX7_odds_54 rfl ?_
        first
          | (refine op_odds_bad (x := -1) (f := 0) ?_ (by decide) (hA.fault 0) (frM.rf.up (by decide)); simp [a_hear, q]; done)
          | (refine op_odds_bad (x := -2) (f := 0) ?_ (by decide) (hA.fault 0) (frM.rf.up (by decide)); simp [a_hear, q, q1]; done)
          | (refine op_odds_bad (x := -2) (f := 0) ?_ (by decide) (hA.fault 0) (frM.rf.up (by decide)); simp [a_hear, q, q1, q2]; done)
          | (refine op_odds_bad (x := -2) (f := 0) ?_ (by decide) (hA.fault 0) (frM.rf.up (by decide)); simp [a_hear, q, q1, q2, q3]; done)
          | (refine op_odds_bad (x := -3) (f := 0) ?_ (by decide) (hA.fault 0) (frM.rf.up (by decide)); simp [a_hear, q, q1, q2, q3, hp]; done)
      · have q2 := bi_t h29
        refine PW_iload5 (pc' := 34) dX7_odds_32 rfl ?_
        refine PW_i2l (pc' := 35) dX7_odds_34 rfl ?_
        refine PW_lconst (pc' := 36) dX7_odds_35 rfl (v := 0) (by first | rfl | decide) ?_
        refine PW_lconst (pc' := 37) dX7_odds_36 rfl (v := 1) (by first | rfl | decide) ?_
        refine PW_callS3f (pc' := 40) dX7_odds_37 rfl oX7_in lX7_87 (Nat.le_of_ble_eq_true rfl) (c_X7_inr (a := 0) (b := 1) rfl rfl) ?_
        refine PW_if_eq (tgt := 50) (pc' := 43) dX7_odds_40 rfl rfl (fun h40 => ?_) (fun h40 => ?_)
        · have q3 := bi_f h40
          refine PW_aload0 (pc' := 51) dX7_odds_50 rfl ?_
          refine PW_callV0f (pc' := 54) dX7_odds_51 rfl oX7_refusedLong lX7_226 rfl rfl rfl (Nat.le_of_ble_eq_true rfl) (c_X7_refusedLong) ?_
          refine PW_lreturn dX7_odds_54 rfl ?_
          first
            | (refine op_odds_bad (x := -1) (f := 0) ?_ (by decide) (hA.fault 0) (frM.rf.up (by decide)); simp [a_hear, q]; done)
            | (refine op_odds_bad (x := -2) (f := 0) ?_ (by decide) (hA.fault 0) (frM.rf.up (by decide)); simp [a_hear, q, q1]; done)
            | (refine op_odds_bad (x := -2) (f := 0) ?_ (by decide) (hA.fault 0) (frM.rf.up (by decide)); simp [a_hear, q, q1, q2]; done)
            | (refine op_odds_bad (x := -2) (f := 0) ?_ (by decide) (hA.fault 0) (frM.rf.up (by decide)); simp [a_hear, q, q1, q2, q3]; done)
            | (refine op_odds_bad (x := -3) (f := 0) ?_ (by decide) (hA.fault 0) (frM.rf.up (by decide)); simp [a_hear, q, q1, q2, q3, hp]; done)
        · have q3 := bi_t h40
          refine PW_aload0 (pc' := 44) dX7_odds_43 rfl ?_
          refine PW_getI (pc' := 47) dX7_odds_44 rfl fX7_84 rfl rfl ?_
          rw [hc1]
          refine PW_if_ne (tgt := 55) (pc' := 50) dX7_odds_47 rfl rfl (fun h47 => ?_) (fun h47 => ?_)
          · have hp : ¬ a.1.1 = 0 := fun z => h47 (by rw [z]; rfl)
            have ho := a_hear_bar (i := i) (ok := s_rng v 0 30 && s_rng w 0 1) (by omega) q1 (by rw [q2, q3]; rfl) hp
            refine PW_aload0 (pc' := 56) dX7_odds_55 rfl ?_
            refine PW_iload1 (pc' := 57) dX7_odds_56 rfl ?_
            refine PW_iload2 (pc' := 58) dX7_odds_57 rfl ?_
            refine PW_iload3 (pc' := 59) dX7_odds_58 rfl ?_
            refine PW_callV3r (pc' := 62) dX7_odds_59 rfl oX7_roundBarred lX7_184 rfl rfl rfl (Nat.le_of_ble_eq_true rfl) (c_X7_roundBarred (show u < 4 by omega) hA) (fun M1 hM1 => ?_)
            obtain ⟨hA1, hF1, hrw⟩ := hM1
            refine PW_if_lt (tgt := 72) (pc' := 65) dX7_odds_62 rfl rfl (fun h62 => ?_) (fun h62 => ?_)
            · have hne : ¬ (a_bar u l i a).1 = 0 := fun z => by rw [z] at h62; exact absurd h62 (by decide)
              have hbad : o_ML (op_odds (nI u) l i v w a) M (some (.long v_lost)) M1 := op_odds_bad ho hne hA1 hF1
              refine PW_callS0f (pc' := 75) dX7_odds_72 rfl oX7_lost lX7_80 (Nat.le_of_ble_eq_true rfl) (c_X7_lost) ?_
              refine PW_lreturn dX7_odds_75 rfl ?_
              first
                | exact hbad
                | (refine ⟨?_, ?_, hF1.tr g1.frM⟩ <;> simp only [op_odds] <;> rw [ho]
                   · rw [if_pos rfl, hu3, if_pos q5]
                   · exact hA1.scr g1)
            · have hz := a_bar_nn (Int32.not_lt.mp h62)
              rw [hz] at ho hA1
              have hz1 : (a_bar u l i a).1 = 0 := by rw [hz]
              have hu3 : ix (nI u) = u := ix_nI hu2
              refine PW_aload0 (pc' := 66) dX7_odds_65 rfl ?_
              refine PW_callV0r (pc' := 69) dX7_odds_66 rfl oX7_goRound lX7_188 rfl rfl rfl (Nat.le_of_ble_eq_true rfl) (c_X7_goRound (H := a.1) (nv := none) hA1.1 (hrw hz1) hA1.2.2.2.2.2 (fun t ht => by cases ht)) (fun M2 hM2 => ?_)
              obtain ⟨g1, g2, g3, g4⟩ := go_of (H := a.1) hA1.1.1 (hrw hz1) hM2
              rw [s_wrn_none]
              refine PW_if_ne (tgt := 76) (pc' := 72) dX7_odds_69 rfl rfl (fun h69 => ?_) (fun h69 => ?_)
              · have q5 := s_oN_F h69
                have hml := s_miss_le (H := a.1) (r := s_rw a u (ix i)) 6
                obtain ⟨j, hj, rfl⟩ := s_rng_of (n := 30) q2
                have hj2 : j < 2 ^ 31 := by omega
                refine PW_lconst (pc' := 77) dX7_odds_76 rfl (v := 1) (by first | rfl | decide) ?_
                refine PW_lstore6 (pc' := 79) dX7_odds_77 rfl rfl rfl ?_
                refine PW_lconst (pc' := 80) dX7_odds_79 rfl (v := 0) (by first | rfl | decide) ?_
                refine PW_lstore8 (pc' := 82) dX7_odds_80 rfl rfl rfl ?_
                refine PW_iconst (pc' := 83) dX7_odds_82 rfl (v := nI 0) (by first | rfl | decide) ?_
                refine PW_istore10 (pc' := 85) dX7_odds_83 rfl rfl rfl ?_
                refine l_X7_odds (u := s_miss a.1 (s_rw a u (ix i)) 6) (by omega) hj (g4 q5).2.1 ?_ _ 0 (Nat.zero_add _)
                refine ⟨?_, ?_, hF1.tr g1.frM⟩ <;> simp only [op_odds] <;> rw [ho]
                · rw [if_pos (show (0 : Int32) = 0 from rfl), hu3, q5, ix_nI hj2, if_neg (show ¬ (none : Option Nat).isSome = true by decide)]
                · exact hA1.scr g1
              · have q5 := s_oN_T h69
                refine PW_callS0f (pc' := 75) dX7_odds_72 rfl oX7_lost lX7_80 (Nat.le_of_ble_eq_true rfl) (c_X7_lost) ?_
                refine PW_lreturn dX7_odds_75 rfl ?_
                first
                  | exact hbad
                  | (refine ⟨?_, ?_, hF1.tr g1.frM⟩ <;> simp only [op_odds] <;> rw [ho]
                     · rw [if_pos rfl, hu3, if_pos q5]
                     · exact hA1.scr g1)
          · have hp : a.1.1 = 0 := nI_inj (by omega) (by decide) h47
            refine PW_aload0 (pc' := 51) dX7_odds_50 rfl ?_
            refine PW_callV0f (pc' := 54) dX7_odds_51 rfl oX7_refusedLong lX7_226 rfl rfl rfl (Nat.le_of_ble_eq_true rfl) (c_X7_refusedLong) ?_
            refine PW_lreturn dX7_odds_54 rfl ?_
            first
              | (refine op_odds_bad (x := -1) (f := 0) ?_ (by decide) (hA.fault 0) (frM.rf.up (by decide)); simp [a_hear, q]; done)
              | (refine op_odds_bad (x := -2) (f := 0) ?_ (by decide) (hA.fault 0) (frM.rf.up (by decide)); simp [a_hear, q, q1]; done)
              | (refine op_odds_bad (x := -2) (f := 0) ?_ (by decide) (hA.fault 0) (frM.rf.up (by decide)); simp [a_hear, q, q1, q2]; done)
              | (refine op_odds_bad (x := -2) (f := 0) ?_ (by decide) (hA.fault 0) (frM.rf.up (by decide)); simp [a_hear, q, q1, q2, q3]; done)
              | (refine op_odds_bad (x := -3) (f := 0) ?_ (by decide) (hA.fault 0) (frM.rf.up (by decide)); simp [a_hear, q, q1, q2, q3, hp]; done)
