/-! the reference: round -/
theorem op_round_bad {k l i w x f : Int32} {a : s_A} {M M' : pv_M} (ho : a_hear k l i (s_rng w 0 3 || s_rng w 10 15) a = (x, f)) (hx : ¬ x = 0) (h1 : AM M' (a_flt a f)) (h2 : frM M M') : o_M (op_round k l i w a) M (some (.int x)) M' := by
  simp only [o_M, op_round]
  rw [ho]
  exact ⟨by rw [if_neg hx], h1, h2⟩
theorem op_round_ok {k l i w x : Int32} {a : s_A} {M M' : pv_M} (ho : a_hear k l i (s_rng w 0 3 || s_rng w 10 15) a = (0, 0)) (hx : x = if w = 1 then s_oI (s_wrong a.1 (s_rw a (ix k) (ix i)) 6) else if (s_wrong a.1 (s_rw a (ix k) (ix i)) 6).isSome = true then s_wans (s_wrong a.1 (s_rw a (ix k) (ix i)) 6) else if s_rng w 10 15 = true then nI (s_cs a.1 (s_rw a (ix k) (ix i)) (ix w - 10) (ix w - 10 + 1)) else if w = 2 then nI (s_miss a.1 (s_rw a (ix k) (ix i)) 6) else if w = 0 then nI (s_take a.1 a.1.2.2.1 (s_rw a (ix k) (ix i)) 6) else nI (s_take a.1 a.1.2.2.1 (s_rw a (ix k) (ix i)) 6) - nI a.1.2.1 * nI (s_miss a.1 (s_rw a (ix k) (ix i)) 6) + 1000) (h1 : AM M' (a_flt a 0)) (h2 : frM M M') : o_M (op_round k l i w a) M (some (.int x)) M' := by
  simp only [o_M, op_round]
  rw [ho]
  exact ⟨by rw [if_pos rfl, hx], h1, h2⟩
set_option maxHeartbeats 4000000 in
theorem l_X7_round {Γ : pv_G} {d u : Nat} {a : s_A} {l i w : Int32} {M : pv_M} (hu : u ≤ 3) (q2 : s_rng l 0 2 = true) (hok2 : (s_rng w 0 3 || s_rng w 10 15) = true) (hA : AM M a) :
    PW Γ (d + 3) vX7_round 60 [.ref 29, .int (nI u), .int l, .int i, .int w, .null, .null] [] M (o_M (op_round (nI u) l i w a) M) := by
  have hu2 : u < 2 ^ 31 := by omega
  obtain ⟨hH, hR, hSh, hfl, htr, hnv⟩ := id hA
  obtain ⟨hok, hc1, hc2, hc3, hf⟩ := id hH
  have hn5 := hok.1
  have hf0 := fun t ht => hf t ht 0 (by decide)
  have hf2 := fun t ht => hf t ht 2 (by decide)
  have hf4 := fun t ht => hf t ht 4 (by decide)
  refine PW_aload0 (pc' := 61) dX7_round_60 rfl ?_
  refine PW_getI (pc' := 64) dX7_round_61 rfl fX7_84 rfl rfl ?_
  rw [hc1]
  refine PW_if_ne (tgt := 74) (pc' := 67) dX7_round_64 rfl rfl (fun h64 => ?_) (fun h64 => ?_)
  · have hp : ¬ a.1.1 = 0 := fun z => h64 (by rw [z]; rfl)
    have ho := a_hear_bar (i := i) hu q2 hok2 hp
    refine PW_aload0 (pc' := 75) dX7_round_74 rfl ?_
    refine PW_iload1 (pc' := 76) dX7_round_75 rfl ?_
    refine PW_iload2 (pc' := 77) dX7_round_76 rfl ?_
    refine PW_iload3 (pc' := 78) dX7_round_77 rfl ?_
    refine PW_callV3r (pc' := 81) dX7_round_78 rfl oX7_roundBarred lX7_184 rfl rfl rfl (Nat.le_of_ble_eq_true rfl) (c_X7_roundBarred (show u < 4 by omega) hA) (fun M1 hM1 => ?_)
    obtain ⟨hA1, hF1, hrw⟩ := hM1
    refine PW_istore5 (pc' := 83) dX7_round_81 rfl rfl rfl ?_
    refine PW_iload5 (pc' := 85) dX7_round_83 rfl ?_
    refine PW_if_ge (tgt := 91) (pc' := 88) dX7_round_85 rfl rfl (fun h85 => ?_) (fun h85 => ?_)
    · have hz := a_bar_nn h85
      rw [hz] at ho hA1
      have hz1 : (a_bar u l i a).1 = 0 := by rw [hz]
      have hu3 : ix (nI u) = u := ix_nI hu2
      refine PW_aload0 (pc' := 92) dX7_round_91 rfl ?_
      refine PW_callV0r (pc' := 95) dX7_round_92 rfl oX7_goRound lX7_188 rfl rfl rfl (Nat.le_of_ble_eq_true rfl) (c_X7_goRound (H := a.1) (nv := none) hA1.1 (hrw hz1) hA1.2.2.2.2.2 (fun t ht => by cases ht)) (fun M2 hM2 => ?_)
      obtain ⟨g1, g2, g3, g4⟩ := go_of (H := a.1) hA1.1.1 (hrw hz1) hM2
      rw [s_wrn_none]
      refine PW_istore6 (pc' := 97) dX7_round_95 rfl rfl rfl ?_
      refine PW_iload4 (pc' := 99) dX7_round_97 rfl ?_
      refine PW_iconst (pc' := 100) dX7_round_99 rfl (v := 1) (by first | rfl | decide) ?_
      refine PW_icmp_ne (tgt := 108) (pc' := 103) dX7_round_100 rfl rfl (fun h100 => ?_) (fun h100 => ?_)
      · refine PW_iload6 (pc' := 110) dX7_round_108 rfl ?_
        refine PW_if_ne (tgt := 121) (pc' := 113) dX7_round_110 rfl rfl (fun h110 => ?_) (fun h110 => ?_)
        · have q5 := s_oN_F h110
          refine PW_iload4 (pc' := 123) dX7_round_121 rfl ?_
          by_cases e123_0 : w = 0
          · subst e123_0
            refine PW_tin (tgt := 152) dX7_round_123 (by decide) (by decide) (by rfl) rfl ?_
            refine PW_aload0 (pc' := 153) dX7_round_152 rfl ?_
            refine PW_getI (pc' := 156) dX7_round_153 rfl fX7_163 rfl rfl ?_
            rw [(g4 q5).1]
            refine PW_ireturn .int dX7_round_156 rfl rfl ?_
            refine op_round_ok ho ?_ (hA1.scr g1) (hF1.tr g1.frM)
            rw [hu3]
            rw [if_neg (by decide), q5, if_neg (by decide), if_neg (by decide), if_neg (by decide), if_pos rfl]
          by_cases e123_1 : w = 1
          · subst e123_1
            exact absurd rfl h100
          by_cases e123_2 : w = 2
          · subst e123_2
            refine PW_tin (tgt := 157) dX7_round_123 (by decide) (by decide) (by rfl) rfl ?_
            refine PW_aload0 (pc' := 158) dX7_round_157 rfl ?_
            refine PW_getI (pc' := 161) dX7_round_158 rfl fX7_166 rfl rfl ?_
            rw [(g4 q5).2.1]
            refine PW_ireturn .int dX7_round_161 rfl rfl ?_
            refine op_round_ok ho ?_ (hA1.scr g1) (hF1.tr g1.frM)
            rw [hu3]
            rw [if_neg (by decide), q5, if_neg (by decide), if_neg (by decide), if_pos rfl]
          by_cases e123_3 : w = 3
          · subst e123_3
            refine PW_tin (tgt := 162) dX7_round_123 (by decide) (by decide) (by rfl) rfl ?_
            refine PW_aload0 (pc' := 163) dX7_round_162 rfl ?_
            refine PW_callV0f (pc' := 166) dX7_round_163 rfl oX7_leftNow lX7_192 rfl rfl rfl (Nat.le_of_ble_eq_true rfl) (c_X7_leftNow) ?_
            rw [(g4 q5).1, (g4 q5).2.1, (hA1.1.scr g1).2.2.1]
            refine PW_sipush (pc' := 169) dX7_round_166 rfl (v := 1000) (by first | rfl | decide) ?_
            refine PW_iadd (pc' := 170) dX7_round_169 rfl ?_
            refine PW_ireturn .int dX7_round_170 rfl rfl ?_
            refine op_round_ok ho ?_ (hA1.scr g1) (hF1.tr g1.frM)
            rw [hu3]
            rw [if_neg (by decide), q5, if_neg (by decide), if_neg (by decide), if_neg (by decide), if_neg (by decide)]
            rfl
          refine PW_tout (tgt := 171) dX7_round_123 (ts_out3 e123_0 e123_1 e123_2 e123_3) rfl ?_
          have q6 : s_rng w 10 15 = true := by
            rcases (Bool.or_eq_true _ _).mp hok2 with z | z
            · obtain ⟨x, hx, rfl⟩ := s_rng_of (n := 3) z
              have : x = 0 ∨ x = 1 ∨ x = 2 ∨ x = 3 := by omega
              rcases this with rfl | rfl | rfl | rfl
              · exact absurd rfl e123_0
              · exact absurd rfl e123_1
              · exact absurd rfl e123_2
              · exact absurd rfl e123_3
            · exact z
          obtain ⟨x, hx1, hx2, rfl⟩ := s_rng_10 q6
          have hx3 : x < 2 ^ 31 := by omega
          refine PW_aload0 (pc' := 172) dX7_round_171 rfl ?_
          refine PW_getR (pc' := 175) dX7_round_172 rfl fX7_43 rfl rfl ?_
          refine PW_iload4 (pc' := 177) dX7_round_175 rfl ?_
          refine PW_bipush (pc' := 179) dX7_round_177 rfl (v := 10) (by first | rfl | decide) ?_
          refine PW_isub (pc' := 180) dX7_round_179 rfl ?_
          rw [v_sub10 x hx1 hx2]
          refine PW_ialdn (pc' := 181) dX7_round_180 rfl rfl rfl (by omega) ?_
          rw [(g4 q5).2.2 _ (by omega)]
          refine PW_ireturn .int dX7_round_181 rfl rfl ?_
          refine op_round_ok ho ?_ (hA1.scr g1) (hF1.tr g1.frM)
          rw [hu3]
          rw [if_neg h100, q5, if_neg (by decide), if_pos q6, ix_nI hx3]
        · have q5 := s_oN_T h110
          refine PW_bipush (pc' := 115) dX7_round_113 rfl (v := -100) (by first | rfl | decide) ?_
          refine PW_aload0 (pc' := 116) dX7_round_115 rfl ?_
          refine PW_getI (pc' := 119) dX7_round_116 rfl fX7_160 rfl rfl ?_
          rw [g3]
          refine PW_isub (pc' := 120) dX7_round_119 rfl ?_
          refine PW_ireturn .int dX7_round_120 rfl rfl ?_
          refine op_round_ok ho ?_ (hA1.scr g1) (hF1.tr g1.frM)
          rw [hu3]
          rw [if_neg h100, if_pos q5]
          rfl
      · refine PW_aload0 (pc' := 104) dX7_round_103 rfl ?_
        refine PW_getI (pc' := 107) dX7_round_104 rfl fX7_160 rfl rfl ?_
        rw [g3]
        refine PW_ireturn .int dX7_round_107 rfl rfl ?_
        refine op_round_ok ho ?_ (hA1.scr g1) (hF1.tr g1.frM)
        rw [hu3]
        rw [if_pos h100]
    · refine PW_iload5 (pc' := 90) dX7_round_88 rfl ?_
      refine PW_ireturn .int dX7_round_90 rfl rfl ?_
      exact op_round_bad ho (fun z => h85 (by rw [z]; decide)) hA1 hF1
  · have hp : a.1.1 = 0 := nI_inj (by omega) (by decide) h64
    refine PW_aload0 (pc' := 68) dX7_round_67 rfl ?_
    refine PW_bipush (pc' := 70) dX7_round_68 rfl (v := -3) (by first | rfl | decide) ?_
    refine PW_callV1f (pc' := 73) dX7_round_70 rfl oX7_refused lX7_124 rfl rfl rfl (Nat.le_of_ble_eq_true rfl) (c_X7_refused) ?_
    refine PW_ireturn .int dX7_round_73 rfl rfl ?_
    exact op_round_bad (x := -3) (f := 0) (by simp [a_hear, show s_rng (nI u) 0 3 = true from by simp only [s_rng, Bool.and_eq_true, decide_eq_true_eq, nI_toInt hu2]; omega, q2, hok2, hp]) (by decide) (hA.fault 0) (frM.rf.up (by decide))
set_option maxHeartbeats 4000000 in
theorem c_X7_round {Γ : pv_G} {d : Nat} {M : pv_M} {a : s_A} {k l i w : Int32} (hA : AM M a) : Ct Γ (d + 3) vX7_round [.ref 29, .int k, .int l, .int i, .int w] M (o_M (op_round k l i w a) M) := by
  obtain ⟨hH, hR, hSh, hfl, htr, hnv⟩ := id hA
  obtain ⟨hok, hc1, hc2, hc3, hf⟩ := id hH
  have hn5 := hok.1
  have hf0 := fun t ht => hf t ht 0 (by decide)
  have hf2 := fun t ht => hf t ht 2 (by decide)
  have hf4 := fun t ht => hf t ht 4 (by decide)
  refine Ct.of oX7_round.1 rfl (pad := 2) rfl ?_
  show PW Γ (d + 3) vX7_round 0 [.ref 29, .int k, .int l, .int i, .int w, .null, .null] [] M _
  refine PW_iload1 (pc' := 1) dX7_round_0 rfl ?_
  refine PW_callS1f (pc' := 4) dX7_round_1 rfl oX7_noSheet lX7_120 (Nat.le_of_ble_eq_true rfl) (c_X7_noSheet) ?_
  refine PW_if_eq (tgt := 13) (pc' := 7) dX7_round_4 rfl rfl (fun h4 => ?_) (fun h4 => ?_)
  · have q := bn_f h4
    obtain ⟨u, hu, rfl⟩ := s_rng_of (n := 3) q
    have hu2 : u < 2 ^ 31 := by omega
    refine PW_iload2 (pc' := 14) dX7_round_13 rfl ?_
    refine PW_i2l (pc' := 15) dX7_round_14 rfl ?_
    refine PW_lconst (pc' := 16) dX7_round_15 rfl (v := 0) (by first | rfl | decide) ?_
    refine PW_ldc2 (pc' := 19) dX7_round_16 rfl qX7_127 ?_
    refine PW_callS3f (pc' := 22) dX7_round_19 rfl oX7_in lX7_87 (Nat.le_of_ble_eq_true rfl) (c_X7_inr (a := 0) (b := 2) rfl rfl) ?_
    refine PW_if_eq (tgt := 53) (pc' := 25) dX7_round_22 rfl rfl (fun h22 => ?_) (fun h22 => ?_)
    · have q2 := bi_f h22
      refine PW_aload0 (pc' := 54) dX7_round_53 rfl ?_
      refine PW_bipush (pc' := 56) dX7_round_54 rfl (v := -2) (by first | rfl | decide) ?_
      refine PW_callV1f (pc' := 59) dX7_round_56 rfl oX7_refused lX7_124 rfl rfl rfl (Nat.le_of_ble_eq_true rfl) (c_X7_refused) ?_
      refine PW_ireturn .int dX7_round_59 rfl rfl ?_
      exact op_round_bad (x := -2) (f := 0) (by first | (simp [a_hear, q, q2]; done) | (simp [a_hear, q, q2, q3, q4]; done)) (by decide) (hA.fault 0) (frM.rf.up (by decide))
    · have q2 := bi_t h22
      refine PW_iload4 (pc' := 27) dX7_round_25 rfl ?_
      refine PW_i2l (pc' := 28) dX7_round_27 rfl ?_
      refine PW_lconst (pc' := 29) dX7_round_28 rfl (v := 0) (by first | rfl | decide) ?_
      refine PW_ldc2 (pc' := 32) dX7_round_29 rfl qX7_153 ?_
      refine PW_callS3f (pc' := 35) dX7_round_32 rfl oX7_in lX7_87 (Nat.le_of_ble_eq_true rfl) (c_X7_inr (a := 0) (b := 3) rfl rfl) ?_
      refine PW_if_ne (tgt := 60) (pc' := 38) dX7_round_35 rfl rfl (fun h35 => ?_) (fun h35 => ?_)
      · have q3 := bi_t h35
        first
          | (refine l_X7_round (by omega) q2 ?_ hA; rw [q3]; rfl; done)
          | (refine l_X7_round (by omega) q2 ?_ hA; rw [q4, Bool.or_true]; done)
      · have q3 := bi_f h35
        refine PW_iload4 (pc' := 40) dX7_round_38 rfl ?_
        refine PW_i2l (pc' := 41) dX7_round_40 rfl ?_
        refine PW_ldc2 (pc' := 44) dX7_round_41 rfl qX7_180 ?_
        refine PW_ldc2 (pc' := 47) dX7_round_44 rfl qX7_182 ?_
        refine PW_callS3f (pc' := 50) dX7_round_47 rfl oX7_in lX7_87 (Nat.le_of_ble_eq_true rfl) (c_X7_inr (a := 10) (b := 15) rfl rfl) ?_
        refine PW_if_ne (tgt := 60) (pc' := 53) dX7_round_50 rfl rfl (fun h50 => ?_) (fun h50 => ?_)
        · have q4 := bi_t h50
          first
            | (refine l_X7_round (by omega) q2 ?_ hA; rw [q3]; rfl; done)
            | (refine l_X7_round (by omega) q2 ?_ hA; rw [q4, Bool.or_true]; done)
        · have q4 := bi_f h50
          refine PW_aload0 (pc' := 54) dX7_round_53 rfl ?_
          refine PW_bipush (pc' := 56) dX7_round_54 rfl (v := -2) (by first | rfl | decide) ?_
          refine PW_callV1f (pc' := 59) dX7_round_56 rfl oX7_refused lX7_124 rfl rfl rfl (Nat.le_of_ble_eq_true rfl) (c_X7_refused) ?_
          refine PW_ireturn .int dX7_round_59 rfl rfl ?_
          exact op_round_bad (x := -2) (f := 0) (by first | (simp [a_hear, q, q2]; done) | (simp [a_hear, q, q2, q3, q4]; done)) (by decide) (hA.fault 0) (frM.rf.up (by decide))
  · have q := bn_t h4
    refine PW_aload0 (pc' := 8) dX7_round_7 rfl ?_
    refine PW_iconst (pc' := 9) dX7_round_8 rfl (v := -1) (by first | rfl | decide) ?_
    refine PW_callV1f (pc' := 12) dX7_round_9 rfl oX7_refused lX7_124 rfl rfl rfl (Nat.le_of_ble_eq_true rfl) (c_X7_refused) ?_
    refine PW_ireturn .int dX7_round_12 rfl rfl ?_
    exact op_round_bad (x := -1) (f := 0) (by simp [a_hear, q]) (by decide) (hA.fault 0) (frM.rf.up (by decide))
