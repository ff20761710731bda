/-! the reference: rounds, sure -/
def opn_rounds (h : Int32) (a : s_A) : s_O := (if s_rng h (-1) 5 = true then (if a.1.1 = 0 then -3 else if h = -1 then nI (s_rds a.1 a.2.1 ((a.1.1 + 1) ^ 6)).1 else s_rI (s_rn a.1.1 ((s_rds a.1 a.2.1 ((a.1.1 + 1) ^ 6)).2.getD 0) (ix h))) else -2, a)
def opn_sure (h : Int32) (a : s_A) : s_O := (if s_rng h 0 5 = true then (if a.1.1 = 0 then -3 else nI (s_sre a.1 a.2.1 (ix h) ((a.1.1 + 1) ^ 6))) else -2, a)
theorem s_rng_mm {h : Int32} (q : s_rng h (-1) 5 = true) (h0 : ¬ 0 ≤ h) : h = -1 := by
  simp only [s_rng, Bool.and_eq_true, decide_eq_true_eq] at q
  rw [Int32.le_iff_toInt_le] at h0
  have e0 : (0 : Int32).toInt = 0 := rfl
  rw [e0] at h0
  refine Int32.toInt_inj.mp ?_
  have e1 : (-1 : Int32).toInt = -1 := rfl
  rw [e1]
  omega
theorem s_rng_05 {h : Int32} (q : s_rng h (-1) 5 = true) (h0 : 0 ≤ h) : ∃ j, j < 6 ∧ h = nI j := by
  simp only [s_rng, Bool.and_eq_true, decide_eq_true_eq] at q
  rw [Int32.le_iff_toInt_le] at h0
  have e0 : (0 : Int32).toInt = 0 := rfl
  rw [e0] at h0
  refine ⟨h.toInt.toNat, by omega, Int32.toInt_inj.mp ?_⟩
  rw [nI_toInt (by omega)]
  omega
set_option maxHeartbeats 4000000 in
theorem l_X7_rounds {Γ : pv_G} {d : Nat} {a : s_A} {h : Int32} {M0 : pv_M} (hA : AM M0 a) (q : s_rng h (-1) 5 = true) (hp : ¬ a.1.1 = 0) : ∀ (m n : Nat) (M : pv_M), n + m = (a.1.1 + 1) ^ 6 → frS M0 M →
    PW Γ (d + 4) vX7_rounds 35 [.ref 29, .int h, .int (nI (s_rds a.1 a.2.1 n).1), .int (s_rI (s_rds a.1 a.2.1 n).2), .int (nI n)] [] M (o_M (opn_rounds h a) M0) := by
  have hn5 := hA.1.1.1
  have hb := pow_le6 hn5 (show 6 ≤ 6 by decide)
  intro m
  induction m using Nat.strongRecOn with
  | ind m ih =>
    intro n M hnm hF
    have hAM : AM M a := hA.scr hF
    have hc1 := hAM.1.2.1
    obtain ⟨bd1, bd2⟩ := s_rds_bd a.1 a.2.1 n
    have hng := s_rI_neg (n := n) (by omega) bd2
    refine PW_iload4 (pc' := 37) dX7_rounds_35 rfl ?_
    refine PW_aload0 (pc' := 38) dX7_rounds_37 rfl ?_
    refine PW_callV0f (pc' := 41) dX7_rounds_38 rfl oX7_rows lX7_196 rfl rfl rfl (Nat.le_of_ble_eq_true rfl) (c_X7_rows hn5 hc1) ?_
    refine PW_icmp_ge (tgt := 73) (pc' := 44) dX7_rounds_41 rfl rfl (fun h41 => ?_) (fun h41 => ?_)
    · have hnn : n = (a.1.1 + 1) ^ 6 := by have := s_bge (by omega) (by omega) h41; omega
      subst hnn
      refine PW_iload1 (pc' := 74) dX7_rounds_73 rfl ?_
      refine PW_if_ge (tgt := 79) (pc' := 77) dX7_rounds_74 rfl rfl (fun h74 => ?_) (fun h74 => ?_)
      · obtain ⟨y, hy, hh⟩ := s_rng_05 q h74
        have hne : ¬ h = -1 := fun z => by rw [z] at h74; exact absurd h74 (by decide)
        refine PW_aload0 (pc' := 80) dX7_rounds_79 rfl ?_
        refine PW_iload3 (pc' := 81) dX7_rounds_80 rfl ?_
        refine PW_if_ge (tgt := 88) (pc' := 84) dX7_rounds_81 rfl rfl (fun h81 => ?_) (fun h81 => ?_)
        · obtain ⟨j, hj⟩ : ∃ j, (s_rds a.1 a.2.1 ((a.1.1 + 1) ^ 6)).2 = some j := by
            cases hz : (s_rds a.1 a.2.1 ((a.1.1 + 1) ^ 6)).2 with
            | none => rw [hz] at h81; exact absurd h81 (by decide)
            | some j => exact ⟨j, rfl⟩
          have hjn := bd2 j hj
          have hgd : (s_rds a.1 a.2.1 ((a.1.1 + 1) ^ 6)).2.getD 0 = j := by rw [hj]; rfl
          rw [show s_rI (s_rds a.1 a.2.1 ((a.1.1 + 1) ^ 6)).2 = nI j by rw [hj]; rfl]
          refine PW_iload3 (pc' := 89) dX7_rounds_88 rfl ?_
          refine PW_callV1w (pc' := 92) dX7_rounds_89 rfl oX7_layRow lX7_199 rfl rfl rfl (Nat.le_of_ble_eq_true rfl) (c_X7_layRow hn5 hjn hc1) (fun M1 hM1 => ?_)
          have hF1 : frS M M1 := ⟨fun q hq => hM1.1 q (fun z => hq (by rw [z]; decide)), fun q hq => by rw [hM1.1 29 (by decide)]⟩
          refine PW_aload0 (pc' := 93) dX7_rounds_92 rfl ?_
          refine PW_getR (pc' := 96) dX7_rounds_93 rfl fX7_40 rfl rfl ?_
          refine PW_iload1 (pc' := 97) dX7_rounds_96 rfl ?_
          rw [hh]
          refine PW_ialdn (pc' := 98) dX7_rounds_97 rfl rfl rfl (show y < 6 by omega) ?_
          rw [(hM1.2 y hy).1]
          refine PW_ireturn .int dX7_rounds_98 rfl rfl ?_
          refine ⟨?_, hA.scr (hF.tr hF1), (hF.tr hF1).frM⟩
          simp only [opn_rounds]
          rw [hh] at q hne
          rw [if_pos q, if_neg hp, if_neg hne, hgd, ix_nI (by omega)]
        · have hjn : 0 < (a.1.1 + 1) ^ 6 := Nat.pow_pos (by omega)
          have hgd : (s_rds a.1 a.2.1 ((a.1.1 + 1) ^ 6)).2.getD 0 = 0 := by rw [hng.mp (Int32.not_le.mp h81)]; rfl
          refine PW_iconst (pc' := 85) dX7_rounds_84 rfl (v := nI 0) (by first | rfl | decide) ?_
          refine PW_goto (tgt := 89) dX7_rounds_85 rfl ?_
          refine PW_callV1w (pc' := 92) dX7_rounds_89 rfl oX7_layRow lX7_199 rfl rfl rfl (Nat.le_of_ble_eq_true rfl) (c_X7_layRow hn5 hjn hc1) (fun M1 hM1 => ?_)
          have hF1 : frS M M1 := ⟨fun q hq => hM1.1 q (fun z => hq (by rw [z]; decide)), fun q hq => by rw [hM1.1 29 (by decide)]⟩
          refine PW_aload0 (pc' := 93) dX7_rounds_92 rfl ?_
          refine PW_getR (pc' := 96) dX7_rounds_93 rfl fX7_40 rfl rfl ?_
          refine PW_iload1 (pc' := 97) dX7_rounds_96 rfl ?_
          rw [hh]
          refine PW_ialdn (pc' := 98) dX7_rounds_97 rfl rfl rfl (show y < 6 by omega) ?_
          rw [(hM1.2 y hy).1]
          refine PW_ireturn .int dX7_rounds_98 rfl rfl ?_
          refine ⟨?_, hA.scr (hF.tr hF1), (hF.tr hF1).frM⟩
          simp only [opn_rounds]
          rw [hh] at q hne
          rw [if_pos q, if_neg hp, if_neg hne, hgd, ix_nI (by omega)]
      · have hm1 := s_rng_mm q h74
        refine PW_iload2 (pc' := 78) dX7_rounds_77 rfl ?_
        refine PW_ireturn .int dX7_rounds_78 rfl rfl ?_
        refine ⟨?_, hA.scr hF, hF.frM⟩
        simp only [opn_rounds]
        rw [if_pos q, if_neg hp, if_pos hm1]
    · have hn : n < (a.1.1 + 1) ^ 6 := s_bnd (by omega) (by omega) h41
      refine PW_aload0 (pc' := 45) dX7_rounds_44 rfl ?_
      refine PW_iload4 (pc' := 47) dX7_rounds_45 rfl ?_
      refine PW_callV1r (pc' := 50) dX7_rounds_47 rfl oX7_isSo lX7_218 rfl rfl rfl (Nat.le_of_ble_eq_true rfl) (c_X7_isSo hAM hn) (fun M1 hM1 => ?_)
      obtain ⟨hF1, hrow1⟩ := hM1
      refine PW_if_eq (tgt := 67) (pc' := 53) dX7_rounds_50 rfl rfl (fun h50 => ?_) (fun h50 => ?_)
      · have e : s_rds a.1 a.2.1 (n + 1) = s_rds a.1 a.2.1 n := by
          simp only [s_rds]
          rw [bi_f h50, if_neg (by decide)]
        refine PW_iinc4 (pc' := 70) dX7_rounds_67 rfl rfl rfl nI_inc ?_
        refine PW_goto (tgt := 35) dX7_rounds_70 rfl ?_
        have hgo := ih (m - 1) (by omega) (n + 1) _ (by omega) (hF.tr hF1)
        rw [e] at hgo
        exact hgo
      · have q5 := bi_t h50
        refine PW_iinc2 (pc' := 56) dX7_rounds_53 rfl rfl rfl nI_inc ?_
        refine PW_iload3 (pc' := 57) dX7_rounds_56 rfl ?_
        refine PW_if_ge (tgt := 65) (pc' := 60) dX7_rounds_57 rfl rfl (fun h57 => ?_) (fun h57 => ?_)
        · have e : s_rds a.1 a.2.1 (n + 1) = ((s_rds a.1 a.2.1 n).1 + 1, (s_rds a.1 a.2.1 n).2) := by
            simp only [s_rds]
            rw [if_pos q5]
            cases hz : (s_rds a.1 a.2.1 n).2 with
            | none => rw [hz] at h57; exact absurd h57 (by decide)
            | some j => rfl
          refine PW_iload3 (pc' := 66) dX7_rounds_65 rfl ?_
          refine PW_istore3 (pc' := 67) dX7_rounds_66 rfl rfl rfl ?_
          refine PW_iinc4 (pc' := 70) dX7_rounds_67 rfl rfl rfl nI_inc ?_
          refine PW_goto (tgt := 35) dX7_rounds_70 rfl ?_
          have hgo := ih (m - 1) (by omega) (n + 1) _ (by omega) (hF.tr hF1)
          rw [e] at hgo
          exact hgo
        · have e : s_rds a.1 a.2.1 (n + 1) = ((s_rds a.1 a.2.1 n).1 + 1, some n) := by
            simp only [s_rds]
            rw [if_pos q5, hng.mp (Int32.not_le.mp h57)]
          refine PW_iload4 (pc' := 62) dX7_rounds_60 rfl ?_
          refine PW_goto (tgt := 66) dX7_rounds_62 rfl ?_
          refine PW_istore3 (pc' := 67) dX7_rounds_66 rfl rfl rfl ?_
          refine PW_iinc4 (pc' := 70) dX7_rounds_67 rfl rfl rfl nI_inc ?_
          refine PW_goto (tgt := 35) dX7_rounds_70 rfl ?_
          have hgo := ih (m - 1) (by omega) (n + 1) _ (by omega) (hF.tr hF1)
          rw [e] at hgo
          exact hgo
set_option maxHeartbeats 4000000 in
theorem c_X7_rounds {Γ : pv_G} {d : Nat} {M : pv_M} {a : s_A} {h : Int32} (hA : AM M a) : Ct Γ (d + 4) vX7_rounds [.ref 29, .int h] M (o_M (opn_rounds h a) M) := by
  obtain ⟨hH, hR, hSh, hfl, htr, hnv⟩ := id hA
  obtain ⟨hok, hc1, hc2, hc3, hf⟩ := id hH
  have hn5 := hok.1
  have hf0 := fun t ht => hf t ht 0 (by decide)
  have hf2 := fun t ht => hf t ht 2 (by decide)
  have hf4 := fun t ht => hf t ht 4 (by decide)
  refine Ct.of oX7_rounds.1 rfl (pad := 3) rfl ?_
  show PW Γ (d + 4) vX7_rounds 0 [.ref 29, .int h, .null, .null, .null] [] M _
  refine PW_iload1 (pc' := 1) dX7_rounds_0 rfl ?_
  refine PW_i2l (pc' := 2) dX7_rounds_1 rfl ?_
  refine PW_ldc2 (pc' := 5) dX7_rounds_2 rfl qX7_206 ?_
  refine PW_ldc2 (pc' := 8) dX7_rounds_5 rfl qX7_208 ?_
  refine PW_callS3f (pc' := 11) dX7_rounds_8 rfl oX7_in lX7_87 (Nat.le_of_ble_eq_true rfl) (c_X7_inr (a := -1) (b := 5) rfl rfl) ?_
  refine PW_if_ne (tgt := 17) (pc' := 14) dX7_rounds_11 rfl rfl (fun h11 => ?_) (fun h11 => ?_)
  · have q := bi_t h11
    refine PW_aload0 (pc' := 18) dX7_rounds_17 rfl ?_
    refine PW_getI (pc' := 21) dX7_rounds_18 rfl fX7_84 rfl rfl ?_
    rw [hc1]
    refine PW_if_ne (tgt := 27) (pc' := 24) dX7_rounds_21 rfl rfl (fun h21 => ?_) (fun h21 => ?_)
    · have hp : ¬ a.1.1 = 0 := fun z => h21 (by rw [z]; rfl)
      refine PW_iconst (pc' := 28) dX7_rounds_27 rfl (v := nI 0) (by first | rfl | decide) ?_
      refine PW_istore2 (pc' := 29) dX7_rounds_28 rfl rfl rfl ?_
      refine PW_bipush (pc' := 31) dX7_rounds_29 rfl (v := s_rI none) (by first | rfl | decide) ?_
      refine PW_istore3 (pc' := 32) dX7_rounds_31 rfl rfl rfl ?_
      refine PW_iconst (pc' := 33) dX7_rounds_32 rfl (v := nI 0) (by first | rfl | decide) ?_
      refine PW_istore4 (pc' := 35) dX7_rounds_33 rfl rfl rfl ?_
      exact l_X7_rounds hA q hp _ 0 M (Nat.zero_add _) frS.rf
    · have hp : a.1.1 = 0 := nI_inj (by omega) (by decide) h21
      refine PW_bipush (pc' := 26) dX7_rounds_24 rfl (v := -3) (by first | rfl | decide) ?_
      refine PW_ireturn .int dX7_rounds_26 rfl rfl ?_
      exact ⟨by simp [opn_rounds, q, hp], hA, frM.rf⟩
  · have q := bi_f h11
    refine PW_bipush (pc' := 16) dX7_rounds_14 rfl (v := -2) (by first | rfl | decide) ?_
    refine PW_ireturn .int dX7_rounds_16 rfl rfl ?_
    exact ⟨by simp [opn_rounds, q], hA, frM.rf⟩
set_option maxHeartbeats 4000000 in
theorem l_X7_sure {Γ : pv_G} {d y : Nat} {a : s_A} {M0 : pv_M} (hA : AM M0 a) (hy : y < 6) (q : s_rng (nI y) 0 5 = true) (hp : ¬ a.1.1 = 0) : ∀ (m n : Nat) (M : pv_M), n + m = (a.1.1 + 1) ^ 6 → frS M0 M →
    PW Γ (d + 4) vX7_sure 29 [.ref 29, .int (nI y), .int (nI (s_sre a.1 a.2.1 y n)), .int (nI n)] [] M (o_M (opn_sure (nI y) a) M0) := by
  have hn5 := hA.1.1.1
  have hb := pow_le6 hn5 (show 6 ≤ 6 by decide)
  intro m
  induction m using Nat.strongRecOn with
  | ind m ih =>
    intro n M hnm hF
    have hAM : AM M a := hA.scr hF
    have hc1 := hAM.1.2.1
    have hsl := s_sre_lt hn5 a.2.1 y n
    refine PW_iload3 (pc' := 30) dX7_sure_29 rfl ?_
    refine PW_aload0 (pc' := 31) dX7_sure_30 rfl ?_
    refine PW_callV0f (pc' := 34) dX7_sure_31 rfl oX7_rows lX7_196 rfl rfl rfl (Nat.le_of_ble_eq_true rfl) (c_X7_rows hn5 hc1) ?_
    refine PW_icmp_ge (tgt := 75) (pc' := 37) dX7_sure_34 rfl rfl (fun h34 => ?_) (fun h34 => ?_)
    · have hnn : n = (a.1.1 + 1) ^ 6 := by have := s_bge (by omega) (by omega) h34; omega
      subst hnn
      refine PW_iload2 (pc' := 76) dX7_sure_75 rfl ?_
      refine PW_ireturn .int dX7_sure_76 rfl rfl ?_
      refine ⟨?_, hA.scr hF, hF.frM⟩
      simp only [opn_sure]
      rw [if_pos q, if_neg hp, ix_nI (by omega)]
    · have hn : n < (a.1.1 + 1) ^ 6 := s_bnd (by omega) (by omega) h34
      refine PW_aload0 (pc' := 38) dX7_sure_37 rfl ?_
      refine PW_iload3 (pc' := 39) dX7_sure_38 rfl ?_
      refine PW_callV1r (pc' := 42) dX7_sure_39 rfl oX7_isSo lX7_218 rfl rfl rfl (Nat.le_of_ble_eq_true rfl) (c_X7_isSo hAM hn) (fun M1 hM1 => ?_)
      obtain ⟨hF1, hrow1⟩ := hM1
      refine PW_if_eq (tgt := 69) (pc' := 45) dX7_sure_42 rfl rfl (fun h42 => ?_) (fun h42 => ?_)
      · have e : s_sre a.1 a.2.1 y (n + 1) = s_sre a.1 a.2.1 y n := by
          simp only [s_sre]
          rw [bi_f h42, if_neg (by decide)]
        refine PW_iinc3 (pc' := 72) dX7_sure_69 rfl rfl rfl nI_inc ?_
        refine PW_goto (tgt := 29) dX7_sure_72 rfl ?_
        have hgo := ih (m - 1) (by omega) (n + 1) _ (by omega) (hF.tr hF1)
        rw [e] at hgo
        first
          | exact hgo
          | (rw [(bt_or _ hsl 5 (by omega)).1]; exact hgo)
          | (rw [ht, s_rI_some, (bt_or _ hsl t (by omega)).1]; exact hgo)
      · have q5 := bi_t h42
        refine PW_iload2 (pc' := 46) dX7_sure_45 rfl ?_
        refine PW_iconst (pc' := 47) dX7_sure_46 rfl (v := 1) (by first | rfl | decide) ?_
        refine PW_aload0 (pc' := 48) dX7_sure_47 rfl ?_
        refine PW_getR (pc' := 51) dX7_sure_48 rfl fX7_40 rfl rfl ?_
        refine PW_iload1 (pc' := 52) dX7_sure_51 rfl ?_
        refine PW_ialdn (pc' := 53) dX7_sure_52 rfl rfl rfl (show y < 6 by omega) ?_
        rw [(hrow1 y hy).1]
        refine PW_if_ge (tgt := 60) (pc' := 56) dX7_sure_53 rfl rfl (fun h53 => ?_) (fun h53 => ?_)
        · obtain ⟨t, ht⟩ : ∃ t, s_rn a.1.1 n y = some t := by
            cases hz : s_rn a.1.1 n y with
            | none => rw [hz] at h53; exact absurd h53 (by decide)
            | some t => exact ⟨t, rfl⟩
          have htn := s_rn_lt ht
          have e : s_sre a.1 a.2.1 y (n + 1) = s_sre a.1 a.2.1 y n ||| 2 ^ t := by
            simp only [s_sre]
            rw [if_pos q5, ht]
            rfl
          refine PW_aload0 (pc' := 61) dX7_sure_60 rfl ?_
          refine PW_getR (pc' := 64) dX7_sure_61 rfl fX7_40 rfl rfl ?_
          refine PW_iload1 (pc' := 65) dX7_sure_64 rfl ?_
          refine PW_ialdn (pc' := 66) dX7_sure_65 rfl rfl rfl (show y < 6 by omega) ?_
          try rw [(hrow1 y hy).1]
          refine PW_ishl (pc' := 67) dX7_sure_66 rfl ?_
          refine PW_ior (pc' := 68) dX7_sure_67 rfl ?_
          refine PW_istore2 (pc' := 69) dX7_sure_68 rfl rfl rfl ?_
          refine PW_iinc3 (pc' := 72) dX7_sure_69 rfl rfl rfl nI_inc ?_
          refine PW_goto (tgt := 29) dX7_sure_72 rfl ?_
          have hgo := ih (m - 1) (by omega) (n + 1) _ (by omega) (hF.tr hF1)
          rw [e] at hgo
          first
            | exact hgo
            | (rw [(bt_or _ hsl 5 (by omega)).1]; exact hgo)
            | (rw [ht, s_rI_some, (bt_or _ hsl t (by omega)).1]; exact hgo)
        · have ht : s_rn a.1.1 n y = none := by
            cases hz : s_rn a.1.1 n y with
            | none => rfl
            | some t =>
              rw [hz] at h53
              have := s_rn_lt hz
              exact absurd (v_gez.mpr (nI_pos (by omega))) h53
          have e : s_sre a.1 a.2.1 y (n + 1) = s_sre a.1 a.2.1 y n ||| 2 ^ 5 := by
            simp only [s_sre]
            rw [if_pos q5, ht]
            rfl
          refine PW_iconst (pc' := 57) dX7_sure_56 rfl (v := nI 5) (by first | rfl | decide) ?_
          refine PW_goto (tgt := 66) dX7_sure_57 rfl ?_
          try rw [(hrow1 y hy).1]
          refine PW_ishl (pc' := 67) dX7_sure_66 rfl ?_
          refine PW_ior (pc' := 68) dX7_sure_67 rfl ?_
          refine PW_istore2 (pc' := 69) dX7_sure_68 rfl rfl rfl ?_
          refine PW_iinc3 (pc' := 72) dX7_sure_69 rfl rfl rfl nI_inc ?_
          refine PW_goto (tgt := 29) dX7_sure_72 rfl ?_
          have hgo := ih (m - 1) (by omega) (n + 1) _ (by omega) (hF.tr hF1)
          rw [e] at hgo
          first
            | exact hgo
            | (rw [(bt_or _ hsl 5 (by omega)).1]; exact hgo)
            | (rw [ht, s_rI_some, (bt_or _ hsl t (by omega)).1]; exact hgo)
set_option maxHeartbeats 4000000 in
theorem c_X7_sure {Γ : pv_G} {d : Nat} {M : pv_M} {a : s_A} {h : Int32} (hA : AM M a) : Ct Γ (d + 4) vX7_sure [.ref 29, .int h] M (o_M (opn_sure h a) M) := by
  obtain ⟨hH, hR, hSh, hfl, htr, hnv⟩ := id hA
  obtain ⟨hok, hc1, hc2, hc3, hf⟩ := id hH
  have hn5 := hok.1
  have hf0 := fun t ht => hf t ht 0 (by decide)
  have hf2 := fun t ht => hf t ht 2 (by decide)
  have hf4 := fun t ht => hf t ht 4 (by decide)
  refine Ct.of oX7_sure.1 rfl (pad := 2) rfl ?_
  show PW Γ (d + 4) vX7_sure 0 [.ref 29, .int h, .null, .null] [] M _
  refine PW_iload1 (pc' := 1) dX7_sure_0 rfl ?_
  refine PW_i2l (pc' := 2) dX7_sure_1 rfl ?_
  refine PW_lconst (pc' := 3) dX7_sure_2 rfl (v := 0) (by first | rfl | decide) ?_
  refine PW_ldc2 (pc' := 6) dX7_sure_3 rfl qX7_208 ?_
  refine PW_callS3f (pc' := 9) dX7_sure_6 rfl oX7_in lX7_87 (Nat.le_of_ble_eq_true rfl) (c_X7_inr (a := 0) (b := 5) rfl rfl) ?_
  refine PW_if_ne (tgt := 15) (pc' := 12) dX7_sure_9 rfl rfl (fun h9 => ?_) (fun h9 => ?_)
  · have q := bi_t h9
    refine PW_aload0 (pc' := 16) dX7_sure_15 rfl ?_
    refine PW_getI (pc' := 19) dX7_sure_16 rfl fX7_84 rfl rfl ?_
    rw [hc1]
    refine PW_if_ne (tgt := 25) (pc' := 22) dX7_sure_19 rfl rfl (fun h19 => ?_) (fun h19 => ?_)
    · have hp : ¬ a.1.1 = 0 := fun z => h19 (by rw [z]; rfl)
      refine PW_iconst (pc' := 26) dX7_sure_25 rfl (v := nI 0) (by first | rfl | decide) ?_
      refine PW_istore2 (pc' := 27) dX7_sure_26 rfl rfl rfl ?_
      refine PW_iconst (pc' := 28) dX7_sure_27 rfl (v := nI 0) (by first | rfl | decide) ?_
      refine PW_istore3 (pc' := 29) dX7_sure_28 rfl rfl rfl ?_
      obtain ⟨y, hy, rfl⟩ := s_rng_of (n := 5) q
      exact l_X7_sure hA (by omega) q hp _ 0 M (Nat.zero_add _) frS.rf
    · have hp : a.1.1 = 0 := nI_inj (by omega) (by decide) h19
      refine PW_bipush (pc' := 24) dX7_sure_22 rfl (v := -3) (by first | rfl | decide) ?_
      refine PW_ireturn .int dX7_sure_24 rfl rfl ?_
      exact ⟨by simp [opn_sure, q, hp], hA, frM.rf⟩
  · have q := bi_f h9
    refine PW_bipush (pc' := 14) dX7_sure_12 rfl (v := -2) (by first | rfl | decide) ?_
    refine PW_ireturn .int dX7_sure_14 rfl rfl ?_
    exact ⟨by simp [opn_sure, q], hA, frM.rf⟩
