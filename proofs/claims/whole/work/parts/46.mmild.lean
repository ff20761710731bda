/-! the reference: mild -/
/-- the most takings of the first n rounds that are right and miss v uses at most -/
def s_mld (H : s_H) (v : Nat) : Nat → Nat
  | 0 => 0
  | n + 1 => if (decide (s_wrong H (s_rn H.1 n) 6 = none) && decide (s_miss H (s_rn H.1 n) 6 ≤ v)) = true ∧ s_mld H v n < s_take H H.2.2.1 (s_rn H.1 n) 6 then s_take H H.2.2.1 (s_rn H.1 n) 6 else s_mld H v n
theorem s_mld_le {H : s_H} (hok : s_ok H) (v : Nat) : ∀ n, s_mld H v n ≤ 1000
  | 0 => Nat.zero_le _
  | n + 1 => by
    have ih := s_mld_le hok v n
    have h1 := s_take_le hok (lw := H.2.2.1) (r := s_rn H.1 n) 6 (fun _ _ _ h => s_rn_lt h)
    simp only [s_mld]
    split <;> omega
def opn_mild (v : Int32) (a : s_A) : s_O := (if s_rng v 0 30 = true then (if a.1.1 = 0 then -3 else nI (s_mld a.1 (ix v) ((a.1.1 + 1) ^ 6))) else -2, a)
set_option maxHeartbeats 4000000 in
theorem l_X7_mild64 {Γ : pv_G} {d v cur n tk : Nat} {ok : Bool} {M : pv_M} {Q : pv_Q} {x4 : Value} (hb : cur ≤ 1000 ∧ tk ≤ 1000) (h22 : ok = true → M 29 22 = nI tk) (hk : ∀ x4 : Int32, PW Γ (d + 3) vX7_mild 29 [.ref 29, .int (nI v), .int (nI (if ok = true ∧ cur < tk then tk else cur)), .int (nI (n + 1)), .int x4] [] M Q) :
    PW Γ (d + 3) vX7_mild 62 [.ref 29, .int (nI v), .int (nI cur), .int (nI n), x4] [.int (bi ok)] M Q := by
  refine PW_istore4 (pc' := 64) dX7_mild_62 rfl rfl rfl ?_
  refine PW_iload4 (pc' := 66) dX7_mild_64 rfl ?_
  refine PW_if_eq (tgt := 84) (pc' := 69) dX7_mild_66 rfl rfl (fun h66 => ?_) (fun h66 => ?_)
  · have q6 := bi_f h66
    have e : (if ok = true ∧ cur < tk then tk else cur) = cur := if_neg (fun z => by rw [q6] at z; cases z.1)
    refine PW_iload2 (pc' := 85) dX7_mild_84 rfl ?_
    refine PW_istore2 (pc' := 86) dX7_mild_85 rfl rfl rfl ?_
    refine PW_iinc3 (pc' := 89) dX7_mild_86 rfl rfl rfl nI_inc ?_
    refine PW_goto (tgt := 29) dX7_mild_89 rfl ?_
    have hgo := hk (bi ok)
    rw [e] at hgo
    exact hgo
  · have q6 := bi_t h66
    refine PW_aload0 (pc' := 70) dX7_mild_69 rfl ?_
    refine PW_getI (pc' := 73) dX7_mild_70 rfl fX7_163 rfl rfl ?_
    refine PW_iload2 (pc' := 74) dX7_mild_73 rfl ?_
    rw [h22 q6]
    refine PW_icmp_le (tgt := 84) (pc' := 77) dX7_mild_74 rfl rfl (fun h74 => ?_) (fun h74 => ?_)
    · rw [nI_leI (by omega) (by omega)] at h74
      have e : (if ok = true ∧ cur < tk then tk else cur) = cur := if_neg (fun z => by omega)
      refine PW_iload2 (pc' := 85) dX7_mild_84 rfl ?_
      refine PW_istore2 (pc' := 86) dX7_mild_85 rfl rfl rfl ?_
      refine PW_iinc3 (pc' := 89) dX7_mild_86 rfl rfl rfl nI_inc ?_
      refine PW_goto (tgt := 29) dX7_mild_89 rfl ?_
      have hgo := hk (bi ok)
      rw [e] at hgo
      exact hgo
    · rw [nI_leI (by omega) (by omega)] at h74
      have e : (if ok = true ∧ cur < tk then tk else cur) = tk := if_pos ⟨q6, by omega⟩
      refine PW_aload0 (pc' := 78) dX7_mild_77 rfl ?_
      refine PW_getI (pc' := 81) dX7_mild_78 rfl fX7_163 rfl rfl ?_
      rw [h22 q6]
      refine PW_goto (tgt := 85) dX7_mild_81 rfl ?_
      refine PW_istore2 (pc' := 86) dX7_mild_85 rfl rfl rfl ?_
      refine PW_iinc3 (pc' := 89) dX7_mild_86 rfl rfl rfl nI_inc ?_
      refine PW_goto (tgt := 29) dX7_mild_89 rfl ?_
      have hgo := hk (bi ok)
      rw [e] at hgo
      exact hgo
set_option maxHeartbeats 4000000 in
theorem l_X7_mild {Γ : pv_G} {d v : Nat} {a : s_A} {M0 : pv_M} (hA : AM M0 a) (hv : v ≤ 30) (q : s_rng (nI v) 0 30 = true) (hp : ¬ a.1.1 = 0) : ∀ (m n : Nat) (M : pv_M) (x4 : Value), n + m = (a.1.1 + 1) ^ 6 → frS M0 M →
    PW Γ (d + 3) vX7_mild 29 [.ref 29, .int (nI v), .int (nI (s_mld a.1 v n)), .int (nI n), x4] [] M (o_M (opn_mild (nI v) a) M0) := by
  have hok : s_ok a.1 := hA.1.1
  have hn5 := hok.1
  have hb := pow_le6 hn5 (show 6 ≤ 6 by decide)
  intro m
  induction m using Nat.strongRecOn with
  | ind m ih =>
    intro n M x4 hnm hF
    have hAM : AM M a := hA.scr hF
    have hc1 := hAM.1.2.1
    have hml := s_mld_le hok v n
    have htk := s_take_le hok (lw := a.1.2.2.1) (r := s_rn a.1.1 n) 6 (fun _ _ _ h => s_rn_lt h)
    have hms := s_miss_le (H := a.1) (r := s_rn a.1.1 n) 6
    refine PW_iload3 (pc' := 30) dX7_mild_29 rfl ?_
    refine PW_aload0 (pc' := 31) dX7_mild_30 rfl ?_
    refine PW_callV0f (pc' := 34) dX7_mild_31 rfl oX7_rows lX7_196 rfl rfl rfl (Nat.le_of_ble_eq_true rfl) (c_X7_rows hn5 hc1) ?_
    refine PW_icmp_ge (tgt := 92) (pc' := 37) dX7_mild_34 rfl rfl (fun h34 => ?_) (fun h34 => ?_)
    · have hnn : n = (a.1.1 + 1) ^ 6 := by have := s_bge (by omega) (by omega) h34; omega
      subst hnn
      refine PW_iload2 (pc' := 93) dX7_mild_92 rfl ?_
      refine PW_ireturn .int dX7_mild_93 rfl rfl ?_
      refine ⟨?_, hA.scr hF, hF.frM⟩
      simp only [opn_mild]
      rw [if_pos q, if_neg hp, ix_nI (by omega)]
    · have hn : n < (a.1.1 + 1) ^ 6 := s_bnd (by omega) (by omega) h34
      refine PW_aload0 (pc' := 38) dX7_mild_37 rfl ?_
      refine PW_iload3 (pc' := 39) dX7_mild_38 rfl ?_
      refine PW_callV1w (pc' := 42) dX7_mild_39 rfl oX7_layRow lX7_199 rfl rfl rfl (Nat.le_of_ble_eq_true rfl) (c_X7_layRow hn5 hn hc1) (fun M1 hM1 => ?_)
      have hF1 : frS M M1 := ⟨fun q hq => hM1.1 q (fun z => hq (by rw [z]; decide)), fun q hq => by rw [hM1.1 29 (by decide)]⟩
      have hA1 : AM M1 a := hAM.scr hF1
      refine PW_aload0 (pc' := 43) dX7_mild_42 rfl ?_
      refine PW_callV0r (pc' := 46) dX7_mild_43 rfl oX7_goRound lX7_188 rfl rfl rfl (Nat.le_of_ble_eq_true rfl) (c_X7_goRound (H := a.1) (nv := none) hA1.1 hM1.2 hA1.2.2.2.2.2 (fun t ht => by cases ht)) (fun M2 hM2 => ?_)
      obtain ⟨g1, g2, g3, g4⟩ := go_of (H := a.1) hok hM1.2 hM2
      rw [s_wrn_none]
      have hF2 : frS M0 M2 := (hF.tr hF1).tr g1
      refine PW_if_eq (tgt := 61) (pc' := 49) dX7_mild_46 rfl rfl (fun h46 => ?_) (fun h46 => ?_)
      · have q1 := s_oN_T h46
        have e : (decide (s_wrong a.1 (s_rn a.1.1 n) 6 = none) && decide (s_miss a.1 (s_rn a.1.1 n) 6 ≤ v)) = false := by
          rw [decide_eq_false (fun z => by rw [z] at q1; cases q1), Bool.false_and]
        refine PW_iconst (pc' := 62) dX7_mild_61 rfl (v := bi false) (by first | rfl | decide) ?_
        have hgo := fun x4 : Int32 => ih (m - 1) (by omega) (n + 1) M2 (.int x4) (by omega) hF2
        simp only [s_mld] at hgo
        rw [e] at hgo
        first
          | exact l_X7_mild64 (ok := false) (tk := s_take a.1 a.1.2.2.1 (s_rn a.1.1 n) 6) ⟨hml, by omega⟩ (fun z => by cases z) hgo
          | exact l_X7_mild64 (ok := true) (tk := s_take a.1 a.1.2.2.1 (s_rn a.1.1 n) 6) ⟨hml, by omega⟩ (fun _ => (g4 q1).1) hgo
      · have q1 := s_oN_F h46
        refine PW_aload0 (pc' := 50) dX7_mild_49 rfl ?_
        refine PW_getI (pc' := 53) dX7_mild_50 rfl fX7_166 rfl rfl ?_
        refine PW_iload1 (pc' := 54) dX7_mild_53 rfl ?_
        rw [(g4 q1).2.1]
        refine PW_icmp_gt (tgt := 61) (pc' := 57) dX7_mild_54 rfl rfl (fun h54 => ?_) (fun h54 => ?_)
        · have h54 := (nI_ltI (by omega) (by omega)).mp h54
          have e : (decide (s_wrong a.1 (s_rn a.1.1 n) 6 = none) && decide (s_miss a.1 (s_rn a.1.1 n) 6 ≤ v)) = false := by
            rw [decide_eq_false (show ¬ s_miss a.1 (s_rn a.1.1 n) 6 ≤ v by omega), Bool.and_false]
          refine PW_iconst (pc' := 62) dX7_mild_61 rfl (v := bi false) (by first | rfl | decide) ?_
          have hgo := fun x4 : Int32 => ih (m - 1) (by omega) (n + 1) M2 (.int x4) (by omega) hF2
          simp only [s_mld] at hgo
          rw [e] at hgo
          first
            | exact l_X7_mild64 (ok := false) (tk := s_take a.1 a.1.2.2.1 (s_rn a.1.1 n) 6) ⟨hml, by omega⟩ (fun z => by cases z) hgo
            | exact l_X7_mild64 (ok := true) (tk := s_take a.1 a.1.2.2.1 (s_rn a.1.1 n) 6) ⟨hml, by omega⟩ (fun _ => (g4 q1).1) hgo
        · have h54 : ¬ v < s_miss a.1 (s_rn a.1.1 n) 6 := fun z => h54 ((nI_ltI (by omega) (by omega)).mpr z)
          have e : (decide (s_wrong a.1 (s_rn a.1.1 n) 6 = none) && decide (s_miss a.1 (s_rn a.1.1 n) 6 ≤ v)) = true := by
            rw [decide_eq_true q1, decide_eq_true (show s_miss a.1 (s_rn a.1.1 n) 6 ≤ v by omega)]
            rfl
          refine PW_iconst (pc' := 58) dX7_mild_57 rfl (v := bi true) (by first | rfl | decide) ?_
          refine PW_goto (tgt := 62) dX7_mild_58 rfl ?_
          have hgo := fun x4 : Int32 => ih (m - 1) (by omega) (n + 1) M2 (.int x4) (by omega) hF2
          simp only [s_mld] at hgo
          rw [e] at hgo
          first
            | exact l_X7_mild64 (ok := false) (tk := s_take a.1 a.1.2.2.1 (s_rn a.1.1 n) 6) ⟨hml, by omega⟩ (fun z => by cases z) hgo
            | exact l_X7_mild64 (ok := true) (tk := s_take a.1 a.1.2.2.1 (s_rn a.1.1 n) 6) ⟨hml, by omega⟩ (fun _ => (g4 q1).1) hgo
set_option maxHeartbeats 4000000 in
theorem c_X7_mild {Γ : pv_G} {d : Nat} {M : pv_M} {a : s_A} {v : Int32} (hA : AM M a) : Ct Γ (d + 3) vX7_mild [.ref 29, .int v] M (o_M (opn_mild v a) M) := by
  obtain ⟨hH, hR, hSh, hfl, htr, hnv⟩ := id hA
  obtain ⟨hok, hc1, hc2, hc3, hf⟩ := id hH
  have hn5 := hok.1
  have hf0 := fun t ht => hf t ht 0 (by decide)
  have hf2 := fun t ht => hf t ht 2 (by decide)
  have hf4 := fun t ht => hf t ht 4 (by decide)
  refine Ct.of oX7_mild.1 rfl (pad := 3) rfl ?_
  show PW Γ (d + 3) vX7_mild 0 [.ref 29, .int v, .null, .null, .null] [] M _
  refine PW_iload1 (pc' := 1) dX7_mild_0 rfl ?_
  refine PW_i2l (pc' := 2) dX7_mild_1 rfl ?_
  refine PW_lconst (pc' := 3) dX7_mild_2 rfl (v := 0) (by first | rfl | decide) ?_
  refine PW_ldc2 (pc' := 6) dX7_mild_3 rfl qX7_213 ?_
  refine PW_callS3f (pc' := 9) dX7_mild_6 rfl oX7_in lX7_87 (Nat.le_of_ble_eq_true rfl) (c_X7_inr (a := 0) (b := 30) rfl rfl) ?_
  refine PW_if_ne (tgt := 15) (pc' := 12) dX7_mild_9 rfl rfl (fun h9 => ?_) (fun h9 => ?_)
  · have q := bi_t h9
    refine PW_aload0 (pc' := 16) dX7_mild_15 rfl ?_
    refine PW_getI (pc' := 19) dX7_mild_16 rfl fX7_84 rfl rfl ?_
    rw [hc1]
    refine PW_if_ne (tgt := 25) (pc' := 22) dX7_mild_19 rfl rfl (fun h19 => ?_) (fun h19 => ?_)
    · have hp : ¬ a.1.1 = 0 := fun z => h19 (by rw [z]; rfl)
      refine PW_iconst (pc' := 26) dX7_mild_25 rfl (v := nI 0) (by first | rfl | decide) ?_
      refine PW_istore2 (pc' := 27) dX7_mild_26 rfl rfl rfl ?_
      refine PW_iconst (pc' := 28) dX7_mild_27 rfl (v := nI 0) (by first | rfl | decide) ?_
      refine PW_istore3 (pc' := 29) dX7_mild_28 rfl rfl rfl ?_
      obtain ⟨y, hy, rfl⟩ := s_rng_of (n := 30) q
      exact l_X7_mild hA hy q hp _ 0 M _ (Nat.zero_add _) frS.rf
    · have hp : a.1.1 = 0 := nI_inj (by omega) (by decide) h19
      refine PW_bipush (pc' := 24) dX7_mild_22 rfl (v := -3) (by first | rfl | decide) ?_
      refine PW_ireturn .int dX7_mild_24 rfl rfl ?_
      exact ⟨by simp [opn_mild, q, hp], hA, frM.rf⟩
  · have q := bi_f h9
    refine PW_bipush (pc' := 14) dX7_mild_12 rfl (v := -2) (by first | rfl | decide) ?_
    refine PW_ireturn .int dX7_mild_14 rfl rfl ?_
    exact ⟨by simp [opn_mild, q], hA, frM.rf⟩
