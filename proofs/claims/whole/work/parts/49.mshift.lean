/-! the reference: shift -/
theorem s_tkn_le (H : s_H) (j : Nat) : s_tkn H j ≤ 6 := s_tk_le _ _ _
def s_shn (H : s_H) (j : Nat) : Nat → Nat × Option Nat
  | 0 => (s_tkn H j, none)
  | k + 1 => if (H.2.2.2 4 j).testBit k = true then (if s_tkn (s_use H j (s_clr (H.2.2.2 4 j) k)) j < (s_shn H j k).1 then (s_tkn (s_use H j (s_clr (H.2.2.2 4 j) k)) j, some k) else s_shn H j k) else s_shn H j k
theorem s_shn_le (H : s_H) (j : Nat) : ∀ k, (s_shn H j k).1 ≤ 6
  | 0 => s_tkn_le H j
  | k + 1 => by
    have ih := s_shn_le H j k
    have t := s_tkn_le (s_use H j (s_clr (H.2.2.2 4 j) k)) j
    simp only [s_shn]
    split
    · split
      · exact t
      · exact ih
    · exact ih
def opn_shift (t : Int32) (a : s_A) : s_O := (if s_hb a t = true then s_oI (s_shn a.1 (ix t) 6).2 else -1, a)
set_option maxHeartbeats 4000000 in
theorem l_X7_shift {Γ : pv_G} {d j : Nat} {a : s_A} {M0 M1 : pv_M} (hA : AM M1 a) (hF0 : frM M0 M1) (hj : j < a.1.1) (qh : s_hb a (nI j) = true) : ∀ (m k : Nat) (M : pv_M) (x6 : Value), k + m = 6 → frS (pv_up M1 34 j (M 34 j)) M →
    PW Γ (d + 5) vX7_shift 30 [.ref 29, .int (nI j), .int (nI (a.1.2.2.2 4 j)), .int (nI (s_shn a.1 j k).1), .int (s_oI (s_shn a.1 j k).2), .int (nI k), x6] [] M (o_M (opn_shift (nI j) a) M0) := by
  have hok := hA.1.1
  have hn5 := hok.1
  have hu : a.1.2.2.2 4 j < 64 := (hok.2.2.2 j hj).2.2.2.2
  have h34 : M1 34 j = nI (a.1.2.2.2 4 j) := hA.1.2.2.2.2 j hj 4 (by decide)
  intro m
  induction m using Nat.strongRecOn with
  | ind m ih =>
    intro k M x6 hkm hF
    have hsl := s_shn_le a.1 j k
    refine PW_iload5 (pc' := 32) dX7_shift_30 rfl ?_
    refine PW_bipush (pc' := 34) dX7_shift_32 rfl (v := nI 6) (by first | rfl | decide) ?_
    refine PW_icmp_ge (tgt := 101) (pc' := 37) dX7_shift_34 rfl rfl (fun h34' => ?_) (fun h34' => ?_)
    · have hk : k = 6 := by have := s_bge (by omega) (by omega) h34'; omega
      subst hk
      refine PW_aload0 (pc' := 102) dX7_shift_101 rfl ?_
      refine PW_getR (pc' := 105) dX7_shift_102 rfl fX7_22 rfl rfl ?_
      refine PW_iload1 (pc' := 106) dX7_shift_105 rfl ?_
      refine PW_iload2 (pc' := 107) dX7_shift_106 rfl ?_
      refine PW_iastn (pc' := 108) dX7_shift_107 rfl rfl rfl (show j < 5 by omega) ?_
      refine PW_iload4 (pc' := 110) dX7_shift_108 rfl ?_
      refine PW_ireturn .int dX7_shift_110 rfl rfl ?_
      have hFb := frS_back hF
      rw [h34] at hFb
      refine ⟨?_, hA.scr hFb, hF0.tr hFb.frM⟩
      simp only [opn_shift]
      rw [if_pos qh, ix_nI (by omega)]
    · have hk : k < 6 := s_bnd (by omega) (by omega) h34'
      refine PW_iload2 (pc' := 38) dX7_shift_37 rfl ?_
      refine PW_iload5 (pc' := 40) dX7_shift_38 rfl ?_
      refine PW_callS2f (pc' := 43) dX7_shift_40 rfl oX7_isIn lX7_157 (Nat.le_of_ble_eq_true rfl) (c_X7_isIn hu (show k < 6 by omega)) ?_
      refine PW_if_eq (tgt := 95) (pc' := 46) dX7_shift_43 rfl rfl (fun h43 => ?_) (fun h43 => ?_)
      · have e : s_shn a.1 j (k + 1) = s_shn a.1 j k := by
          simp only [s_shn]
          rw [if_neg (by rw [bi_f h43]; decide)]
        have hgo := fun x6 : Value => ih (m - 1) (by omega) (k + 1) M x6 (by omega) hF
        have h70 : True := trivial
        have h85 : True := trivial
        refine PW_iinc5 (pc' := 98) dX7_shift_95 rfl rfl rfl nI_inc ?_
        refine PW_goto (tgt := 30) dX7_shift_98 rfl ?_
        first
          | exact absurd h70 h85
          | exact absurd h85 h70
          | (rw [e] at hgo; exact hgo _)
      · have q1 := bi_t h43
        have hcl := (bt_clr _ hu k hk).2
        have hFj : frS (pv_up M1 34 j (nI (s_clr (a.1.2.2.2 4 j) k))) (pv_up M 34 j (nI (s_clr (a.1.2.2.2 4 j) k))) := frS_set hF
        have hHj : HM (pv_up M 34 j (nI (s_clr (a.1.2.2.2 4 j) k))) (s_use a.1 j (s_clr (a.1.2.2.2 4 j) k)) := (HM.use hA.1 hj hcl).scr hFj
        have hnj : pv_up M 34 j (nI (s_clr (a.1.2.2.2 4 j) k)) 29 9 = -9 := by
          rw [hFj.2 9 (by decide), pv_up_o (by decide)]
          exact hA.2.2.2.2.2
        refine PW_aload0 (pc' := 47) dX7_shift_46 rfl ?_
        refine PW_getR (pc' := 50) dX7_shift_47 rfl fX7_22 rfl rfl ?_
        refine PW_iload1 (pc' := 51) dX7_shift_50 rfl ?_
        refine PW_iload2 (pc' := 52) dX7_shift_51 rfl ?_
        refine PW_iconst (pc' := 53) dX7_shift_52 rfl (v := 1) (by first | rfl | decide) ?_
        refine PW_iload5 (pc' := 55) dX7_shift_53 rfl ?_
        refine PW_ishl (pc' := 56) dX7_shift_55 rfl ?_
        refine PW_iconst (pc' := 57) dX7_shift_56 rfl (v := -1) (by first | rfl | decide) ?_
        refine PW_ixor (pc' := 58) dX7_shift_57 rfl ?_
        refine PW_iand (pc' := 59) dX7_shift_58 rfl ?_
        rw [(bt_clr _ hu k hk).1]
        refine PW_iastn (pc' := 60) dX7_shift_59 rfl rfl rfl (show j < 5 by omega) ?_
        refine PW_aload0 (pc' := 61) dX7_shift_60 rfl ?_
        refine PW_iload1 (pc' := 62) dX7_shift_61 rfl ?_
        refine PW_callV1r (pc' := 65) dX7_shift_62 rfl oX7_takesOf lX7_215 rfl rfl rfl (Nat.le_of_ble_eq_true rfl) (c_X7_takesOf (H := s_use a.1 j (s_clr (a.1.2.2.2 4 j) k)) hHj hj hnj) (fun M2 hM2 => ?_)
        have g1 := hM2
        have e2 : M2 34 j = nI (s_clr (a.1.2.2.2 4 j) k) := by rw [g1.1 34 (by decide), pv_up_at, if_pos ⟨rfl, rfl⟩]
        have htk := s_tkn_le (s_use a.1 j (s_clr (a.1.2.2.2 4 j) k)) j
        have hgo := fun x6 : Value => ih (m - 1) (by omega) (k + 1) M2 x6 (by omega) (by rw [e2]; exact hFj.tr g1)
        refine PW_istore6 (pc' := 67) dX7_shift_65 rfl rfl rfl ?_
        refine PW_iload6 (pc' := 69) dX7_shift_67 rfl ?_
        refine PW_iload3 (pc' := 70) dX7_shift_69 rfl ?_
        refine PW_icmp_ge (tgt := 78) (pc' := 73) dX7_shift_70 rfl rfl (fun h70 => ?_) (fun h70 => ?_)
        · have c70 := (nI_leI (by omega) (by omega)).mp h70
          have e : s_shn a.1 j (k + 1) = s_shn a.1 j k := by
            simp only [s_shn]
            rw [if_pos q1, if_neg (by omega)]
          refine PW_iload4 (pc' := 80) dX7_shift_78 rfl ?_
          refine PW_istore4 (pc' := 82) dX7_shift_80 rfl rfl rfl ?_
          refine PW_iload6 (pc' := 84) dX7_shift_82 rfl ?_
          refine PW_iload3 (pc' := 85) dX7_shift_84 rfl ?_
          refine PW_icmp_ge (tgt := 93) (pc' := 88) dX7_shift_85 rfl rfl (fun h85 => ?_) (fun h85 => ?_)
          · refine PW_iload3 (pc' := 94) dX7_shift_93 rfl ?_
            refine PW_istore3 (pc' := 95) dX7_shift_94 rfl rfl rfl ?_
            refine PW_iinc5 (pc' := 98) dX7_shift_95 rfl rfl rfl nI_inc ?_
            refine PW_goto (tgt := 30) dX7_shift_98 rfl ?_
            first
              | exact absurd h70 h85
              | exact absurd h85 h70
              | (rw [e] at hgo; exact hgo _)
          · refine PW_iload6 (pc' := 90) dX7_shift_88 rfl ?_
            refine PW_goto (tgt := 94) dX7_shift_90 rfl ?_
            refine PW_istore3 (pc' := 95) dX7_shift_94 rfl rfl rfl ?_
            refine PW_iinc5 (pc' := 98) dX7_shift_95 rfl rfl rfl nI_inc ?_
            refine PW_goto (tgt := 30) dX7_shift_98 rfl ?_
            first
              | exact absurd h70 h85
              | exact absurd h85 h70
              | (rw [e] at hgo; exact hgo _)
        · have c70 : ¬ (s_shn a.1 j k).1 ≤ s_tkn (s_use a.1 j (s_clr (a.1.2.2.2 4 j) k)) j := fun z => h70 ((nI_leI (by omega) (by omega)).mpr z)
          have e : s_shn a.1 j (k + 1) = (s_tkn (s_use a.1 j (s_clr (a.1.2.2.2 4 j) k)) j, some k) := by
            simp only [s_shn]
            rw [if_pos q1, if_pos (by omega)]
          refine PW_iload5 (pc' := 75) dX7_shift_73 rfl ?_
          refine PW_goto (tgt := 80) dX7_shift_75 rfl ?_
          refine PW_istore4 (pc' := 82) dX7_shift_80 rfl rfl rfl ?_
          refine PW_iload6 (pc' := 84) dX7_shift_82 rfl ?_
          refine PW_iload3 (pc' := 85) dX7_shift_84 rfl ?_
          refine PW_icmp_ge (tgt := 93) (pc' := 88) dX7_shift_85 rfl rfl (fun h85 => ?_) (fun h85 => ?_)
          · refine PW_iload3 (pc' := 94) dX7_shift_93 rfl ?_
            refine PW_istore3 (pc' := 95) dX7_shift_94 rfl rfl rfl ?_
            refine PW_iinc5 (pc' := 98) dX7_shift_95 rfl rfl rfl nI_inc ?_
            refine PW_goto (tgt := 30) dX7_shift_98 rfl ?_
            first
              | exact absurd h70 h85
              | exact absurd h85 h70
              | (rw [e] at hgo; exact hgo _)
          · refine PW_iload6 (pc' := 90) dX7_shift_88 rfl ?_
            refine PW_goto (tgt := 94) dX7_shift_90 rfl ?_
            refine PW_istore3 (pc' := 95) dX7_shift_94 rfl rfl rfl ?_
            refine PW_iinc5 (pc' := 98) dX7_shift_95 rfl rfl rfl nI_inc ?_
            refine PW_goto (tgt := 30) dX7_shift_98 rfl ?_
            first
              | exact absurd h70 h85
              | exact absurd h85 h70
              | (rw [e] at hgo; exact hgo _)
set_option maxHeartbeats 4000000 in
theorem c_X7_shift {Γ : pv_G} {d : Nat} {M : pv_M} {a : s_A} {t : Int32} (hA : AM M a) : Ct Γ (d + 5) vX7_shift [.ref 29, .int t] M (o_M (opn_shift t a) M) := by
  obtain ⟨hH, hR, hSh, hfl, htr, hnv⟩ := id hA
  obtain ⟨hok, hc1, hc2, hc3, hf⟩ := id hH
  have hn5 := hok.1
  have hf0 := fun t ht => hf t ht 0 (by decide)
  have hf2 := fun t ht => hf t ht 2 (by decide)
  have hf4 := fun t ht => hf t ht 4 (by decide)
  refine Ct.of oX7_shift.1 rfl (pad := 5) rfl ?_
  show PW Γ (d + 5) vX7_shift 0 [.ref 29, .int t, .null, .null, .null, .null, .null] [] M _
  refine PW_aload0 (pc' := 1) dX7_shift_0 rfl ?_
  refine PW_iload1 (pc' := 2) dX7_shift_1 rfl ?_
  refine PW_callV1f (pc' := 5) dX7_shift_2 rfl oX7_noThing lX7_145 rfl rfl rfl (Nat.le_of_ble_eq_true rfl) (c_X7_noThing hn5 hc1) ?_
  refine PW_if_eq (tgt := 10) (pc' := 8) dX7_shift_5 rfl rfl (fun h5 => ?_) (fun h5 => ?_)
  · have q := bn_f h5
    obtain ⟨j, hj, rfl⟩ := s_hb_of hn5 q
    have hj2 : j < 2 ^ 31 := by omega
    have qh : s_hb a (nI j) = true := q
    refine PW_aload0 (pc' := 11) dX7_shift_10 rfl ?_
    refine PW_getR (pc' := 14) dX7_shift_11 rfl fX7_22 rfl rfl ?_
    refine PW_iload1 (pc' := 15) dX7_shift_14 rfl ?_
    refine PW_ialdn (pc' := 16) dX7_shift_15 rfl rfl rfl (show j < 5 by omega) ?_
    rw [show M 34 j = nI (a.1.2.2.2 4 j) from hf4 j hj]
    refine PW_istore2 (pc' := 17) dX7_shift_16 rfl rfl rfl ?_
    refine PW_aload0 (pc' := 18) dX7_shift_17 rfl ?_
    refine PW_iload1 (pc' := 19) dX7_shift_18 rfl ?_
    refine PW_callV1r (pc' := 22) dX7_shift_19 rfl oX7_takesOf lX7_215 rfl rfl rfl (Nat.le_of_ble_eq_true rfl) (c_X7_takesOf hH hj hnv) (fun M1 hM1 => ?_)
    have hA1 : AM M1 a := hA.scr hM1
    refine PW_istore3 (pc' := 23) dX7_shift_22 rfl rfl rfl ?_
    refine PW_bipush (pc' := 25) dX7_shift_23 rfl (v := s_oI none) (by first | rfl | decide) ?_
    refine PW_istore4 (pc' := 27) dX7_shift_25 rfl rfl rfl ?_
    refine PW_iconst (pc' := 28) dX7_shift_27 rfl (v := nI 0) (by first | rfl | decide) ?_
    refine PW_istore5 (pc' := 30) dX7_shift_28 rfl rfl rfl ?_
    refine l_X7_shift hA1 hM1.frM hj qh 6 0 M1 _ (by omega) ?_
    exact ⟨fun q hq => by
      funext y
      rw [pv_up_at]
      split
      · rename_i z; rw [z.1, z.2]
      · rfl, fun q hq => by
      rw [pv_up_at]
      split
      · rename_i z; exact absurd z.1 (by decide)
      · rfl⟩
  · have q := bn_t h5
    refine PW_iconst (pc' := 9) dX7_shift_8 rfl (v := -1) (by first | rfl | decide) ?_
    refine PW_ireturn .int dX7_shift_9 rfl rfl ?_
    have qh : s_hb a t = false := q
    exact ⟨by simp [opn_shift, qh], hA, frM.rf⟩
