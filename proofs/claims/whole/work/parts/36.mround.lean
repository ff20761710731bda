/-! the reference: a round that is told -/
theorem go_of {H : s_H} {r : Nat → Option Nat} {M M' : pv_M} (hok : s_ok H) (hrow : s_row M 40 6 H.1 r) (h : gp_post H none r M M') : frS M M' ∧ M' 40 = M 40 ∧ M' 29 21 = s_oI (s_wrong H r 6) ∧ (s_wrong H r 6 = none → M' 29 22 = nI (s_take H H.2.2.1 r 6) ∧ M' 29 23 = nI (s_miss H r 6) ∧ ∀ x, x < 6 → M' 41 x = nI (s_cs H r x (x + 1))) := by
  obtain ⟨h1, h2, h3, h4, h5⟩ := h
  rw [s_wrn_none] at h4 h5
  refine ⟨h1, h2, h4, fun z => ?_⟩
  obtain ⟨g1, g2, g3⟩ := h5 z
  refine ⟨g1, ?_, g3⟩
  rw [g2, s_miss_mm (nv := none) hok (by rw [s_wrn_none]; exact z) (fun x hx => (hrow x hx).2)]
theorem a_bar_nn {a : s_A} {u : Nat} {l i : Int32} (h : 0 ≤ (a_bar u l i a).1) : a_bar u l i a = (0, 0) := by
  have hle := s_foc_le (a.2.2.1 u) l i 6
  unfold a_bar at h ⊢
  by_cases h1 : s_foc (a.2.2.1 u) l i 6 = 0
  · rw [if_pos h1] at h ⊢
    by_cases h2 : s_good a u (ix i) = true
    · rw [if_pos h2]
    · rw [if_neg h2] at h
      exact absurd h (by decide)
  · rw [if_neg h1] at h
    have := (v_bar_neg _ hle h1).1
    rw [v_bar, if_neg h1] at this
    exact absurd h this
theorem a_hear_bar {a : s_A} {u : Nat} {l i : Int32} {ok : Bool} (hu : u ≤ 3) (h1 : s_rng l 0 2 = true) (h2 : ok = true) (h3 : ¬ a.1.1 = 0) : a_hear (nI u) l i ok a = a_bar u l i a := by
  have e : s_rng (nI u) 0 3 = true := by
    simp only [s_rng, Bool.and_eq_true, decide_eq_true_eq, nI_toInt (show u < 2 ^ 31 by omega)]
    omega
  simp only [a_hear, a_bar]
  rw [if_pos e, if_pos ⟨h1, h2⟩, if_neg h3, ix_nI (by omega)]
def v_sb (k l i v : Int32) (a : s_A) : Int32 := if (a_hear k l i (s_rng v 0 999) a).1 = 0 then (if (s_wrong a.1 (s_rw a (ix k) (ix i)) 6).isSome = true then s_wans (s_wrong a.1 (s_rw a (ix k) (ix i)) 6) else 0) else (a_hear k l i (s_rng v 0 999) a).1
def a_sbd (k l i v : Int32) (a : s_A) (M : pv_M) : pv_M → Prop := fun M' => AM M' (a_flt a (a_hear k l i (s_rng v 0 999) a).2) ∧ frM M M' ∧ ((a_hear k l i (s_rng v 0 999) a).1 = 0 → s_row M' 40 6 a.1.1 (s_rw a (ix k) (ix i)))
theorem sb_bad {k l i v x f : Int32} {a : s_A} {M M' : pv_M} (ho : a_hear k l i (s_rng v 0 999) a = (x, f)) (hx : ¬ x = 0) (h1 : AM M' (a_flt a f)) (h2 : frM M M') : some (Value.int x) = some (.int (v_sb k l i v a)) ∧ a_sbd k l i v a M M' := by
  unfold v_sb a_sbd
  rw [ho]
  exact ⟨by rw [if_neg hx], h1, h2, fun z => absurd z hx⟩
theorem sb_wr {k l i v x : Int32} {a : s_A} {M M' : pv_M} (ho : a_hear k l i (s_rng v 0 999) a = (0, 0)) (hx : x = if (s_wrong a.1 (s_rw a (ix k) (ix i)) 6).isSome = true then s_wans (s_wrong a.1 (s_rw a (ix k) (ix i)) 6) else 0) (h1 : AM M' (a_flt a 0)) (h2 : frM M M') (h3 : s_row M' 40 6 a.1.1 (s_rw a (ix k) (ix i))) : some (Value.int x) = some (.int (v_sb k l i v a)) ∧ a_sbd k l i v a M M' := by
  unfold v_sb a_sbd
  rw [ho]
  exact ⟨by rw [if_pos rfl, hx], h1, h2, fun _ => h3⟩
theorem s_oN_F {o : Option Nat} (h : ¬ bi o.isNone = 0) : o = none := by
  cases o with
  | none => rfl
  | some x => exact absurd rfl h
theorem s_oN_T {o : Option Nat} (h : bi o.isNone = 0) : o.isSome = true := by
  cases o with
  | none => exact absurd h (by decide)
  | some x => rfl
set_option maxHeartbeats 4000000 in
theorem c_X7_leftNow {Γ : pv_G} {d : Nat} {M : pv_M}  : Ct Γ d vX7_leftNow [.ref 29] M (pv_fn (some (.int (M 29 22 - M 29 1 * M 29 23))) M) := by
  refine Ct.of oX7_leftNow.1 rfl (pad := 0) rfl ?_
  show PW Γ d vX7_leftNow 0 [.ref 29] [] M _
  refine PW_aload0 (pc' := 1) dX7_leftNow_0 rfl ?_
  refine PW_getI (pc' := 4) dX7_leftNow_1 rfl fX7_163 rfl rfl ?_
  refine PW_aload0 (pc' := 5) dX7_leftNow_4 rfl ?_
  refine PW_getI (pc' := 8) dX7_leftNow_5 rfl fX7_136 rfl rfl ?_
  refine PW_aload0 (pc' := 9) dX7_leftNow_8 rfl ?_
  refine PW_getI (pc' := 12) dX7_leftNow_9 rfl fX7_166 rfl rfl ?_
  refine PW_imul (pc' := 13) dX7_leftNow_12 rfl ?_
  refine PW_isub (pc' := 14) dX7_leftNow_13 rfl ?_
  refine PW_ireturn .int dX7_leftNow_14 rfl rfl ?_
  exact ⟨rfl, rfl⟩
set_option maxHeartbeats 4000000 in
theorem c_X7_seenBarred {Γ : pv_G} {d : Nat} {M : pv_M} {a : s_A} {k l i v : Int32} (hA : AM M a) : Ct Γ (d + 3) vX7_seenBarred [.ref 29, .int k, .int l, .int i, .int v] M (fun r M' => r = some (.int (v_sb k l i v a)) ∧ a_sbd k l i v a M M') := by
  obtain ⟨hH, hR, hSh, hfl, htr, hnv⟩ := id hA
  obtain ⟨hok, hc1, hc2, hc3, hf⟩ := id hH
  have hn5 := hok.1
  have hf0 := fun t ht => hf t ht 0 (by decide)
  have hf2 := fun t ht => hf t ht 2 (by decide)
  have hf4 := fun t ht => hf t ht 4 (by decide)
  refine Ct.of oX7_seenBarred.1 rfl (pad := 1) rfl ?_
  show PW Γ (d + 3) vX7_seenBarred 0 [.ref 29, .int k, .int l, .int i, .int v, .null] [] M _
  refine PW_iload1 (pc' := 1) dX7_seenBarred_0 rfl ?_
  refine PW_callS1f (pc' := 4) dX7_seenBarred_1 rfl oX7_noSheet lX7_120 (Nat.le_of_ble_eq_true rfl) (c_X7_noSheet) ?_
  refine PW_if_eq (tgt := 13) (pc' := 7) dX7_seenBarred_4 rfl rfl (fun h4 => ?_) (fun h4 => ?_)
  · have q := bn_f h4
    obtain ⟨u, hu, rfl⟩ := s_rng_of (n := 3) q
    have hu2 : u < 2 ^ 31 := by omega
    refine PW_iload2 (pc' := 14) dX7_seenBarred_13 rfl ?_
    refine PW_i2l (pc' := 15) dX7_seenBarred_14 rfl ?_
    refine PW_lconst (pc' := 16) dX7_seenBarred_15 rfl (v := 0) (by first | rfl | decide) ?_
    refine PW_ldc2 (pc' := 19) dX7_seenBarred_16 rfl qX7_127 ?_
    refine PW_callS3f (pc' := 22) dX7_seenBarred_19 rfl oX7_in lX7_87 (Nat.le_of_ble_eq_true rfl) (c_X7_inr (a := 0) (b := 2) rfl rfl) ?_
    refine PW_if_eq (tgt := 38) (pc' := 25) dX7_seenBarred_22 rfl rfl (fun h22 => ?_) (fun h22 => ?_)
    · have q2 := bi_f h22
      refine PW_aload0 (pc' := 39) dX7_seenBarred_38 rfl ?_
      refine PW_bipush (pc' := 41) dX7_seenBarred_39 rfl (v := -2) (by first | rfl | decide) ?_
      refine PW_callV1f (pc' := 44) dX7_seenBarred_41 rfl oX7_refused lX7_124 rfl rfl rfl (Nat.le_of_ble_eq_true rfl) (c_X7_refused) ?_
      refine PW_ireturn .int dX7_seenBarred_44 rfl rfl ?_
      exact sb_bad (x := -2) (f := 0) (by first | (simp [a_hear, q, q2]; done) | (simp [a_hear, q, q2, q3]; done)) (by decide) (hA.fault 0) (frM.rf.up (by decide))
    · have q2 := bi_t h22
      refine PW_iload4 (pc' := 27) dX7_seenBarred_25 rfl ?_
      refine PW_i2l (pc' := 28) dX7_seenBarred_27 rfl ?_
      refine PW_lconst (pc' := 29) dX7_seenBarred_28 rfl (v := 0) (by first | rfl | decide) ?_
      refine PW_ldc2 (pc' := 32) dX7_seenBarred_29 rfl qX7_221 ?_
      refine PW_callS3f (pc' := 35) dX7_seenBarred_32 rfl oX7_in lX7_87 (Nat.le_of_ble_eq_true rfl) (c_X7_inr (a := 0) (b := 999) rfl rfl) ?_
      refine PW_if_ne (tgt := 45) (pc' := 38) dX7_seenBarred_35 rfl rfl (fun h35 => ?_) (fun h35 => ?_)
      · have q3 := bi_t h35
        refine PW_aload0 (pc' := 46) dX7_seenBarred_45 rfl ?_
        refine PW_getI (pc' := 49) dX7_seenBarred_46 rfl fX7_84 rfl rfl ?_
        rw [hc1]
        refine PW_if_ne (tgt := 59) (pc' := 52) dX7_seenBarred_49 rfl rfl (fun h49 => ?_) (fun h49 => ?_)
        · have hp : ¬ a.1.1 = 0 := fun z => h49 (by rw [z]; rfl)
          have ho := a_hear_bar (i := i) (by omega) q2 q3 hp
          refine PW_aload0 (pc' := 60) dX7_seenBarred_59 rfl ?_
          refine PW_iload1 (pc' := 61) dX7_seenBarred_60 rfl ?_
          refine PW_iload2 (pc' := 62) dX7_seenBarred_61 rfl ?_
          refine PW_iload3 (pc' := 63) dX7_seenBarred_62 rfl ?_
          refine PW_callV3r (pc' := 66) dX7_seenBarred_63 rfl oX7_roundBarred lX7_184 rfl rfl rfl (Nat.le_of_ble_eq_true rfl) (c_X7_roundBarred (show u < 4 by omega) hA) (fun M1 hM1 => ?_)
          obtain ⟨hA1, hF1, hrw⟩ := hM1
          refine PW_istore5 (pc' := 68) dX7_seenBarred_66 rfl rfl rfl ?_
          refine PW_iload5 (pc' := 70) dX7_seenBarred_68 rfl ?_
          refine PW_if_ge (tgt := 76) (pc' := 73) dX7_seenBarred_70 rfl rfl (fun h70 => ?_) (fun h70 => ?_)
          · have hz := a_bar_nn h70
            rw [hz] at ho hA1
            have hz1 : (a_bar u l i a).1 = 0 := by rw [hz]
            have hu3 : ix (nI u) = u := ix_nI hu2
            refine PW_aload0 (pc' := 77) dX7_seenBarred_76 rfl ?_
            refine PW_callV0r (pc' := 80) dX7_seenBarred_77 rfl oX7_goRound lX7_188 rfl rfl rfl (Nat.le_of_ble_eq_true rfl) (c_X7_goRound (H := a.1) (nv := none) hA1.1 (hrw hz1) hA1.2.2.2.2.2 (fun t ht => by cases ht)) (fun M2 hM2 => ?_)
            obtain ⟨g1, g2, g3, g4⟩ := go_of (H := a.1) hA1.1.1 (hrw hz1) hM2
            rw [s_wrn_none]
            refine PW_if_eq (tgt := 87) (pc' := 83) dX7_seenBarred_80 rfl rfl (fun h80 => ?_) (fun h80 => ?_)
            · have q5 := s_oN_T h80
              refine PW_bipush (pc' := 89) dX7_seenBarred_87 rfl (v := -100) (by first | rfl | decide) ?_
              refine PW_aload0 (pc' := 90) dX7_seenBarred_89 rfl ?_
              refine PW_getI (pc' := 93) dX7_seenBarred_90 rfl fX7_160 rfl rfl ?_
              rw [g3]
              refine PW_isub (pc' := 94) dX7_seenBarred_93 rfl ?_
              refine PW_ireturn .int dX7_seenBarred_94 rfl rfl ?_
              refine sb_wr ho ?_ (hA1.scr g1) (hF1.tr g1.frM) ?_
              · rw [hu3]
                first
                | rw [if_pos q5]; rfl
                | rw [q5]; rfl
              · rw [hu3]
                intro x hx
                rw [g2]
                exact hrw hz1 x hx
            · have q5 := s_oN_F h80
              refine PW_iconst (pc' := 84) dX7_seenBarred_83 rfl (v := 0) (by first | rfl | decide) ?_
              refine PW_goto (tgt := 94) dX7_seenBarred_84 rfl ?_
              refine PW_ireturn .int dX7_seenBarred_94 rfl rfl ?_
              refine sb_wr ho ?_ (hA1.scr g1) (hF1.tr g1.frM) ?_
              · rw [hu3]
                first
                | rw [if_pos q5]; rfl
                | rw [q5]; rfl
              · rw [hu3]
                intro x hx
                rw [g2]
                exact hrw hz1 x hx
          · refine PW_iload5 (pc' := 75) dX7_seenBarred_73 rfl ?_
            refine PW_ireturn .int dX7_seenBarred_75 rfl rfl ?_
            exact sb_bad ho (fun z => h70 (by rw [z]; decide)) hA1 hF1
        · have hp : a.1.1 = 0 := nI_inj (by omega) (by decide) h49
          refine PW_aload0 (pc' := 53) dX7_seenBarred_52 rfl ?_
          refine PW_bipush (pc' := 55) dX7_seenBarred_53 rfl (v := -3) (by first | rfl | decide) ?_
          refine PW_callV1f (pc' := 58) dX7_seenBarred_55 rfl oX7_refused lX7_124 rfl rfl rfl (Nat.le_of_ble_eq_true rfl) (c_X7_refused) ?_
          refine PW_ireturn .int dX7_seenBarred_58 rfl rfl ?_
          exact sb_bad (x := -3) (f := 0) (by simp [a_hear, q, q2, q3, hp]) (by decide) (hA.fault 0) (frM.rf.up (by decide))
      · have q3 := bi_f h35
        refine PW_aload0 (pc' := 39) dX7_seenBarred_38 rfl ?_
        refine PW_bipush (pc' := 41) dX7_seenBarred_39 rfl (v := -2) (by first | rfl | decide) ?_
        refine PW_callV1f (pc' := 44) dX7_seenBarred_41 rfl oX7_refused lX7_124 rfl rfl rfl (Nat.le_of_ble_eq_true rfl) (c_X7_refused) ?_
        refine PW_ireturn .int dX7_seenBarred_44 rfl rfl ?_
        exact sb_bad (x := -2) (f := 0) (by first | (simp [a_hear, q, q2]; done) | (simp [a_hear, q, q2, q3]; done)) (by decide) (hA.fault 0) (frM.rf.up (by decide))
  · have q := bn_t h4
    refine PW_aload0 (pc' := 8) dX7_seenBarred_7 rfl ?_
    refine PW_iconst (pc' := 9) dX7_seenBarred_8 rfl (v := -1) (by first | rfl | decide) ?_
    refine PW_callV1f (pc' := 12) dX7_seenBarred_9 rfl oX7_refused lX7_124 rfl rfl rfl (Nat.le_of_ble_eq_true rfl) (c_X7_refused) ?_
    refine PW_ireturn .int dX7_seenBarred_12 rfl rfl ?_
    exact sb_bad (by simp [a_hear, q]) (by decide) (hA.fault 0) (frM.rf.up (by decide))
