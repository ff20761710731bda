/-! the reference: sheets, cells, copies -/
set_option maxHeartbeats 4000000 in
theorem c_X7_cell {Γ : pv_G} {d : Nat} {M : pv_M} {a : s_A} {k i l : Int32} (hA : AM M a) : Ct Γ (d + 2) vX7_cell [.ref 29, .int k, .int i, .int l] M (o_ML (op_cell k i l a) M) := by
  obtain ⟨hH, hR, hSh, hfl, htr, hnv⟩ := id hA
  obtain ⟨hok, hc1, hc2, hc3, hf⟩ := id hH
  have hn5 := hok.1
  have hf0 := fun t ht => hf t ht 0 (by decide)
  have hf2 := fun t ht => hf t ht 2 (by decide)
  have hf4 := fun t ht => hf t ht 4 (by decide)
  refine Ct.of oX7_cell.1 rfl (pad := 0) rfl ?_
  show PW Γ (d + 2) vX7_cell 0 [.ref 29, .int k, .int i, .int l] [] M _
  refine PW_aload0 (pc' := 1) dX7_cell_0 rfl ?_
  refine PW_iconst (pc' := 2) dX7_cell_1 rfl (v := 0) (by first | rfl | decide) ?_
  refine PW_putI (pc' := 5) dX7_cell_2 rfl fX7_77 w6_0 rfl rfl ?_
  generalize hM1 : pv_up M 29 0 0 = M1
  have hA1 : AM M1 (a_flt a 0) := by rw [← hM1]; exact hA.fault 0
  have hF1 : frM M M1 := by rw [← hM1]; exact frM.rf.up (by decide)
  have hS1 : ∀ k, k < 4 → s_shM M1 k (a.2.2.1 k) (a.2.2.2.1 k) := hA1.2.2.1
  refine PW_iload1 (pc' := 6) dX7_cell_5 rfl ?_
  refine PW_callS1f (pc' := 9) dX7_cell_6 rfl oX7_noSheet lX7_120 (Nat.le_of_ble_eq_true rfl) (c_X7_noSheet) ?_
  refine PW_if_ne (tgt := 24) (pc' := 12) dX7_cell_9 rfl rfl (fun h9 => ?_) (fun h9 => ?_)
  · have q := bn_t h9
    have ho : op_cell k i l a = (v_lost, a_flt a 0) := by simp [op_cell, q]
    refine PW_callS0f (pc' := 27) dX7_cell_24 rfl oX7_lost lX7_80 (Nat.le_of_ble_eq_true rfl) (c_X7_lost) ?_
    refine PW_lreturn dX7_cell_27 rfl ?_
    exact ⟨by rw [ho], by rw [ho]; exact hA1, hF1⟩
  · have q := bn_f h9
    obtain ⟨u, hu, rfl⟩ := s_rng_of (n := 3) q
    have hu2 : u < 2 ^ 31 := by omega
    refine PW_iload3 (pc' := 13) dX7_cell_12 rfl ?_
    refine PW_i2l (pc' := 14) dX7_cell_13 rfl ?_
    refine PW_lconst (pc' := 15) dX7_cell_14 rfl (v := 0) (by first | rfl | decide) ?_
    refine PW_ldc2 (pc' := 18) dX7_cell_15 rfl qX7_127 ?_
    refine PW_callS3f (pc' := 21) dX7_cell_18 rfl oX7_in lX7_87 (Nat.le_of_ble_eq_true rfl) (c_X7_inr (a := 0) (b := 2) rfl rfl) ?_
    refine PW_if_ne (tgt := 28) (pc' := 24) dX7_cell_21 rfl rfl (fun h21 => ?_) (fun h21 => ?_)
    · have q2 := bi_t h21
      refine PW_aload0 (pc' := 29) dX7_cell_28 rfl ?_
      refine PW_getR (pc' := 32) dX7_cell_29 rfl fX7_59 rfl rfl ?_
      refine PW_iload1 (pc' := 33) dX7_cell_32 rfl ?_
      refine PW_ialdn (pc' := 34) dX7_cell_33 rfl rfl rfl (by omega) ?_
      refine PW_if_lt (tgt := 53) (pc' := 37) dX7_cell_34 rfl rfl (fun h34 => ?_) (fun h34 => ?_)
      · have g1 : (a.2.2.1 u).1 = false := (s_szM (hS1 u (by omega))).mp h34
        have q4 : s_foc (a.2.2.1 u) (nI (a.2.2.1 u).2.1) i 1 = s_foc (a.2.2.1 u) l i 1 := (if_pos g1).trans (if_pos g1).symm
        have hle := s_foc_le (a.2.2.1 u) l i 1
        refine PW_aload0 (pc' := 54) dX7_cell_53 rfl ?_
        refine PW_iload1 (pc' := 55) dX7_cell_54 rfl ?_
        refine PW_iload2 (pc' := 56) dX7_cell_55 rfl ?_
        refine PW_callV2f (pc' := 59) dX7_cell_56 rfl oX7_noCell lX7_233 rfl rfl rfl (Nat.le_of_ble_eq_true rfl) (c_X7_noCell (show u < 4 by omega) (hS1 u (by omega))) ?_
        refine PW_if_le (tgt := 75) (pc' := 62) dX7_cell_59 rfl rfl (fun h59 => ?_) (fun h59 => ?_)
        · rw [q4] at h59
          have q5 : s_foc (a.2.2.1 u) l i 1 = 0 := by
            rcases Nat.eq_zero_or_pos (s_foc (a.2.2.1 u) l i 1) with z | z
            · exact z
            · exact absurd h59 (nI_nle z (by omega))
          obtain ⟨g2, g3, g4⟩ := s_foc_0 q5
          obtain ⟨t1, t2, t3, t4, t5⟩ := (hS1 u (by omega)).1 g2
          obtain ⟨-, -, w3, w4, -⟩ := s_hol_of g4
          rw [ix_1] at w3
          generalize hix : ix i = y at w3 w4
          subst w4
          have ho : op_cell (nI u) (nI y) l a = ((a.2.2.2.1 u y).toInt64, a_flt a 0) := by simp [op_cell, q, q2, ix_nI hu2, q5, hix]
          have hfA : AM M1 (op_cell (nI u) (nI y) l a).2 := by rw [ho]; exact hA1
          have hfF := hF1
          refine PW_aload0 (pc' := 76) dX7_cell_75 rfl ?_
          refine PW_getR (pc' := 79) dX7_cell_76 rfl fX7_65 rfl rfl ?_
          refine PW_bipush (pc' := 81) dX7_cell_79 rfl (v := nI 60) (by first | rfl | decide) ?_
          refine PW_iload1 (pc' := 82) dX7_cell_81 rfl ?_
          refine PW_imul (pc' := 83) dX7_cell_82 rfl ?_
          rw [nI_mul]
          refine PW_iload2 (pc' := 84) dX7_cell_83 rfl ?_
          refine PW_iadd (pc' := 85) dX7_cell_84 rfl ?_
          rw [nI_add]
          refine PW_ialdn (pc' := 86) dX7_cell_85 rfl rfl rfl (show 60 * u + y < 240 by omega) ?_
          rw [t5 _ (show y < _ by omega)]
          refine PW_i2l (pc' := 87) dX7_cell_86 rfl ?_
          refine PW_lreturn dX7_cell_87 rfl ?_
          exact ⟨by rw [ho], hfA, hfF⟩
        · rw [q4] at h59
          have q5 : ¬ s_foc (a.2.2.1 u) l i 1 = 0 := fun z => h59 (by rw [z]; decide)
          have ho : op_cell (nI u) i l a = (v_lost, a_flt a (nI (s_foc (a.2.2.1 u) l i 1))) := by simp [op_cell, q, q2, ix_nI hu2, q5]
          have hfA : AM (pv_up M1 29 0 (nI (s_foc (a.2.2.1 u) l i 1))) (op_cell (nI u) i l a).2 := by rw [ho]; exact hA1.fault _
          have hfF : frM M (pv_up M1 29 0 (nI (s_foc (a.2.2.1 u) l i 1))) := hF1.up (by decide)
          refine PW_aload0 (pc' := 63) dX7_cell_62 rfl ?_
          refine PW_aload0 (pc' := 64) dX7_cell_63 rfl ?_
          refine PW_iload1 (pc' := 65) dX7_cell_64 rfl ?_
          refine PW_iload2 (pc' := 66) dX7_cell_65 rfl ?_
          refine PW_callV2f (pc' := 69) dX7_cell_66 rfl oX7_noCell lX7_233 rfl rfl rfl (Nat.le_of_ble_eq_true rfl) (c_X7_noCell (show u < 4 by omega) (hS1 u (by omega))) ?_
          rw [q4]
          refine PW_callV1f (pc' := 72) dX7_cell_69 rfl oX7_failedLong lX7_236 rfl rfl rfl (Nat.le_of_ble_eq_true rfl) (c_X7_failedLong) ?_
          refine PW_goto (tgt := 87) dX7_cell_72 rfl ?_
          refine PW_lreturn dX7_cell_87 rfl ?_
          exact ⟨by rw [ho], hfA, hfF⟩
      · have g1 : (a.2.2.1 u).1 = true := by
          cases hb : (a.2.2.1 u).1 with
          | true => rfl
          | false => exact absurd ((s_szM (hS1 u (by omega))).mpr hb) h34
        obtain ⟨t1, t2, t3, t4, t5⟩ := (hS1 u (by omega)).1 g1
        refine PW_aload0 (pc' := 38) dX7_cell_37 rfl ?_
        refine PW_getR (pc' := 41) dX7_cell_38 rfl fX7_62 rfl rfl ?_
        refine PW_iload1 (pc' := 42) dX7_cell_41 rfl ?_
        refine PW_ialdn (pc' := 43) dX7_cell_42 rfl rfl rfl (by omega) ?_
        rw [t3]
        refine PW_iload3 (pc' := 44) dX7_cell_43 rfl ?_
        refine PW_icmp_eq (tgt := 53) (pc' := 47) dX7_cell_44 rfl rfl (fun h44 => ?_) (fun h44 => ?_)
        · have hl : nI (a.2.2.1 u).2.1 = l := h44
          have q4 : s_foc (a.2.2.1 u) (nI (a.2.2.1 u).2.1) i 1 = s_foc (a.2.2.1 u) l i 1 := by rw [hl]
          have hle := s_foc_le (a.2.2.1 u) l i 1
          refine PW_aload0 (pc' := 54) dX7_cell_53 rfl ?_
          refine PW_iload1 (pc' := 55) dX7_cell_54 rfl ?_
          refine PW_iload2 (pc' := 56) dX7_cell_55 rfl ?_
          refine PW_callV2f (pc' := 59) dX7_cell_56 rfl oX7_noCell lX7_233 rfl rfl rfl (Nat.le_of_ble_eq_true rfl) (c_X7_noCell (show u < 4 by omega) (hS1 u (by omega))) ?_
          refine PW_if_le (tgt := 75) (pc' := 62) dX7_cell_59 rfl rfl (fun h59 => ?_) (fun h59 => ?_)
          · rw [q4] at h59
            have q5 : s_foc (a.2.2.1 u) l i 1 = 0 := by
              rcases Nat.eq_zero_or_pos (s_foc (a.2.2.1 u) l i 1) with z | z
              · exact z
              · exact absurd h59 (nI_nle z (by omega))
            obtain ⟨g2, g3, g4⟩ := s_foc_0 q5
            obtain ⟨t1, t2, t3, t4, t5⟩ := (hS1 u (by omega)).1 g2
            obtain ⟨-, -, w3, w4, -⟩ := s_hol_of g4
            rw [ix_1] at w3
            generalize hix : ix i = y at w3 w4
            subst w4
            have ho : op_cell (nI u) (nI y) l a = ((a.2.2.2.1 u y).toInt64, a_flt a 0) := by simp [op_cell, q, q2, ix_nI hu2, q5, hix]
            have hfA : AM M1 (op_cell (nI u) (nI y) l a).2 := by rw [ho]; exact hA1
            have hfF := hF1
            refine PW_aload0 (pc' := 76) dX7_cell_75 rfl ?_
            refine PW_getR (pc' := 79) dX7_cell_76 rfl fX7_65 rfl rfl ?_
            refine PW_bipush (pc' := 81) dX7_cell_79 rfl (v := nI 60) (by first | rfl | decide) ?_
            refine PW_iload1 (pc' := 82) dX7_cell_81 rfl ?_
            refine PW_imul (pc' := 83) dX7_cell_82 rfl ?_
            rw [nI_mul]
            refine PW_iload2 (pc' := 84) dX7_cell_83 rfl ?_
            refine PW_iadd (pc' := 85) dX7_cell_84 rfl ?_
            rw [nI_add]
            refine PW_ialdn (pc' := 86) dX7_cell_85 rfl rfl rfl (show 60 * u + y < 240 by omega) ?_
            rw [t5 _ (show y < _ by omega)]
            refine PW_i2l (pc' := 87) dX7_cell_86 rfl ?_
            refine PW_lreturn dX7_cell_87 rfl ?_
            exact ⟨by rw [ho], hfA, hfF⟩
          · rw [q4] at h59
            have q5 : ¬ s_foc (a.2.2.1 u) l i 1 = 0 := fun z => h59 (by rw [z]; decide)
            have ho : op_cell (nI u) i l a = (v_lost, a_flt a (nI (s_foc (a.2.2.1 u) l i 1))) := by simp [op_cell, q, q2, ix_nI hu2, q5]
            have hfA : AM (pv_up M1 29 0 (nI (s_foc (a.2.2.1 u) l i 1))) (op_cell (nI u) i l a).2 := by rw [ho]; exact hA1.fault _
            have hfF : frM M (pv_up M1 29 0 (nI (s_foc (a.2.2.1 u) l i 1))) := hF1.up (by decide)
            refine PW_aload0 (pc' := 63) dX7_cell_62 rfl ?_
            refine PW_aload0 (pc' := 64) dX7_cell_63 rfl ?_
            refine PW_iload1 (pc' := 65) dX7_cell_64 rfl ?_
            refine PW_iload2 (pc' := 66) dX7_cell_65 rfl ?_
            refine PW_callV2f (pc' := 69) dX7_cell_66 rfl oX7_noCell lX7_233 rfl rfl rfl (Nat.le_of_ble_eq_true rfl) (c_X7_noCell (show u < 4 by omega) (hS1 u (by omega))) ?_
            rw [q4]
            refine PW_callV1f (pc' := 72) dX7_cell_69 rfl oX7_failedLong lX7_236 rfl rfl rfl (Nat.le_of_ble_eq_true rfl) (c_X7_failedLong) ?_
            refine PW_goto (tgt := 87) dX7_cell_72 rfl ?_
            refine PW_lreturn dX7_cell_87 rfl ?_
            exact ⟨by rw [ho], hfA, hfF⟩
        · have q3 : s_foc (a.2.2.1 u) l i 1 = 2 := by unfold s_foc; rw [if_neg (by rw [g1]; decide), if_pos h44]
          have ho : op_cell (nI u) i l a = (v_lost, a_flt a (nI 2)) := by simp [op_cell, q, q2, ix_nI hu2, q3]
          refine PW_aload0 (pc' := 48) dX7_cell_47 rfl ?_
          refine PW_iconst (pc' := 49) dX7_cell_48 rfl (v := nI 2) (by first | rfl | decide) ?_
          refine PW_callV1f (pc' := 52) dX7_cell_49 rfl oX7_failedLong lX7_236 rfl rfl rfl (Nat.le_of_ble_eq_true rfl) (c_X7_failedLong) ?_
          refine PW_lreturn dX7_cell_52 rfl ?_
          exact ⟨by rw [ho], by rw [ho]; exact hA1.fault _, hF1.up (by decide)⟩
    · have q2 := bi_f h21
      have ho : op_cell (nI u) i l a = (v_lost, a_flt a 0) := by simp [op_cell, q, q2]
      refine PW_callS0f (pc' := 27) dX7_cell_24 rfl oX7_lost lX7_80 (Nat.le_of_ble_eq_true rfl) (c_X7_lost) ?_
      refine PW_lreturn dX7_cell_27 rfl ?_
      exact ⟨by rw [ho], by rw [ho]; exact hA1, hF1⟩
set_option maxHeartbeats 4000000 in
theorem l_X7_sheet {Γ : pv_G} {d u n : Nat} {l : Int32} {a : s_A} {o : s_O} {M0 : pv_M} (hu : u < 4) (hn : n ≤ 60) (ho : ∀ M, AM M o.2 → frM M0 M → o_M o M0 (some (.int 1)) M) (hA : AM M0 a) (hl : ∃ x, x ≤ 2 ∧ l = nI x ∧ a_sh (a_flt a 0) u (true, x, n) (fun _ => 0) = o.2) : ∀ (m j : Nat) (M : pv_M), j + m = n → (∀ p, p ∉ [46, 47, 48] → M p = M0 p) → M 46 u = nI n → M 47 u = l → (∀ x, x ≠ u → M 46 x = M0 46 x ∧ M 47 x = M0 47 x) → (∀ x, x < 4 → x ≠ u → ∀ i, i < 60 → M 48 (60 * x + i) = M0 48 (60 * x + i)) → (∀ i, i < j → M 48 (60 * u + i) = 0) →
    PW Γ (d + 2) vX7_sheet 65 [.ref 29, .int (nI u), .int l, .int (nI n), .int (nI j)] [] M (o_M o M0) := by
  intro m
  induction m using Nat.strongRecOn with
  | ind m ih =>
    intro j M hjm hp h46 h47 h6 h8 hz
    refine PW_iload4 (pc' := 67) dX7_sheet_65 rfl ?_
    refine PW_iload3 (pc' := 68) dX7_sheet_67 rfl ?_
    refine PW_icmp_ge (tgt := 90) (pc' := 71) dX7_sheet_68 rfl rfl (fun h68 => ?_) (fun h68 => ?_)
    · have hj : j = n := by have := s_bge (by omega) (by omega) h68; omega
      subst hj
      refine PW_aload0 (pc' := 91) dX7_sheet_90 rfl ?_
      refine PW_iconst (pc' := 92) dX7_sheet_91 rfl (v := 1) (by first | rfl | decide) ?_
      refine PW_callV1f (pc' := 95) dX7_sheet_92 rfl oX7_refused lX7_124 rfl rfl rfl (Nat.le_of_ble_eq_true rfl) (c_X7_refused) ?_
      refine PW_ireturn .int dX7_sheet_95 rfl rfl ?_
      obtain ⟨x, hx, rfl, hl⟩ := hl
      refine ho _ ?_ (frM.up (fun p hp3 => hp p (by simp; omega)) (by decide))
      rw [← hl]
      have := (hA.sh (k := u) (M' := M) (s := (true, x, j)) (c := fun _ => 0) ⟨fun _ => ⟨h46, hn, h47, hx, hz⟩, fun z => (by cases z)⟩ (fun p hp2 => hp p (by simp at hp2 ⊢; omega)) h6 h8).fault 0
      exact this
    · have hj : j < n := s_bnd (by omega) (by omega) h68
      refine PW_aload0 (pc' := 72) dX7_sheet_71 rfl ?_
      refine PW_getR (pc' := 75) dX7_sheet_72 rfl fX7_65 rfl rfl ?_
      refine PW_bipush (pc' := 77) dX7_sheet_75 rfl (v := nI 60) (by first | rfl | decide) ?_
      refine PW_iload1 (pc' := 78) dX7_sheet_77 rfl ?_
      refine PW_imul (pc' := 79) dX7_sheet_78 rfl ?_
      rw [nI_mul]
      refine PW_iload4 (pc' := 81) dX7_sheet_79 rfl ?_
      refine PW_iadd (pc' := 82) dX7_sheet_81 rfl ?_
      rw [nI_add]
      refine PW_iconst (pc' := 83) dX7_sheet_82 rfl (v := 0) (by first | rfl | decide) ?_
      refine PW_iastn (pc' := 84) dX7_sheet_83 rfl rfl rfl (show 60 * u + j < 240 by omega) ?_
      refine PW_iinc4 (pc' := 87) dX7_sheet_84 rfl rfl rfl nI_inc ?_
      refine PW_goto (tgt := 65) dX7_sheet_87 rfl ?_
      refine ih (m - 1) (by omega) (j + 1) _ (by omega) (fun p hp2 => ?_) ?_ ?_ (fun x hx => ?_) (fun x hx hxu i hi => ?_) (fun i hi => ?_)
      · rw [pv_up_o (fun z => hp2 (by rw [z]; decide))]; exact hp p hp2
      · rw [pv_up_p (by simp)]; exact h46
      · rw [pv_up_p (by simp)]; exact h47
      · rw [pv_up_p (by simp), pv_up_p (by simp)]; exact h6 x hx
      · rw [pv_up_p (fun z => by omega)]; exact h8 x hx hxu i hi
      · rw [pv_up_at]
        by_cases hij : i = j
        · rw [if_pos ⟨rfl, by omega⟩]
        · rw [if_neg (fun z => by omega)]; exact hz i (by omega)
set_option maxHeartbeats 4000000 in
theorem c_X7_sheet {Γ : pv_G} {d : Nat} {M : pv_M} {a : s_A} {k l n : Int32} (hA : AM M a) : Ct Γ (d + 2) vX7_sheet [.ref 29, .int k, .int l, .int n] M (o_M (op_sheet k l n a) M) := by
  obtain ⟨hH, hR, hSh, hfl, htr, hnv⟩ := id hA
  obtain ⟨hok, hc1, hc2, hc3, hf⟩ := id hH
  have hn5 := hok.1
  have hf0 := fun t ht => hf t ht 0 (by decide)
  have hf2 := fun t ht => hf t ht 2 (by decide)
  have hf4 := fun t ht => hf t ht 4 (by decide)
  refine Ct.of oX7_sheet.1 rfl (pad := 1) rfl ?_
  show PW Γ (d + 2) vX7_sheet 0 [.ref 29, .int k, .int l, .int n, .null] [] M _
  refine PW_iload1 (pc' := 1) dX7_sheet_0 rfl ?_
  refine PW_callS1f (pc' := 4) dX7_sheet_1 rfl oX7_noSheet lX7_120 (Nat.le_of_ble_eq_true rfl) (c_X7_noSheet) ?_
  refine PW_if_eq (tgt := 13) (pc' := 7) dX7_sheet_4 rfl rfl (fun h4 => ?_) (fun h4 => ?_)
  · have q := bn_f h4
    obtain ⟨u, hu, rfl⟩ := s_rng_of (n := 3) q
    have hu2 : u < 2 ^ 31 := by omega
    refine PW_iload2 (pc' := 14) dX7_sheet_13 rfl ?_
    refine PW_i2l (pc' := 15) dX7_sheet_14 rfl ?_
    refine PW_lconst (pc' := 16) dX7_sheet_15 rfl (v := 0) (by first | rfl | decide) ?_
    refine PW_ldc2 (pc' := 19) dX7_sheet_16 rfl qX7_127 ?_
    refine PW_callS3f (pc' := 22) dX7_sheet_19 rfl oX7_in lX7_87 (Nat.le_of_ble_eq_true rfl) (c_X7_inr (a := 0) (b := 2) rfl rfl) ?_
    refine PW_if_eq (tgt := 31) (pc' := 25) dX7_sheet_22 rfl rfl (fun h22 => ?_) (fun h22 => ?_)
    · have q2 := bi_f h22
      refine PW_aload0 (pc' := 32) dX7_sheet_31 rfl ?_
      refine PW_bipush (pc' := 34) dX7_sheet_32 rfl (v := -2) (by first | rfl | decide) ?_
      refine PW_callV1f (pc' := 37) dX7_sheet_34 rfl oX7_refused lX7_124 rfl rfl rfl (Nat.le_of_ble_eq_true rfl) (c_X7_refused) ?_
      refine PW_ireturn .int dX7_sheet_37 rfl rfl ?_
      first
        | exact ⟨by simp [op_sheet, q, q2], by simpa [op_sheet, q, q2] using hA.fault 0, frM.rf.up (by decide)⟩
        | exact ⟨by simp [op_sheet, q, q2, h28], by simpa [op_sheet, q, q2, h28] using hA.fault 0, frM.rf.up (by decide)⟩
    · have q2 := bi_t h22
      obtain ⟨x, hx, rfl⟩ := s_rng_of (n := 2) q2
      have hx2 : x < 2 ^ 31 := by omega
      refine PW_iload3 (pc' := 26) dX7_sheet_25 rfl ?_
      refine PW_bipush (pc' := 28) dX7_sheet_26 rfl (v := nI 60) (by first | rfl | decide) ?_
      refine PW_icmp_le (tgt := 38) (pc' := 31) dX7_sheet_28 rfl rfl (fun h28 => ?_) (fun h28 => ?_)
      · simp only [Int32.lt_iff_toInt_lt, Int32.le_iff_toInt_le, nI_toInt (show 60 < 2 ^ 31 by decide), Int.cast_ofNat_Int] at h28
        refine PW_iload3 (pc' := 39) dX7_sheet_38 rfl ?_
        refine PW_if_ge (tgt := 48) (pc' := 42) dX7_sheet_39 rfl rfl (fun h39 => ?_) (fun h39 => ?_)
        · have h39 : ¬ n.toInt < 0 := fun z => absurd (z_lt.mpr z) (Int32.not_lt.mpr h39)
          refine PW_aload0 (pc' := 49) dX7_sheet_48 rfl ?_
          refine PW_getR (pc' := 52) dX7_sheet_49 rfl fX7_59 rfl rfl ?_
          refine PW_iload1 (pc' := 53) dX7_sheet_52 rfl ?_
          refine PW_iload3 (pc' := 54) dX7_sheet_53 rfl ?_
          refine PW_iastn (pc' := 55) dX7_sheet_54 rfl rfl rfl (by omega) ?_
          refine PW_aload0 (pc' := 56) dX7_sheet_55 rfl ?_
          refine PW_getR (pc' := 59) dX7_sheet_56 rfl fX7_62 rfl rfl ?_
          refine PW_iload1 (pc' := 60) dX7_sheet_59 rfl ?_
          refine PW_iload2 (pc' := 61) dX7_sheet_60 rfl ?_
          refine PW_iastn (pc' := 62) dX7_sheet_61 rfl rfl rfl (by omega) ?_
          refine PW_iconst (pc' := 63) dX7_sheet_62 rfl (v := nI 0) (by first | rfl | decide) ?_
          refine PW_istore4 (pc' := 65) dX7_sheet_63 rfl rfl rfl ?_
          obtain ⟨y, hy, hny⟩ : ∃ y, y ≤ 60 ∧ n = nI y := ⟨n.toInt.toNat, by omega, Int32.toInt_inj.mp (by rw [nI_toInt (by omega)]; omega)⟩
          subst hny
          have hy2 : y < 2 ^ 31 := by omega
          refine l_X7_sheet (a := a) (o := op_sheet (nI u) (nI x) (nI y) a) (by omega) hy (fun M2 h1 h2 => ⟨by simp [op_sheet, q, q2, h28, h39], h1, h2⟩) hA ⟨x, hx, rfl, by simp [op_sheet, q, q2, h28, h39, ix_nI hu2, ix_nI hx2, ix_nI hy2]⟩ y 0 _ (by omega) (fun p hp => ?_) ?_ ?_ (fun z hz => ?_) (fun z hz hzu i hi => ?_) (fun i hi => absurd hi (Nat.not_lt_zero i))
          · rw [pv_up_o (fun z => hp (by rw [z]; decide)), pv_up_o (fun z => hp (by rw [z]; decide))]
          · simp [pv_up_at]
          · simp [pv_up_at]
          · simp [pv_up_at, hz]
          · simp [pv_up_at]
        · have h39 : n.toInt < 0 := z_lt.mp (Int32.not_le.mp h39)
          refine PW_aload0 (pc' := 43) dX7_sheet_42 rfl ?_
          refine PW_iconst (pc' := 44) dX7_sheet_43 rfl (v := 4) (by first | rfl | decide) ?_
          refine PW_callV1f (pc' := 47) dX7_sheet_44 rfl oX7_failed lX7_112 rfl rfl rfl (Nat.le_of_ble_eq_true rfl) (c_X7_failed) ?_
          refine PW_ireturn .int dX7_sheet_47 rfl rfl ?_
          exact ⟨by simp [op_sheet, q, q2, h28, h39], by simpa [op_sheet, q, q2, h28, h39] using hA.fault 4, frM.rf.up (by decide)⟩
      · simp only [Int32.lt_iff_toInt_lt, Int32.le_iff_toInt_le, nI_toInt (show 60 < 2 ^ 31 by decide), Int.cast_ofNat_Int] at h28
        refine PW_aload0 (pc' := 32) dX7_sheet_31 rfl ?_
        refine PW_bipush (pc' := 34) dX7_sheet_32 rfl (v := -2) (by first | rfl | decide) ?_
        refine PW_callV1f (pc' := 37) dX7_sheet_34 rfl oX7_refused lX7_124 rfl rfl rfl (Nat.le_of_ble_eq_true rfl) (c_X7_refused) ?_
        refine PW_ireturn .int dX7_sheet_37 rfl rfl ?_
        first
          | exact ⟨by simp [op_sheet, q, q2], by simpa [op_sheet, q, q2] using hA.fault 0, frM.rf.up (by decide)⟩
          | exact ⟨by simp [op_sheet, q, q2, h28], by simpa [op_sheet, q, q2, h28] using hA.fault 0, frM.rf.up (by decide)⟩
  · have q := bn_t h4
    refine PW_aload0 (pc' := 8) dX7_sheet_7 rfl ?_
    refine PW_iconst (pc' := 9) dX7_sheet_8 rfl (v := -1) (by first | rfl | decide) ?_
    refine PW_callV1f (pc' := 12) dX7_sheet_9 rfl oX7_refused lX7_124 rfl rfl rfl (Nat.le_of_ble_eq_true rfl) (c_X7_refused) ?_
    refine PW_ireturn .int dX7_sheet_12 rfl rfl ?_
    exact ⟨by simp [op_sheet, q], by simpa [op_sheet, q] using hA.fault 0, frM.rf.up (by decide)⟩
theorem l_fr (M M0 : pv_M) : True := trivial
set_option maxHeartbeats 4000000 in
/-- the second loop: from the hands to the other sheet -/
theorem l_X7_copy2 {Γ : pv_G} {d w j n : Nat} {x1 x2 : Int32} {c : Nat → Int32} {o : s_O} {M0 : pv_M} (hw : w < 4) (hjn : j + n ≤ 60) (ho : ∀ M, (∀ p, p ∉ [48, 49] → M p = M0 p) → (∀ q, M 48 q = if 60 * w + j ≤ q ∧ q < 60 * w + j + n then c (q - (60 * w + j)) else M0 48 q) → o_M o M0 (some (.int (nI n))) (pv_up M 29 0 0)) : ∀ (m x : Nat) (M : pv_M), x + m = n → (∀ p, p ∉ [48, 49] → M p = M0 p) → (∀ q, M 48 q = if 60 * w + j ≤ q ∧ q < 60 * w + j + x then c (q - (60 * w + j)) else M0 48 q) → (∀ y, y < n → M 49 y = c y) →
    PW Γ (d + 2) vX7_copy 144 [.ref 29, .int x1, .int x2, .int (nI w), .int (nI j), .int (nI n), .int (nI x)] [] M (o_M o M0) := by
  intro m
  induction m using Nat.strongRecOn with
  | ind m ih =>
    intro x M hxm hp h8 h9
    refine PW_iload6 (pc' := 146) dX7_copy_144 rfl ?_
    refine PW_iload5 (pc' := 148) dX7_copy_146 rfl ?_
    refine PW_icmp_ge (tgt := 179) (pc' := 151) dX7_copy_148 rfl rfl (fun h148 => ?_) (fun h148 => ?_)
    · have hx : x = n := by have := s_bge (by omega) (by omega) h148; omega
      subst hx
      refine PW_aload0 (pc' := 180) dX7_copy_179 rfl ?_
      refine PW_iload5 (pc' := 182) dX7_copy_180 rfl ?_
      refine PW_callV1f (pc' := 185) dX7_copy_182 rfl oX7_refused lX7_124 rfl rfl rfl (Nat.le_of_ble_eq_true rfl) (c_X7_refused) ?_
      refine PW_ireturn .int dX7_copy_185 rfl rfl ?_
      exact ho M hp h8
    · have hx : x < n := s_bnd (by omega) (by omega) h148
      refine PW_aload0 (pc' := 152) dX7_copy_151 rfl ?_
      refine PW_getR (pc' := 155) dX7_copy_152 rfl fX7_65 rfl rfl ?_
      refine PW_bipush (pc' := 157) dX7_copy_155 rfl (v := nI 60) (by first | rfl | decide) ?_
      refine PW_iload3 (pc' := 158) dX7_copy_157 rfl ?_
      refine PW_imul (pc' := 159) dX7_copy_158 rfl ?_
      rw [nI_mul]
      refine PW_iload4 (pc' := 161) dX7_copy_159 rfl ?_
      refine PW_iadd (pc' := 162) dX7_copy_161 rfl ?_
      rw [nI_add]
      refine PW_iload6 (pc' := 164) dX7_copy_162 rfl ?_
      refine PW_iadd (pc' := 165) dX7_copy_164 rfl ?_
      rw [nI_add]
      refine PW_aload0 (pc' := 166) dX7_copy_165 rfl ?_
      refine PW_getR (pc' := 169) dX7_copy_166 rfl fX7_68 rfl rfl ?_
      refine PW_iload6 (pc' := 171) dX7_copy_169 rfl ?_
      refine PW_ialdn (pc' := 172) dX7_copy_171 rfl rfl rfl (show x < 60 by omega) ?_
      rw [h9 x hx]
      refine PW_iastn (pc' := 173) dX7_copy_172 rfl rfl rfl (show 60 * w + j + x < 240 by omega) ?_
      refine PW_iinc6 (pc' := 176) dX7_copy_173 rfl rfl rfl nI_inc ?_
      refine PW_goto (tgt := 144) dX7_copy_176 rfl ?_
      refine ih (m - 1) (by omega) (x + 1) _ (by omega) (fun p hp2 => ?_) (fun q => ?_) (fun y hy => ?_)
      · rw [pv_up_o (fun z => hp2 (by rw [z]; decide))]; exact hp p hp2
      · rw [pv_up_at]
        by_cases hq : q = 60 * w + j + x
        · rw [if_pos ⟨rfl, hq⟩, if_pos (by omega)]
          congr 1
          omega
        · rw [if_neg (fun z => hq z.2), h8 q]
          by_cases hq2 : 60 * w + j ≤ q ∧ q < 60 * w + j + x
          · rw [if_pos hq2, if_pos (by omega)]
          · rw [if_neg hq2, if_neg (by omega)]
      · rw [pv_up_p (by simp)]; exact h9 y hy
set_option maxHeartbeats 4000000 in
theorem l_X7_copy1 {Γ : pv_G} {d u w i j n : Nat} {o : s_O} {M0 : pv_M} (hu : u < 4) (hin : i + n ≤ 60) (hw : w < 4) (hjn : j + n ≤ 60) (ho : ∀ M, (∀ p, p ∉ [48, 49] → M p = M0 p) → (∀ q, M 48 q = if 60 * w + j ≤ q ∧ q < 60 * w + j + n then M0 48 (60 * u + i + (q - (60 * w + j))) else M0 48 q) → o_M o M0 (some (.int (nI n))) (pv_up M 29 0 0)) : ∀ (m x : Nat) (M : pv_M), x + m = n → (∀ p, p ∉ [49] → M p = M0 p) → (∀ y, y < x → M 49 y = M0 48 (60 * u + i + y)) →
    PW Γ (d + 2) vX7_copy 107 [.ref 29, .int (nI u), .int (nI i), .int (nI w), .int (nI j), .int (nI n), .int (nI x)] [] M (o_M o M0) := by
  intro m
  induction m using Nat.strongRecOn with
  | ind m ih =>
    intro x M hxm hp h9
    refine PW_iload6 (pc' := 109) dX7_copy_107 rfl ?_
    refine PW_iload5 (pc' := 111) dX7_copy_109 rfl ?_
    refine PW_icmp_ge (tgt := 141) (pc' := 114) dX7_copy_111 rfl rfl (fun h111 => ?_) (fun h111 => ?_)
    · have hx : x = n := by have := s_bge (by omega) (by omega) h111; omega
      subst hx
      refine PW_iconst (pc' := 142) dX7_copy_141 rfl (v := nI 0) (by first | rfl | decide) ?_
      refine PW_istore6 (pc' := 144) dX7_copy_142 rfl rfl rfl ?_
      exact l_X7_copy2 (c := fun y => M0 48 (60 * u + i + y)) hw hjn ho x 0 M (by omega) (fun p hp2 => hp p (by simp at hp2 ⊢; omega)) (fun q => by rw [if_neg (by omega), hp 48 (by decide)]) h9
    · have hx : x < n := s_bnd (by omega) (by omega) h111
      refine PW_aload0 (pc' := 115) dX7_copy_114 rfl ?_
      refine PW_getR (pc' := 118) dX7_copy_115 rfl fX7_68 rfl rfl ?_
      refine PW_iload6 (pc' := 120) dX7_copy_118 rfl ?_
      refine PW_aload0 (pc' := 121) dX7_copy_120 rfl ?_
      refine PW_getR (pc' := 124) dX7_copy_121 rfl fX7_65 rfl rfl ?_
      refine PW_bipush (pc' := 126) dX7_copy_124 rfl (v := nI 60) (by first | rfl | decide) ?_
      refine PW_iload1 (pc' := 127) dX7_copy_126 rfl ?_
      refine PW_imul (pc' := 128) dX7_copy_127 rfl ?_
      rw [nI_mul]
      refine PW_iload2 (pc' := 129) dX7_copy_128 rfl ?_
      refine PW_iadd (pc' := 130) dX7_copy_129 rfl ?_
      rw [nI_add]
      refine PW_iload6 (pc' := 132) dX7_copy_130 rfl ?_
      refine PW_iadd (pc' := 133) dX7_copy_132 rfl ?_
      rw [nI_add]
      refine PW_ialdn (pc' := 134) dX7_copy_133 rfl rfl rfl (show 60 * u + i + x < 240 by omega) ?_
      rw [hp 48 (by decide)]
      refine PW_iastn (pc' := 135) dX7_copy_134 rfl rfl rfl (show x < 60 by omega) ?_
      refine PW_iinc6 (pc' := 138) dX7_copy_135 rfl rfl rfl nI_inc ?_
      refine PW_goto (tgt := 107) dX7_copy_138 rfl ?_
      refine ih (m - 1) (by omega) (x + 1) _ (by omega) (fun p hp2 => ?_) (fun y hy => ?_)
      · rw [pv_up_o (fun z => hp2 (by rw [z]; decide))]; exact hp p hp2
      · rw [pv_up_at]
        by_cases hyx : y = x
        · rw [if_pos ⟨rfl, hyx⟩, hyx]
        · rw [if_neg (fun z => hyx z.2)]; exact h9 y (by omega)
set_option maxHeartbeats 4000000 in
theorem c_X7_copy {Γ : pv_G} {d : Nat} {M : pv_M} {a : s_A} {k i o j n : Int32} (hA : AM M a) : Ct Γ (d + 2) vX7_copy [.ref 29, .int k, .int i, .int o, .int j, .int n] M (o_M (op_copy k i o j n a) M) := by
  obtain ⟨hH, hR, hSh, hfl, htr, hnv⟩ := id hA
  obtain ⟨hok, hc1, hc2, hc3, hf⟩ := id hH
  have hn5 := hok.1
  have hf0 := fun t ht => hf t ht 0 (by decide)
  have hf2 := fun t ht => hf t ht 2 (by decide)
  have hf4 := fun t ht => hf t ht 4 (by decide)
  refine Ct.of oX7_copy.1 rfl (pad := 1) rfl ?_
  show PW Γ (d + 2) vX7_copy 0 [.ref 29, .int k, .int i, .int o, .int j, .int n, .null] [] M _
  refine PW_iload1 (pc' := 1) dX7_copy_0 rfl ?_
  refine PW_callS1f (pc' := 4) dX7_copy_1 rfl oX7_noSheet lX7_120 (Nat.le_of_ble_eq_true rfl) (c_X7_noSheet) ?_
  refine PW_if_ne (tgt := 14) (pc' := 7) dX7_copy_4 rfl rfl (fun h4 => ?_) (fun h4 => ?_)
  · have q := bn_t h4
    refine PW_aload0 (pc' := 15) dX7_copy_14 rfl ?_
    refine PW_iconst (pc' := 16) dX7_copy_15 rfl (v := -1) (by first | rfl | decide) ?_
    refine PW_callV1f (pc' := 19) dX7_copy_16 rfl oX7_refused lX7_124 rfl rfl rfl (Nat.le_of_ble_eq_true rfl) (c_X7_refused) ?_
    refine PW_ireturn .int dX7_copy_19 rfl rfl ?_
    first
      | exact ⟨by simp [op_copy, q], by simpa [op_copy, q] using hA.fault 0, frM.rf.up (by decide)⟩
      | exact ⟨by simp [op_copy, q, q2], by simpa [op_copy, q, q2] using hA.fault 0, frM.rf.up (by decide)⟩
  · have q := bn_f h4
    obtain ⟨u, hu, rfl⟩ := s_rng_of (n := 3) q
    have hu2 : u < 2 ^ 31 := by omega
    refine PW_iload3 (pc' := 8) dX7_copy_7 rfl ?_
    refine PW_callS1f (pc' := 11) dX7_copy_8 rfl oX7_noSheet lX7_120 (Nat.le_of_ble_eq_true rfl) (c_X7_noSheet) ?_
    refine PW_if_eq (tgt := 20) (pc' := 14) dX7_copy_11 rfl rfl (fun h11 => ?_) (fun h11 => ?_)
    · have q2 := bn_f h11
      obtain ⟨w, hw, rfl⟩ := s_rng_of (n := 3) q2
      have hw2 : w < 2 ^ 31 := by omega
      refine PW_aload0 (pc' := 21) dX7_copy_20 rfl ?_
      refine PW_getR (pc' := 24) dX7_copy_21 rfl fX7_59 rfl rfl ?_
      refine PW_iload1 (pc' := 25) dX7_copy_24 rfl ?_
      refine PW_ialdn (pc' := 26) dX7_copy_25 rfl rfl rfl (by omega) ?_
      refine PW_if_lt (tgt := 38) (pc' := 29) dX7_copy_26 rfl rfl (fun h26 => ?_) (fun h26 => ?_)
      · have q3 : (a.2.2.1 u).1 = false := (s_szM (hSh u (by omega))).mp h26
        refine PW_aload0 (pc' := 39) dX7_copy_38 rfl ?_
        refine PW_iconst (pc' := 40) dX7_copy_39 rfl (v := 1) (by first | rfl | decide) ?_
        refine PW_callV1f (pc' := 43) dX7_copy_40 rfl oX7_failed lX7_112 rfl rfl rfl (Nat.le_of_ble_eq_true rfl) (c_X7_failed) ?_
        refine PW_ireturn .int dX7_copy_43 rfl rfl ?_
        first
          | exact ⟨by simp [op_copy, q, q2, q3, ix_nI hu2, ix_nI hw2], by simpa [op_copy, q, q2, q3, ix_nI hu2, ix_nI hw2] using hA.fault 1, frM.rf.up (by decide)⟩
          | exact ⟨by simp [op_copy, q, q2, q3, q4, ix_nI hu2, ix_nI hw2], by simpa [op_copy, q, q2, q3, q4, ix_nI hu2, ix_nI hw2] using hA.fault 1, frM.rf.up (by decide)⟩
      · have q3 : (a.2.2.1 u).1 = true := by
          cases hb : (a.2.2.1 u).1 with
          | true => rfl
          | false => exact absurd ((s_szM (hSh u (by omega))).mpr hb) h26
        obtain ⟨t1, t2, t3, t4, t5⟩ := (hSh u (by omega)).1 q3
        refine PW_aload0 (pc' := 30) dX7_copy_29 rfl ?_
        refine PW_getR (pc' := 33) dX7_copy_30 rfl fX7_59 rfl rfl ?_
        refine PW_iload3 (pc' := 34) dX7_copy_33 rfl ?_
        refine PW_ialdn (pc' := 35) dX7_copy_34 rfl rfl rfl (by omega) ?_
        refine PW_if_ge (tgt := 44) (pc' := 38) dX7_copy_35 rfl rfl (fun h35 => ?_) (fun h35 => ?_)
        · have q4 : (a.2.2.1 w).1 = true := by
            cases hb : (a.2.2.1 w).1 with
            | true => rfl
            | false => exact absurd ((s_szM (hSh w (by omega))).mpr hb) (v_gez.mp h35)
          obtain ⟨y1, y2, y3, y4, y5⟩ := (hSh w (by omega)).1 q4
          refine PW_aload0 (pc' := 45) dX7_copy_44 rfl ?_
          refine PW_getR (pc' := 48) dX7_copy_45 rfl fX7_62 rfl rfl ?_
          refine PW_iload1 (pc' := 49) dX7_copy_48 rfl ?_
          refine PW_ialdn (pc' := 50) dX7_copy_49 rfl rfl rfl (by omega) ?_
          rw [t3]
          refine PW_aload0 (pc' := 51) dX7_copy_50 rfl ?_
          refine PW_getR (pc' := 54) dX7_copy_51 rfl fX7_62 rfl rfl ?_
          refine PW_iload3 (pc' := 55) dX7_copy_54 rfl ?_
          refine PW_ialdn (pc' := 56) dX7_copy_55 rfl rfl rfl (by omega) ?_
          rw [y3]
          refine PW_icmp_eq (tgt := 65) (pc' := 59) dX7_copy_56 rfl rfl (fun h56 => ?_) (fun h56 => ?_)
          · have q5 : (a.2.2.1 u).2.1 = (a.2.2.1 w).2.1 := nI_inj (by omega) (by omega) h56
            refine PW_iload2 (pc' := 66) dX7_copy_65 rfl ?_
            refine PW_iload5 (pc' := 68) dX7_copy_66 rfl ?_
            refine PW_i2l (pc' := 69) dX7_copy_68 rfl ?_
            refine PW_aload0 (pc' := 70) dX7_copy_69 rfl ?_
            refine PW_getR (pc' := 73) dX7_copy_70 rfl fX7_59 rfl rfl ?_
            refine PW_iload1 (pc' := 74) dX7_copy_73 rfl ?_
            refine PW_ialdn (pc' := 75) dX7_copy_74 rfl rfl rfl (by omega) ?_
            rw [t1]
            refine PW_callS3f (pc' := 78) dX7_copy_75 rfl oX7_isBeyond lX7_116 (Nat.le_of_ble_eq_true rfl) (c_X7_isBeyond t2) ?_
            refine PW_if_ne (tgt := 98) (pc' := 81) dX7_copy_78 rfl rfl (fun h78 => ?_) (fun h78 => ?_)
            · have q6 := bn_t h78
              refine PW_aload0 (pc' := 99) dX7_copy_98 rfl ?_
              refine PW_iconst (pc' := 100) dX7_copy_99 rfl (v := 3) (by first | rfl | decide) ?_
              refine PW_callV1f (pc' := 103) dX7_copy_100 rfl oX7_failed lX7_112 rfl rfl rfl (Nat.le_of_ble_eq_true rfl) (c_X7_failed) ?_
              refine PW_ireturn .int dX7_copy_103 rfl rfl ?_
              first
                | exact ⟨by simp [op_copy, q, q2, q3, q4, q5, q6, ix_nI hu2, ix_nI hw2], by simpa [op_copy, q, q2, q3, q4, q5, q6, ix_nI hu2, ix_nI hw2] using hA.fault 3, frM.rf.up (by decide)⟩
                | exact ⟨by simp [op_copy, q, q2, q3, q4, q5, q6, q7, ix_nI hu2, ix_nI hw2], by simpa [op_copy, q, q2, q3, q4, q5, q6, q7, ix_nI hu2, ix_nI hw2] using hA.fault 3, frM.rf.up (by decide)⟩
            · have q6 := bn_f h78
              refine PW_iload4 (pc' := 83) dX7_copy_81 rfl ?_
              refine PW_iload5 (pc' := 85) dX7_copy_83 rfl ?_
              refine PW_i2l (pc' := 86) dX7_copy_85 rfl ?_
              refine PW_aload0 (pc' := 87) dX7_copy_86 rfl ?_
              refine PW_getR (pc' := 90) dX7_copy_87 rfl fX7_59 rfl rfl ?_
              refine PW_iload3 (pc' := 91) dX7_copy_90 rfl ?_
              refine PW_ialdn (pc' := 92) dX7_copy_91 rfl rfl rfl (by omega) ?_
              rw [y1]
              refine PW_callS3f (pc' := 95) dX7_copy_92 rfl oX7_isBeyond lX7_116 (Nat.le_of_ble_eq_true rfl) (c_X7_isBeyond y2) ?_
              refine PW_if_eq (tgt := 104) (pc' := 98) dX7_copy_95 rfl rfl (fun h95 => ?_) (fun h95 => ?_)
              · have q7 := bn_f h95
                refine PW_iconst (pc' := 105) dX7_copy_104 rfl (v := nI 0) (by first | rfl | decide) ?_
                refine PW_istore6 (pc' := 107) dX7_copy_105 rfl rfl rfl ?_
                obtain ⟨w1, w2, w3, w4, w5⟩ := s_hol_of q6
                obtain ⟨z1, z2, z3, v4, z5⟩ := s_hol_of q7
                generalize hi' : ix i = i' at w3 w4
                generalize hj' : ix j = j' at z3 v4
                generalize hn' : ix n = n' at w3 w5 z3
                subst w4
                subst v4
                subst w5
                refine l_X7_copy1 (by omega) (by omega) (by omega) (by omega) (fun M2 hp h8 => ?_) n' 0 M (by omega) (fun p _ => rfl) (fun y hy => absurd hy (Nat.not_lt_zero y))
                refine ⟨by simp [op_copy, q, q2, q3, q4, q5, q6, q7, ix_nI hu2, ix_nI hw2], ?_, fun p hp3 => ?_⟩
                · have := (hA.sh (k := w) (M' := M2) (s := a.2.2.1 w) (c := va_cpy (a.2.2.2.1 u) (a.2.2.2.1 w) i' j' n') ⟨fun _ => ⟨by rw [hp 46 (by decide)]; exact y1, y2, by rw [hp 47 (by decide)]; exact y3, y4, fun x hx => ?_⟩, fun z => (by rw [q4] at z; cases z)⟩ (fun p hp2 => hp p (by simp at hp2 ⊢; omega)) (fun x _ => ⟨by rw [hp 46 (by decide)], by rw [hp 47 (by decide)]⟩) (fun x hx hxw y hy => ?_)).fault 0
                  · simpa [op_copy, q, q2, q3, q4, q5, q6, q7, ix_nI hu2, ix_nI hw2, hi', hj', hn', a_flt, a_sh] using this
                  · rw [h8]
                    simp only [va_cpy]
                    by_cases hc : j' ≤ x ∧ x < j' + n'
                    · rw [if_pos (by omega), if_pos hc, ← t5 _ (show i' + (x - j') < _ by omega)]
                      congr 1
                      omega
                    · rw [if_neg (by omega), if_neg hc]
                      exact y5 x hx
                  · rw [h8, if_neg (by omega)]
                · rw [pv_up_o (by omega)]
                  exact hp p (by simp; omega)
              · have q7 := bn_t h95
                refine PW_aload0 (pc' := 99) dX7_copy_98 rfl ?_
                refine PW_iconst (pc' := 100) dX7_copy_99 rfl (v := 3) (by first | rfl | decide) ?_
                refine PW_callV1f (pc' := 103) dX7_copy_100 rfl oX7_failed lX7_112 rfl rfl rfl (Nat.le_of_ble_eq_true rfl) (c_X7_failed) ?_
                refine PW_ireturn .int dX7_copy_103 rfl rfl ?_
                first
                  | exact ⟨by simp [op_copy, q, q2, q3, q4, q5, q6, ix_nI hu2, ix_nI hw2], by simpa [op_copy, q, q2, q3, q4, q5, q6, ix_nI hu2, ix_nI hw2] using hA.fault 3, frM.rf.up (by decide)⟩
                  | exact ⟨by simp [op_copy, q, q2, q3, q4, q5, q6, q7, ix_nI hu2, ix_nI hw2], by simpa [op_copy, q, q2, q3, q4, q5, q6, q7, ix_nI hu2, ix_nI hw2] using hA.fault 3, frM.rf.up (by decide)⟩
          · have q5 : ¬ (a.2.2.1 u).2.1 = (a.2.2.1 w).2.1 := fun z => h56 (by rw [z])
            refine PW_aload0 (pc' := 60) dX7_copy_59 rfl ?_
            refine PW_iconst (pc' := 61) dX7_copy_60 rfl (v := 2) (by first | rfl | decide) ?_
            refine PW_callV1f (pc' := 64) dX7_copy_61 rfl oX7_failed lX7_112 rfl rfl rfl (Nat.le_of_ble_eq_true rfl) (c_X7_failed) ?_
            refine PW_ireturn .int dX7_copy_64 rfl rfl ?_
            exact ⟨by simp [op_copy, q, q2, q3, q4, q5, ix_nI hu2, ix_nI hw2], by simpa [op_copy, q, q2, q3, q4, q5, ix_nI hu2, ix_nI hw2] using hA.fault 2, frM.rf.up (by decide)⟩
        · have q4 : (a.2.2.1 w).1 = false := (s_szM (hSh w (by omega))).mp (Classical.not_not.mp (fun z => h35 (v_gez.mpr z)))
          refine PW_aload0 (pc' := 39) dX7_copy_38 rfl ?_
          refine PW_iconst (pc' := 40) dX7_copy_39 rfl (v := 1) (by first | rfl | decide) ?_
          refine PW_callV1f (pc' := 43) dX7_copy_40 rfl oX7_failed lX7_112 rfl rfl rfl (Nat.le_of_ble_eq_true rfl) (c_X7_failed) ?_
          refine PW_ireturn .int dX7_copy_43 rfl rfl ?_
          first
            | exact ⟨by simp [op_copy, q, q2, q3, ix_nI hu2, ix_nI hw2], by simpa [op_copy, q, q2, q3, ix_nI hu2, ix_nI hw2] using hA.fault 1, frM.rf.up (by decide)⟩
            | exact ⟨by simp [op_copy, q, q2, q3, q4, ix_nI hu2, ix_nI hw2], by simpa [op_copy, q, q2, q3, q4, ix_nI hu2, ix_nI hw2] using hA.fault 1, frM.rf.up (by decide)⟩
    · have q2 := bn_t h11
      refine PW_aload0 (pc' := 15) dX7_copy_14 rfl ?_
      refine PW_iconst (pc' := 16) dX7_copy_15 rfl (v := -1) (by first | rfl | decide) ?_
      refine PW_callV1f (pc' := 19) dX7_copy_16 rfl oX7_refused lX7_124 rfl rfl rfl (Nat.le_of_ble_eq_true rfl) (c_X7_refused) ?_
      refine PW_ireturn .int dX7_copy_19 rfl rfl ?_
      first
        | exact ⟨by simp [op_copy, q], by simpa [op_copy, q] using hA.fault 0, frM.rf.up (by decide)⟩
        | exact ⟨by simp [op_copy, q, q2], by simpa [op_copy, q, q2] using hA.fault 0, frM.rf.up (by decide)⟩
