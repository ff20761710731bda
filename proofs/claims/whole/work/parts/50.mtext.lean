/-! the reference: a text, code by code -/
def v_cd (M : pv_M) (b n p : Nat) : Int32 := if p < n then M 48 (b + p) else -9
set_option maxHeartbeats 4000000 in
theorem c_X7_codeAt {Γ : pv_G} {d : Nat} {M : pv_M} {b n p : Nat} (hb : b + n ≤ 240) (hp : M 29 10 = nI p) (hp2 : p ≤ 100) : Ct Γ d vX7_codeAt [.ref 29, .int (nI b), .int (nI n)] M (pv_fn (some (.int (v_cd M b n p))) M) := by
  refine Ct.of oX7_codeAt.1 rfl (pad := 0) rfl ?_
  show PW Γ d vX7_codeAt 0 [.ref 29, .int (nI b), .int (nI n)] [] M _
  refine PW_aload0 (pc' := 1) dX7_codeAt_0 rfl ?_
  refine PW_getI (pc' := 4) dX7_codeAt_1 rfl fX7_91 rfl rfl ?_
  rw [hp]
  refine PW_iload2 (pc' := 5) dX7_codeAt_4 rfl ?_
  refine PW_icmp_ge (tgt := 22) (pc' := 8) dX7_codeAt_5 rfl rfl (fun h5 => ?_) (fun h5 => ?_)
  · have hc : ¬ p < n := by
      have := (nI_leI (by omega) (by omega)).mp h5
      omega
    refine PW_bipush (pc' := 24) dX7_codeAt_22 rfl (v := -9) (by first | rfl | decide) ?_
    refine PW_ireturn .int dX7_codeAt_24 rfl rfl ?_
    refine ⟨?_, rfl⟩
    first
      | rw [v_cd, if_pos hc]
      | rw [v_cd, if_neg hc]
  · have hc : p < n := Nat.not_le.mp (fun z => h5 ((nI_leI (by omega) (by omega)).mpr z))
    refine PW_aload0 (pc' := 9) dX7_codeAt_8 rfl ?_
    refine PW_getR (pc' := 12) dX7_codeAt_9 rfl fX7_65 rfl rfl ?_
    refine PW_iload1 (pc' := 13) dX7_codeAt_12 rfl ?_
    refine PW_aload0 (pc' := 14) dX7_codeAt_13 rfl ?_
    refine PW_getI (pc' := 17) dX7_codeAt_14 rfl fX7_91 rfl rfl ?_
    rw [hp]
    refine PW_iadd (pc' := 18) dX7_codeAt_17 rfl ?_
    rw [nI_add]
    refine PW_ialdn (pc' := 19) dX7_codeAt_18 rfl rfl rfl (show b + p < 240 by omega) ?_
    refine PW_goto (tgt := 24) dX7_codeAt_19 rfl ?_
    refine PW_ireturn .int dX7_codeAt_24 rfl rfl ?_
    refine ⟨?_, rfl⟩
    first
      | rw [v_cd, if_pos hc]
      | rw [v_cd, if_neg hc]
def v_fg (x lo hi : Int32) : Bool := s_rng (x - 48) lo.toInt hi.toInt
set_option maxHeartbeats 4000000 in
theorem l_X7_figure24 {Γ : pv_G} {d p : Nat} {x : Int32} {ok : Bool} {x1 x2 x3 x4 : Int32} {M : pv_M} (hp : M 29 10 = nI p) : PW Γ (d + 1) vX7_figure 24 [.ref 29, .int x1, .int x2, .int x3, .int x4, .int x, .int (bi ok)] [] M (pv_fn (some (.int (if ok = true then x else -9))) (pv_up M 29 10 (nI (if ok = true then p + 1 else p)))) := by
  refine PW_aload0 (pc' := 25) dX7_figure_24 rfl ?_
  refine PW_dupR (pc' := 26) dX7_figure_25 rfl ?_
  refine PW_getI (pc' := 29) dX7_figure_26 rfl fX7_91 rfl rfl ?_
  rw [hp]
  refine PW_iload6 (pc' := 31) dX7_figure_29 rfl ?_
  refine PW_if_eq (tgt := 38) (pc' := 34) dX7_figure_31 rfl rfl (fun h31 => ?_) (fun h31 => ?_)
  · have q := bi_f h31
    refine PW_iconst (pc' := 39) dX7_figure_38 rfl (v := nI 0) (by first | rfl | decide) ?_
    refine PW_iadd (pc' := 40) dX7_figure_39 rfl ?_
    rw [nI_add]
    refine PW_putI (pc' := 43) dX7_figure_40 rfl fX7_91 w6_10 rfl rfl ?_
    refine PW_iload6 (pc' := 45) dX7_figure_43 rfl ?_
    refine PW_if_eq (tgt := 53) (pc' := 48) dX7_figure_45 rfl rfl (fun h45 => ?_) (fun h45 => ?_)
    · have q2 := bi_f h45
      refine PW_bipush (pc' := 55) dX7_figure_53 rfl (v := -9) (by first | rfl | decide) ?_
      refine PW_ireturn .int dX7_figure_55 rfl rfl ?_
      first
        | (rw [q] at q2; exact absurd q2 (by decide))
        | (subst q; exact ⟨rfl, rfl⟩)
    · have q2 := bi_t h45
      refine PW_iload5 (pc' := 50) dX7_figure_48 rfl ?_
      refine PW_goto (tgt := 55) dX7_figure_50 rfl ?_
      refine PW_ireturn .int dX7_figure_55 rfl rfl ?_
      first
        | (rw [q] at q2; exact absurd q2 (by decide))
        | (subst q; exact ⟨rfl, rfl⟩)
  · have q := bi_t h31
    refine PW_iconst (pc' := 35) dX7_figure_34 rfl (v := nI 1) (by first | rfl | decide) ?_
    refine PW_goto (tgt := 39) dX7_figure_35 rfl ?_
    refine PW_iadd (pc' := 40) dX7_figure_39 rfl ?_
    rw [nI_add]
    refine PW_putI (pc' := 43) dX7_figure_40 rfl fX7_91 w6_10 rfl rfl ?_
    refine PW_iload6 (pc' := 45) dX7_figure_43 rfl ?_
    refine PW_if_eq (tgt := 53) (pc' := 48) dX7_figure_45 rfl rfl (fun h45 => ?_) (fun h45 => ?_)
    · have q2 := bi_f h45
      refine PW_bipush (pc' := 55) dX7_figure_53 rfl (v := -9) (by first | rfl | decide) ?_
      refine PW_ireturn .int dX7_figure_55 rfl rfl ?_
      first
        | (rw [q] at q2; exact absurd q2 (by decide))
        | (subst q; exact ⟨rfl, rfl⟩)
    · have q2 := bi_t h45
      refine PW_iload5 (pc' := 50) dX7_figure_48 rfl ?_
      refine PW_goto (tgt := 55) dX7_figure_50 rfl ?_
      refine PW_ireturn .int dX7_figure_55 rfl rfl ?_
      first
        | (rw [q] at q2; exact absurd q2 (by decide))
        | (subst q; exact ⟨rfl, rfl⟩)
set_option maxHeartbeats 4000000 in
theorem c_X7_figure {Γ : pv_G} {d : Nat} {M : pv_M} {b n p : Nat} {lo hi : Int32} (hb : b + n ≤ 240) (hp : M 29 10 = nI p) (hp2 : p ≤ 100) : Ct Γ (d + 1) vX7_figure [.ref 29, .int (nI b), .int (nI n), .int lo, .int hi] M (pv_fn (some (.int (if v_fg (v_cd M b n p) lo hi = true then v_cd M b n p - 48 else -9))) (pv_up M 29 10 (nI (if v_fg (v_cd M b n p) lo hi = true then p + 1 else p)))) := by
  refine Ct.of oX7_figure.1 rfl (pad := 2) rfl ?_
  show PW Γ (d + 1) vX7_figure 0 [.ref 29, .int (nI b), .int (nI n), .int lo, .int hi, .null, .null] [] M _
  refine PW_aload0 (pc' := 1) dX7_figure_0 rfl ?_
  refine PW_iload1 (pc' := 2) dX7_figure_1 rfl ?_
  refine PW_iload2 (pc' := 3) dX7_figure_2 rfl ?_
  refine PW_callV2f (pc' := 6) dX7_figure_3 rfl oX7_codeAt lX7_94 rfl rfl rfl (Nat.le_of_ble_eq_true rfl) (c_X7_codeAt hb hp hp2) ?_
  refine PW_bipush (pc' := 8) dX7_figure_6 rfl (v := 48) (by first | rfl | decide) ?_
  refine PW_isub (pc' := 9) dX7_figure_8 rfl ?_
  refine PW_istore5 (pc' := 11) dX7_figure_9 rfl rfl rfl ?_
  refine PW_iload5 (pc' := 13) dX7_figure_11 rfl ?_
  refine PW_i2l (pc' := 14) dX7_figure_13 rfl ?_
  refine PW_iload3 (pc' := 15) dX7_figure_14 rfl ?_
  refine PW_i2l (pc' := 16) dX7_figure_15 rfl ?_
  refine PW_iload4 (pc' := 18) dX7_figure_16 rfl ?_
  refine PW_i2l (pc' := 19) dX7_figure_18 rfl ?_
  refine PW_callS3f (pc' := 22) dX7_figure_19 rfl oX7_in lX7_87 (Nat.le_of_ble_eq_true rfl) (c_X7_inr (a := lo.toInt) (b := hi.toInt) (Int32.toInt_toInt64 _) (Int32.toInt_toInt64 _)) ?_
  refine PW_istore6 (pc' := 24) dX7_figure_22 rfl rfl rfl ?_
  exact l_X7_figure24 (ok := v_fg (v_cd M b n p) lo hi) hp
