/-! the reference: sheets -/
theorem v_add64 (x y : Int32) : (x.toInt64 + y.toInt64).toInt = x.toInt + y.toInt := by
  have b1 := x.toInt_lt
  have b2 := y.toInt_lt
  have b3 := x.le_toInt
  have b4 := y.le_toInt
  rw [Int64.toInt_add, Int32.toInt_toInt64, Int32.toInt_toInt64]
  exact Int.bmod_eq_of_le (by omega) (by omega)
theorem AM.sh {M M' : pv_M} {a : s_A} {k : Nat} {s : Bool × Nat × Nat} {c : Nat → Int32} (h : AM M a) (hs : s_shM M' k s c) (hp : ∀ p, p ∉ [46, 47, 48, 49] → M' p = M p) (h6 : ∀ x, x ≠ k → M' 46 x = M 46 x ∧ M' 47 x = M 47 x) (h8 : ∀ x, x < 4 → x ≠ k → ∀ i, i < 60 → M' 48 (60 * x + i) = M 48 (60 * x + i)) : AM M' (a_sh a k s c) := by
  obtain ⟨h1, h2, h3, h4, h5, h7⟩ := h
  have e29 : M' 29 = M 29 := hp 29 (by decide)
  refine ⟨h1.of (fun k _ => by rw [e29]) (fun f hf => hp _ (by simp; omega)), ?_, fun x hx => ?_, by rw [e29]; exact h4, by rw [e29]; exact h5, by rw [e29]; exact h7⟩
  · obtain ⟨r1, r2, r3⟩ := h2
    refine ⟨by rw [e29]; exact r1, r2, fun i hi => ?_⟩
    rw [hp 43 (by decide), hp 44 (by decide), hp 45 (by decide)]
    exact r3 i hi
  · simp only [a_sh]
    by_cases hxk : x = k
    · subst hxk
      simpa using hs
    · simp only [if_neg hxk]
      obtain ⟨g1, g2⟩ := h3 x hx
      refine ⟨fun z => ?_, fun z => by rw [(h6 x hxk).1]; exact g2 z⟩
      obtain ⟨t1, t2, t3, t4, t5⟩ := g1 z
      exact ⟨by rw [(h6 x hxk).1]; exact t1, t2, by rw [(h6 x hxk).2]; exact t3, t4, fun i hi => by rw [h8 x hx hxk i (by omega)]; exact t5 i hi⟩
theorem v_neg1 : ((-1 : Int32) < 0) := by decide
theorem s_szM {M : pv_M} {k : Nat} {s : Bool × Nat × Nat} {c : Nat → Int32} (h : s_shM M k s c) : (M 46 k < 0) ↔ s.1 = false := by
  obtain ⟨h1, h2⟩ := h
  cases hs : s.1 with
  | true =>
    obtain ⟨t1, t2, -⟩ := h1 hs
    rw [t1]
    exact ⟨fun z => absurd z (nI_pos (by omega)), fun z => by cases z⟩
  | false =>
    rw [h2 hs]
    exact ⟨fun _ => rfl, fun _ => by decide⟩
theorem v_gez {x : Int32} : (0 ≤ x) ↔ ¬ x < 0 := Int32.not_lt.symm
set_option maxHeartbeats 4000000 in
theorem c_X7_isBeyond {Γ : pv_G} {d : Nat} {M : pv_M} {len : Nat} {i n : Int32} (hl : len ≤ 60) : Ct Γ d vX7_isBeyond [.int i, .long n.toInt64, .int (nI len)] M (pv_fn (some (.int (bi (!s_hol len i n)))) M) := by
  refine Ct.of oX7_isBeyond.1 rfl (pad := 0) rfl ?_
  show PW Γ d vX7_isBeyond 0 [.int i, .long n.toInt64, .null, .int (nI len)] [] M _
  refine PW_iload0 (pc' := 1) dX7_isBeyond_0 rfl ?_
  refine PW_if_lt (tgt := 20) (pc' := 4) dX7_isBeyond_1 rfl rfl (fun h1 => ?_) (fun h1 => ?_)
  · rw [z_lt] at h1
    have q : s_hol len i n = false := by simp only [s_hol, decide_eq_false_iff_not]; omega
    refine PW_iconst (pc' := 21) dX7_isBeyond_20 rfl (v := 1) (by first | rfl | decide) ?_
    refine PW_goto (tgt := 25) dX7_isBeyond_21 rfl ?_
    refine PW_ireturn .boolean dX7_isBeyond_25 rfl (by first | rfl | exact bi_nar _) ?_
    refine ⟨?_, rfl⟩
    rw [q]
    rfl
  · rw [z_lt] at h1
    refine PW_lload1 (pc' := 5) dX7_isBeyond_4 rfl ?_
    refine PW_lconst (pc' := 6) dX7_isBeyond_5 rfl (v := 0) (by first | rfl | decide) ?_
    refine PW_lcmp (pc' := 7) dX7_isBeyond_6 rfl ?_
    refine PW_if_lt (tgt := 20) (pc' := 10) dX7_isBeyond_7 rfl rfl (fun h7 => ?_) (fun h7 => ?_)
    · rw [lg_cmp_lt, Int64.lt_iff_toInt_lt, Int32.toInt_toInt64] at h7
      have h7 : n.toInt < 0 := h7
      have q : s_hol len i n = false := by simp only [s_hol, decide_eq_false_iff_not]; omega
      refine PW_iconst (pc' := 21) dX7_isBeyond_20 rfl (v := 1) (by first | rfl | decide) ?_
      refine PW_goto (tgt := 25) dX7_isBeyond_21 rfl ?_
      refine PW_ireturn .boolean dX7_isBeyond_25 rfl (by first | rfl | exact bi_nar _) ?_
      refine ⟨?_, rfl⟩
      rw [q]
      rfl
    · rw [lg_cmp_lt, Int64.lt_iff_toInt_lt, Int32.toInt_toInt64] at h7
      have h7 : ¬ n.toInt < 0 := h7
      refine PW_iload0 (pc' := 11) dX7_isBeyond_10 rfl ?_
      refine PW_i2l (pc' := 12) dX7_isBeyond_11 rfl ?_
      refine PW_lload1 (pc' := 13) dX7_isBeyond_12 rfl ?_
      refine PW_ladd (pc' := 14) dX7_isBeyond_13 rfl ?_
      refine PW_iload3 (pc' := 15) dX7_isBeyond_14 rfl ?_
      refine PW_i2l (pc' := 16) dX7_isBeyond_15 rfl ?_
      refine PW_lcmp (pc' := 17) dX7_isBeyond_16 rfl ?_
      refine PW_if_le (tgt := 24) (pc' := 20) dX7_isBeyond_17 rfl rfl (fun h17 => ?_) (fun h17 => ?_)
      · rw [lg_cmp_le, Int64.le_iff_toInt_le, v_add64, v_cnt0 _ (by omega)] at h17
        have q : s_hol len i n = true := by simp only [s_hol, decide_eq_true_eq]; omega
        refine PW_iconst (pc' := 25) dX7_isBeyond_24 rfl (v := 0) (by first | rfl | decide) ?_
        refine PW_ireturn .boolean dX7_isBeyond_25 rfl (by first | rfl | exact bi_nar _) ?_
        refine ⟨?_, rfl⟩
        rw [q]
        rfl
      · rw [lg_cmp_le, Int64.le_iff_toInt_le, v_add64, v_cnt0 _ (by omega)] at h17
        have q : s_hol len i n = false := by simp only [s_hol, decide_eq_false_iff_not]; omega
        refine PW_iconst (pc' := 21) dX7_isBeyond_20 rfl (v := 1) (by first | rfl | decide) ?_
        refine PW_goto (tgt := 25) dX7_isBeyond_21 rfl ?_
        refine PW_ireturn .boolean dX7_isBeyond_25 rfl (by first | rfl | exact bi_nar _) ?_
        refine ⟨?_, rfl⟩
        rw [q]
        rfl
set_option maxHeartbeats 4000000 in
theorem c_X7_noCell {Γ : pv_G} {d : Nat} {M : pv_M} {u : Nat} {i : Int32} {s : Bool × Nat × Nat} {c : Nat → Int32} (hu : u < 4) (hs : s_shM M u s c) : Ct Γ (d + 1) vX7_noCell [.ref 29, .int (nI u), .int i] M (pv_fn (some (.int (nI (s_foc s (nI s.2.1) i 1)))) M) := by
  refine Ct.of oX7_noCell.1 rfl (pad := 0) rfl ?_
  show PW Γ (d + 1) vX7_noCell 0 [.ref 29, .int (nI u), .int i] [] M _
  refine PW_aload0 (pc' := 1) dX7_noCell_0 rfl ?_
  refine PW_getR (pc' := 4) dX7_noCell_1 rfl fX7_59 rfl rfl ?_
  refine PW_iload1 (pc' := 5) dX7_noCell_4 rfl ?_
  refine PW_ialdn (pc' := 6) dX7_noCell_5 rfl rfl rfl (by omega) ?_
  refine PW_if_ge (tgt := 13) (pc' := 9) dX7_noCell_6 rfl rfl (fun h6 => ?_) (fun h6 => ?_)
  · have q : s.1 = true := by
      cases hb : s.1 with
      | true => rfl
      | false => exact absurd ((s_szM hs).mpr hb) (v_gez.mp h6)
    obtain ⟨t1, t2, t3, t4, t5⟩ := hs.1 q
    refine PW_iload2 (pc' := 14) dX7_noCell_13 rfl ?_
    refine PW_i2l (pc' := 15) dX7_noCell_14 rfl ?_
    refine PW_lconst (pc' := 16) dX7_noCell_15 rfl (v := 0) (by first | rfl | decide) ?_
    refine PW_aload0 (pc' := 17) dX7_noCell_16 rfl ?_
    refine PW_getR (pc' := 20) dX7_noCell_17 rfl fX7_59 rfl rfl ?_
    refine PW_iload1 (pc' := 21) dX7_noCell_20 rfl ?_
    refine PW_ialdn (pc' := 22) dX7_noCell_21 rfl rfl rfl (by omega) ?_
    rw [t1]
    refine PW_i2l (pc' := 23) dX7_noCell_22 rfl ?_
    refine PW_lconst (pc' := 24) dX7_noCell_23 rfl (v := 1) (by first | rfl | decide) ?_
    refine PW_lsub (pc' := 25) dX7_noCell_24 rfl ?_
    refine PW_callS3f (pc' := 28) dX7_noCell_25 rfl oX7_in lX7_87 (Nat.le_of_ble_eq_true rfl) (c_X7_inr (a := 0) rfl (v_cnt1 _ (by omega))) ?_
    refine PW_if_eq (tgt := 35) (pc' := 31) dX7_noCell_28 rfl rfl (fun h28 => ?_) (fun h28 => ?_)
    · have q2 := bi_f h28
      simp only [s_rng, Bool.and_eq_false_iff, decide_eq_false_iff_not] at q2
      refine PW_iconst (pc' := 36) dX7_noCell_35 rfl (v := 3) (by first | rfl | decide) ?_
      refine PW_ireturn .int dX7_noCell_36 rfl rfl ?_
      have e1 : (1 : Int32).toInt = 1 := rfl
      first
        | rw [show s_foc s (nI s.2.1) i 1 = 1 from if_pos q]; exact ⟨rfl, rfl⟩
        | rw [show s_foc s (nI s.2.1) i 1 = 0 from by unfold s_foc; rw [if_neg (by rw [q]; decide), if_neg (fun z => z rfl), if_neg (by rw [e1]; decide), if_pos (by rw [e1]; omega)]]; exact ⟨rfl, rfl⟩
        | rw [show s_foc s (nI s.2.1) i 1 = 3 from by unfold s_foc; rw [if_neg (by rw [q]; decide), if_neg (fun z => z rfl), if_neg (by rw [e1]; decide), if_neg (by rw [e1]; omega)]]; exact ⟨rfl, rfl⟩
    · have q2 := bi_t h28
      simp only [s_rng, Bool.and_eq_true, decide_eq_true_eq] at q2
      refine PW_iconst (pc' := 32) dX7_noCell_31 rfl (v := 0) (by first | rfl | decide) ?_
      refine PW_goto (tgt := 36) dX7_noCell_32 rfl ?_
      refine PW_ireturn .int dX7_noCell_36 rfl rfl ?_
      have e1 : (1 : Int32).toInt = 1 := rfl
      first
        | rw [show s_foc s (nI s.2.1) i 1 = 1 from if_pos q]; exact ⟨rfl, rfl⟩
        | rw [show s_foc s (nI s.2.1) i 1 = 0 from by unfold s_foc; rw [if_neg (by rw [q]; decide), if_neg (fun z => z rfl), if_neg (by rw [e1]; decide), if_pos (by rw [e1]; omega)]]; exact ⟨rfl, rfl⟩
        | rw [show s_foc s (nI s.2.1) i 1 = 3 from by unfold s_foc; rw [if_neg (by rw [q]; decide), if_neg (fun z => z rfl), if_neg (by rw [e1]; decide), if_neg (by rw [e1]; omega)]]; exact ⟨rfl, rfl⟩
  · have q : s.1 = false := (s_szM hs).mp (Classical.not_not.mp (fun z => h6 (v_gez.mpr z)))
    refine PW_iconst (pc' := 10) dX7_noCell_9 rfl (v := 1) (by first | rfl | decide) ?_
    refine PW_goto (tgt := 36) dX7_noCell_10 rfl ?_
    refine PW_ireturn .int dX7_noCell_36 rfl rfl ?_
    have e1 : (1 : Int32).toInt = 1 := rfl
    first
      | rw [show s_foc s (nI s.2.1) i 1 = 1 from if_pos q]; exact ⟨rfl, rfl⟩
      | rw [show s_foc s (nI s.2.1) i 1 = 0 from by unfold s_foc; rw [if_neg (by rw [q]; decide), if_neg (fun z => z rfl), if_neg (by rw [e1]; decide), if_pos (by rw [e1]; omega)]]; exact ⟨rfl, rfl⟩
      | rw [show s_foc s (nI s.2.1) i 1 = 3 from by unfold s_foc; rw [if_neg (by rw [q]; decide), if_neg (fun z => z rfl), if_neg (by rw [e1]; decide), if_neg (by rw [e1]; omega)]]; exact ⟨rfl, rfl⟩
def m_bar (M : pv_M) (f : Nat) : pv_M := if f = 0 then M else pv_up M 29 0 (nI f)
def v_bar (f : Nat) : Int32 := if f = 0 then 0 else -10 - nI f
set_option maxHeartbeats 4000000 in
theorem c_X7_cellsBarred {Γ : pv_G} {d : Nat} {M : pv_M} {u : Nat} {l i n : Int32} {s : Bool × Nat × Nat} {c : Nat → Int32} (hu : u < 4) (hs : s_shM M u s c) : Ct Γ (d + 1) vX7_cellsBarred [.ref 29, .int (nI u), .int l, .int i, .long n.toInt64] M (pv_fn (some (.int (v_bar (s_foc s l i n)))) (m_bar M (s_foc s l i n))) := by
  refine Ct.of oX7_cellsBarred.1 rfl (pad := 0) rfl ?_
  show PW Γ (d + 1) vX7_cellsBarred 0 [.ref 29, .int (nI u), .int l, .int i, .long n.toInt64, .null] [] M _
  refine PW_aload0 (pc' := 1) dX7_cellsBarred_0 rfl ?_
  refine PW_getR (pc' := 4) dX7_cellsBarred_1 rfl fX7_59 rfl rfl ?_
  refine PW_iload1 (pc' := 5) dX7_cellsBarred_4 rfl ?_
  refine PW_ialdn (pc' := 6) dX7_cellsBarred_5 rfl rfl rfl (by omega) ?_
  refine PW_if_lt (tgt := 25) (pc' := 9) dX7_cellsBarred_6 rfl rfl (fun h6 => ?_) (fun h6 => ?_)
  · have q : s.1 = false := (s_szM hs).mp h6
    refine PW_aload0 (pc' := 26) dX7_cellsBarred_25 rfl ?_
    refine PW_getR (pc' := 29) dX7_cellsBarred_26 rfl fX7_59 rfl rfl ?_
    refine PW_iload1 (pc' := 30) dX7_cellsBarred_29 rfl ?_
    refine PW_ialdn (pc' := 31) dX7_cellsBarred_30 rfl rfl rfl (by omega) ?_
    refine PW_if_ge (tgt := 40) (pc' := 34) dX7_cellsBarred_31 rfl rfl (fun h31 => ?_) (fun h31 => ?_)
    · have q9 : s.1 = true := by
        cases hb : s.1 with
        | true => rfl
        | false => exact absurd ((s_szM hs).mpr hb) (v_gez.mp h31)
      obtain ⟨t1, t2, t3, t4, t5⟩ := hs.1 q9
      refine PW_lload4 (pc' := 42) dX7_cellsBarred_40 rfl ?_
      refine PW_lconst (pc' := 43) dX7_cellsBarred_42 rfl (v := 0) (by first | rfl | decide) ?_
      refine PW_lcmp (pc' := 44) dX7_cellsBarred_43 rfl ?_
      refine PW_if_ge (tgt := 53) (pc' := 47) dX7_cellsBarred_44 rfl rfl (fun h44 => ?_) (fun h44 => ?_)
      · have h44 : ¬ n.toInt < 0 := by
          have z := (lg_cmp_ge _ _).mp h44
          rw [Int64.le_iff_toInt_le, Int32.toInt_toInt64] at z
          have z : 0 ≤ n.toInt := z
          omega
        refine PW_iload3 (pc' := 54) dX7_cellsBarred_53 rfl ?_
        refine PW_lload4 (pc' := 56) dX7_cellsBarred_54 rfl ?_
        refine PW_aload0 (pc' := 57) dX7_cellsBarred_56 rfl ?_
        refine PW_getR (pc' := 60) dX7_cellsBarred_57 rfl fX7_59 rfl rfl ?_
        refine PW_iload1 (pc' := 61) dX7_cellsBarred_60 rfl ?_
        refine PW_ialdn (pc' := 62) dX7_cellsBarred_61 rfl rfl rfl (by omega) ?_
        rw [t1]
        refine PW_callS3f (pc' := 65) dX7_cellsBarred_62 rfl oX7_isBeyond lX7_116 (Nat.le_of_ble_eq_true rfl) (c_X7_isBeyond t2) ?_
        refine PW_if_eq (tgt := 76) (pc' := 68) dX7_cellsBarred_65 rfl rfl (fun h65 => ?_) (fun h65 => ?_)
        · have q3 := bn_f h65
          simp only [s_hol, decide_eq_true_eq] at q3
          refine PW_iconst (pc' := 77) dX7_cellsBarred_76 rfl (v := 0) (by first | rfl | decide) ?_
          refine PW_ireturn .int dX7_cellsBarred_77 rfl rfl ?_
          first
            | exact absurd (q.symm.trans q9) (by decide)
            | (rw [show s_foc s l i n = 0 from by unfold s_foc; rw [if_neg (by rw [q9]; decide), if_neg (fun z => z (Classical.not_not.mp (fun y => y h16))), if_neg h44, if_pos (by omega)]]; exact ⟨rfl, rfl⟩)
            | (rw [show s_foc s l i n = 3 from by unfold s_foc; rw [if_neg (by rw [q9]; decide), if_neg (fun z => z (Classical.not_not.mp (fun y => y h16))), if_neg h44, if_neg (by omega)]]; exact ⟨rfl, rfl⟩)
        · have q3 := bn_t h65
          simp only [s_hol, decide_eq_false_iff_not] at q3
          refine PW_aload0 (pc' := 69) dX7_cellsBarred_68 rfl ?_
          refine PW_iconst (pc' := 70) dX7_cellsBarred_69 rfl (v := 3) (by first | rfl | decide) ?_
          refine PW_callV1f (pc' := 73) dX7_cellsBarred_70 rfl oX7_failed lX7_112 rfl rfl rfl (Nat.le_of_ble_eq_true rfl) (c_X7_failed) ?_
          refine PW_goto (tgt := 77) dX7_cellsBarred_73 rfl ?_
          refine PW_ireturn .int dX7_cellsBarred_77 rfl rfl ?_
          first
            | exact absurd (q.symm.trans q9) (by decide)
            | (rw [show s_foc s l i n = 0 from by unfold s_foc; rw [if_neg (by rw [q9]; decide), if_neg (fun z => z (Classical.not_not.mp (fun y => y h16))), if_neg h44, if_pos (by omega)]]; exact ⟨rfl, rfl⟩)
            | (rw [show s_foc s l i n = 3 from by unfold s_foc; rw [if_neg (by rw [q9]; decide), if_neg (fun z => z (Classical.not_not.mp (fun y => y h16))), if_neg h44, if_neg (by omega)]]; exact ⟨rfl, rfl⟩)
      · have h44 : n.toInt < 0 := by
          have z : ¬ (0 : Int64) ≤ n.toInt64 := fun y => h44 ((lg_cmp_ge _ _).mpr y)
          rw [Int64.le_iff_toInt_le, Int32.toInt_toInt64] at z
          have z : ¬ 0 ≤ n.toInt := z
          omega
        refine PW_aload0 (pc' := 48) dX7_cellsBarred_47 rfl ?_
        refine PW_iconst (pc' := 49) dX7_cellsBarred_48 rfl (v := 4) (by first | rfl | decide) ?_
        refine PW_callV1f (pc' := 52) dX7_cellsBarred_49 rfl oX7_failed lX7_112 rfl rfl rfl (Nat.le_of_ble_eq_true rfl) (c_X7_failed) ?_
        refine PW_ireturn .int dX7_cellsBarred_52 rfl rfl ?_
        first
          | exact absurd (q.symm.trans q9) (by decide)
          | (rw [show s_foc s l i n = 4 from by unfold s_foc; rw [if_neg (by rw [q9]; decide), if_neg (fun z => z (Classical.not_not.mp (fun y => y h16))), if_pos h44]]; exact ⟨rfl, rfl⟩)
    · have q8 : s.1 = false := (s_szM hs).mp (Classical.not_not.mp (fun z => h31 (v_gez.mpr z)))
      refine PW_aload0 (pc' := 35) dX7_cellsBarred_34 rfl ?_
      refine PW_iconst (pc' := 36) dX7_cellsBarred_35 rfl (v := 1) (by first | rfl | decide) ?_
      refine PW_callV1f (pc' := 39) dX7_cellsBarred_36 rfl oX7_failed lX7_112 rfl rfl rfl (Nat.le_of_ble_eq_true rfl) (c_X7_failed) ?_
      refine PW_ireturn .int dX7_cellsBarred_39 rfl rfl ?_
      rw [show s_foc s l i n = 1 from if_pos q8]
      exact ⟨rfl, rfl⟩
  · have q : s.1 = true := by
      cases hb : s.1 with
      | true => rfl
      | false => exact absurd ((s_szM hs).mpr hb) h6
    obtain ⟨t1, t2, t3, t4, t5⟩ := hs.1 q
    refine PW_aload0 (pc' := 10) dX7_cellsBarred_9 rfl ?_
    refine PW_getR (pc' := 13) dX7_cellsBarred_10 rfl fX7_62 rfl rfl ?_
    refine PW_iload1 (pc' := 14) dX7_cellsBarred_13 rfl ?_
    refine PW_ialdn (pc' := 15) dX7_cellsBarred_14 rfl rfl rfl (by omega) ?_
    rw [t3]
    refine PW_iload2 (pc' := 16) dX7_cellsBarred_15 rfl ?_
    refine PW_icmp_eq (tgt := 25) (pc' := 19) dX7_cellsBarred_16 rfl rfl (fun h16 => ?_) (fun h16 => ?_)
    · refine PW_aload0 (pc' := 26) dX7_cellsBarred_25 rfl ?_
      refine PW_getR (pc' := 29) dX7_cellsBarred_26 rfl fX7_59 rfl rfl ?_
      refine PW_iload1 (pc' := 30) dX7_cellsBarred_29 rfl ?_
      refine PW_ialdn (pc' := 31) dX7_cellsBarred_30 rfl rfl rfl (by omega) ?_
      refine PW_if_ge (tgt := 40) (pc' := 34) dX7_cellsBarred_31 rfl rfl (fun h31 => ?_) (fun h31 => ?_)
      · have q9 : s.1 = true := by
          cases hb : s.1 with
          | true => rfl
          | false => exact absurd ((s_szM hs).mpr hb) (v_gez.mp h31)
        obtain ⟨t1, t2, t3, t4, t5⟩ := hs.1 q9
        refine PW_lload4 (pc' := 42) dX7_cellsBarred_40 rfl ?_
        refine PW_lconst (pc' := 43) dX7_cellsBarred_42 rfl (v := 0) (by first | rfl | decide) ?_
        refine PW_lcmp (pc' := 44) dX7_cellsBarred_43 rfl ?_
        refine PW_if_ge (tgt := 53) (pc' := 47) dX7_cellsBarred_44 rfl rfl (fun h44 => ?_) (fun h44 => ?_)
        · have h44 : ¬ n.toInt < 0 := by
            have z := (lg_cmp_ge _ _).mp h44
            rw [Int64.le_iff_toInt_le, Int32.toInt_toInt64] at z
            have z : 0 ≤ n.toInt := z
            omega
          refine PW_iload3 (pc' := 54) dX7_cellsBarred_53 rfl ?_
          refine PW_lload4 (pc' := 56) dX7_cellsBarred_54 rfl ?_
          refine PW_aload0 (pc' := 57) dX7_cellsBarred_56 rfl ?_
          refine PW_getR (pc' := 60) dX7_cellsBarred_57 rfl fX7_59 rfl rfl ?_
          refine PW_iload1 (pc' := 61) dX7_cellsBarred_60 rfl ?_
          refine PW_ialdn (pc' := 62) dX7_cellsBarred_61 rfl rfl rfl (by omega) ?_
          rw [t1]
          refine PW_callS3f (pc' := 65) dX7_cellsBarred_62 rfl oX7_isBeyond lX7_116 (Nat.le_of_ble_eq_true rfl) (c_X7_isBeyond t2) ?_
          refine PW_if_eq (tgt := 76) (pc' := 68) dX7_cellsBarred_65 rfl rfl (fun h65 => ?_) (fun h65 => ?_)
          · have q3 := bn_f h65
            simp only [s_hol, decide_eq_true_eq] at q3
            refine PW_iconst (pc' := 77) dX7_cellsBarred_76 rfl (v := 0) (by first | rfl | decide) ?_
            refine PW_ireturn .int dX7_cellsBarred_77 rfl rfl ?_
            first
              | exact absurd (q.symm.trans q9) (by decide)
              | (rw [show s_foc s l i n = 0 from by unfold s_foc; rw [if_neg (by rw [q9]; decide), if_neg (fun z => z (Classical.not_not.mp (fun y => y h16))), if_neg h44, if_pos (by omega)]]; exact ⟨rfl, rfl⟩)
              | (rw [show s_foc s l i n = 3 from by unfold s_foc; rw [if_neg (by rw [q9]; decide), if_neg (fun z => z (Classical.not_not.mp (fun y => y h16))), if_neg h44, if_neg (by omega)]]; exact ⟨rfl, rfl⟩)
          · have q3 := bn_t h65
            simp only [s_hol, decide_eq_false_iff_not] at q3
            refine PW_aload0 (pc' := 69) dX7_cellsBarred_68 rfl ?_
            refine PW_iconst (pc' := 70) dX7_cellsBarred_69 rfl (v := 3) (by first | rfl | decide) ?_
            refine PW_callV1f (pc' := 73) dX7_cellsBarred_70 rfl oX7_failed lX7_112 rfl rfl rfl (Nat.le_of_ble_eq_true rfl) (c_X7_failed) ?_
            refine PW_goto (tgt := 77) dX7_cellsBarred_73 rfl ?_
            refine PW_ireturn .int dX7_cellsBarred_77 rfl rfl ?_
            first
              | exact absurd (q.symm.trans q9) (by decide)
              | (rw [show s_foc s l i n = 0 from by unfold s_foc; rw [if_neg (by rw [q9]; decide), if_neg (fun z => z (Classical.not_not.mp (fun y => y h16))), if_neg h44, if_pos (by omega)]]; exact ⟨rfl, rfl⟩)
              | (rw [show s_foc s l i n = 3 from by unfold s_foc; rw [if_neg (by rw [q9]; decide), if_neg (fun z => z (Classical.not_not.mp (fun y => y h16))), if_neg h44, if_neg (by omega)]]; exact ⟨rfl, rfl⟩)
        · have h44 : n.toInt < 0 := by
            have z : ¬ (0 : Int64) ≤ n.toInt64 := fun y => h44 ((lg_cmp_ge _ _).mpr y)
            rw [Int64.le_iff_toInt_le, Int32.toInt_toInt64] at z
            have z : ¬ 0 ≤ n.toInt := z
            omega
          refine PW_aload0 (pc' := 48) dX7_cellsBarred_47 rfl ?_
          refine PW_iconst (pc' := 49) dX7_cellsBarred_48 rfl (v := 4) (by first | rfl | decide) ?_
          refine PW_callV1f (pc' := 52) dX7_cellsBarred_49 rfl oX7_failed lX7_112 rfl rfl rfl (Nat.le_of_ble_eq_true rfl) (c_X7_failed) ?_
          refine PW_ireturn .int dX7_cellsBarred_52 rfl rfl ?_
          first
            | exact absurd (q.symm.trans q9) (by decide)
            | (rw [show s_foc s l i n = 4 from by unfold s_foc; rw [if_neg (by rw [q9]; decide), if_neg (fun z => z (Classical.not_not.mp (fun y => y h16))), if_pos h44]]; exact ⟨rfl, rfl⟩)
      · have q8 : s.1 = false := (s_szM hs).mp (Classical.not_not.mp (fun z => h31 (v_gez.mpr z)))
        refine PW_aload0 (pc' := 35) dX7_cellsBarred_34 rfl ?_
        refine PW_iconst (pc' := 36) dX7_cellsBarred_35 rfl (v := 1) (by first | rfl | decide) ?_
        refine PW_callV1f (pc' := 39) dX7_cellsBarred_36 rfl oX7_failed lX7_112 rfl rfl rfl (Nat.le_of_ble_eq_true rfl) (c_X7_failed) ?_
        refine PW_ireturn .int dX7_cellsBarred_39 rfl rfl ?_
        rw [show s_foc s l i n = 1 from if_pos q8]
        exact ⟨rfl, rfl⟩
    · refine PW_aload0 (pc' := 20) dX7_cellsBarred_19 rfl ?_
      refine PW_iconst (pc' := 21) dX7_cellsBarred_20 rfl (v := 2) (by first | rfl | decide) ?_
      refine PW_callV1f (pc' := 24) dX7_cellsBarred_21 rfl oX7_failed lX7_112 rfl rfl rfl (Nat.le_of_ble_eq_true rfl) (c_X7_failed) ?_
      refine PW_ireturn .int dX7_cellsBarred_24 rfl rfl ?_
      rw [show s_foc s l i n = 2 from by unfold s_foc; rw [if_neg (by rw [q]; decide), if_pos h16]]
      exact ⟨rfl, rfl⟩
theorem pv_up_p {M : pv_M} {p k q j : Nat} {v : Int32} (h : ¬ (q = p ∧ j = k)) : pv_up M p k v q j = M q j := by rw [pv_up_at, if_neg h]
set_option maxHeartbeats 4000000 in
theorem c_X7_lose {Γ : pv_G} {d : Nat} {M : pv_M} {a : s_A} {k : Int32} (hA : AM M a) : Ct Γ (d + 2) vX7_lose [.ref 29, .int k] M (o_M (op_lose k a) M) := by
  obtain ⟨hH, hR, hSh, hfl, htr, hnv⟩ := id hA
  obtain ⟨hok, hc1, hc2, hc3, hf⟩ := id hH
  have hn5 := hok.1
  have hf0 := fun t ht => hf t ht 0 (by decide)
  have hf2 := fun t ht => hf t ht 2 (by decide)
  have hf4 := fun t ht => hf t ht 4 (by decide)
  refine Ct.of oX7_lose.1 rfl (pad := 1) rfl ?_
  show PW Γ (d + 2) vX7_lose 0 [.ref 29, .int k, .null] [] M _
  refine PW_iload1 (pc' := 1) dX7_lose_0 rfl ?_
  refine PW_callS1f (pc' := 4) dX7_lose_1 rfl oX7_noSheet lX7_120 (Nat.le_of_ble_eq_true rfl) (c_X7_noSheet) ?_
  refine PW_if_eq (tgt := 9) (pc' := 7) dX7_lose_4 rfl rfl (fun h4 => ?_) (fun h4 => ?_)
  · have q := bn_f h4
    obtain ⟨u, hu, rfl⟩ := s_rng_of (n := 3) q
    have hu2 : u < 2 ^ 31 := by omega
    refine PW_aload0 (pc' := 10) dX7_lose_9 rfl ?_
    refine PW_getR (pc' := 13) dX7_lose_10 rfl fX7_59 rfl rfl ?_
    refine PW_iload1 (pc' := 14) dX7_lose_13 rfl ?_
    refine PW_ialdn (pc' := 15) dX7_lose_14 rfl rfl rfl (by omega) ?_
    refine PW_if_ge (tgt := 22) (pc' := 18) dX7_lose_15 rfl rfl (fun h15 => ?_) (fun h15 => ?_)
    · have q2 : (a.2.2.1 u).1 = true := by
        cases hb : (a.2.2.1 u).1 with
        | true => rfl
        | false => exact absurd ((s_szM (hSh u (by omega))).mpr hb) (v_gez.mp h15)
      refine PW_iconst (pc' := 23) dX7_lose_22 rfl (v := 1) (by first | rfl | decide) ?_
      refine PW_istore2 (pc' := 24) dX7_lose_23 rfl rfl rfl ?_
      refine PW_aload0 (pc' := 25) dX7_lose_24 rfl ?_
      refine PW_getR (pc' := 28) dX7_lose_25 rfl fX7_59 rfl rfl ?_
      refine PW_iload1 (pc' := 29) dX7_lose_28 rfl ?_
      refine PW_iconst (pc' := 30) dX7_lose_29 rfl (v := -1) (by first | rfl | decide) ?_
      refine PW_iastn (pc' := 31) dX7_lose_30 rfl rfl rfl (by omega) ?_
      refine PW_iload2 (pc' := 32) dX7_lose_31 rfl ?_
      refine PW_ireturn .int dX7_lose_32 rfl rfl ?_
      refine ⟨by simp [op_lose, q, q2, ix_nI hu2], ?_, frM.rf.up (by decide)⟩
      have := hA.sh (k := u) (M' := pv_up M 46 u (-1)) (s := (false, (a.2.2.1 u).2)) (c := a.2.2.2.1 u) ⟨fun z => (by cases z), fun _ => (by simp [pv_up_at])⟩ (fun p hp => pv_up_o (fun z => hp (by rw [z]; decide))) (fun x hx => ⟨pv_up_p (fun z => hx z.2), pv_up_p (by simp)⟩) (fun x _ hx i _ => pv_up_p (by simp))
      simpa [op_lose, q, q2, ix_nI hu2] using this
    · have q2 : (a.2.2.1 u).1 = false := (s_szM (hSh u (by omega))).mp (Classical.not_not.mp (fun z => h15 (v_gez.mpr z)))
      refine PW_iconst (pc' := 19) dX7_lose_18 rfl (v := 0) (by first | rfl | decide) ?_
      refine PW_goto (tgt := 23) dX7_lose_19 rfl ?_
      refine PW_istore2 (pc' := 24) dX7_lose_23 rfl rfl rfl ?_
      refine PW_aload0 (pc' := 25) dX7_lose_24 rfl ?_
      refine PW_getR (pc' := 28) dX7_lose_25 rfl fX7_59 rfl rfl ?_
      refine PW_iload1 (pc' := 29) dX7_lose_28 rfl ?_
      refine PW_iconst (pc' := 30) dX7_lose_29 rfl (v := -1) (by first | rfl | decide) ?_
      refine PW_iastn (pc' := 31) dX7_lose_30 rfl rfl rfl (by omega) ?_
      refine PW_iload2 (pc' := 32) dX7_lose_31 rfl ?_
      refine PW_ireturn .int dX7_lose_32 rfl rfl ?_
      refine ⟨by simp [op_lose, q, q2, ix_nI hu2], ?_, frM.rf.up (by decide)⟩
      have := hA.sh (k := u) (M' := pv_up M 46 u (-1)) (s := (false, (a.2.2.1 u).2)) (c := a.2.2.2.1 u) ⟨fun z => (by cases z), fun _ => (by simp [pv_up_at])⟩ (fun p hp => pv_up_o (fun z => hp (by rw [z]; decide))) (fun x hx => ⟨pv_up_p (fun z => hx z.2), pv_up_p (by simp)⟩) (fun x _ hx i _ => pv_up_p (by simp))
      simpa [op_lose, q, q2, ix_nI hu2] using this
  · have q := bn_t h4
    refine PW_iconst (pc' := 8) dX7_lose_7 rfl (v := -1) (by first | rfl | decide) ?_
    refine PW_ireturn .int dX7_lose_8 rfl rfl ?_
    exact ⟨by simp [op_lose, q], by simpa [op_lose, q] using hA, frM.rf⟩
set_option maxHeartbeats 4000000 in
theorem c_X7_put {Γ : pv_G} {d : Nat} {M : pv_M} {a : s_A} {k i v : Int32} (hA : AM M a) : Ct Γ (d + 2) vX7_put [.ref 29, .int k, .int i, .int v] M (o_M (op_put k i v a) M) := by
  obtain ⟨hH, hR, hSh, hfl, htr, hnv⟩ := id hA
  obtain ⟨hok, hc1, hc2, hc3, hf⟩ := id hH
  have hn5 := hok.1
  have hf0 := fun t ht => hf t ht 0 (by decide)
  have hf2 := fun t ht => hf t ht 2 (by decide)
  have hf4 := fun t ht => hf t ht 4 (by decide)
  refine Ct.of oX7_put.1 rfl (pad := 0) rfl ?_
  show PW Γ (d + 2) vX7_put 0 [.ref 29, .int k, .int i, .int v] [] M _
  refine PW_iload1 (pc' := 1) dX7_put_0 rfl ?_
  refine PW_callS1f (pc' := 4) dX7_put_1 rfl oX7_noSheet lX7_120 (Nat.le_of_ble_eq_true rfl) (c_X7_noSheet) ?_
  refine PW_if_eq (tgt := 13) (pc' := 7) dX7_put_4 rfl rfl (fun h4 => ?_) (fun h4 => ?_)
  · have q := bn_f h4
    obtain ⟨u, hu, rfl⟩ := s_rng_of (n := 3) q
    have hu2 : u < 2 ^ 31 := by omega
    have hle := s_foc_le (a.2.2.1 u) (nI (a.2.2.1 u).2.1) i 1
    refine PW_aload0 (pc' := 14) dX7_put_13 rfl ?_
    refine PW_iload1 (pc' := 15) dX7_put_14 rfl ?_
    refine PW_iload2 (pc' := 16) dX7_put_15 rfl ?_
    refine PW_callV2f (pc' := 19) dX7_put_16 rfl oX7_noCell lX7_233 rfl rfl rfl (Nat.le_of_ble_eq_true rfl) (c_X7_noCell (show u < 4 by omega) (hSh u (by omega))) ?_
    refine PW_if_le (tgt := 33) (pc' := 22) dX7_put_19 rfl rfl (fun h19 => ?_) (fun h19 => ?_)
    · have q2 : s_foc (a.2.2.1 u) (nI (a.2.2.1 u).2.1) i 1 = 0 := by
        rcases Nat.eq_zero_or_pos (s_foc (a.2.2.1 u) (nI (a.2.2.1 u).2.1) i 1) with z | z
        · exact z
        · exact absurd h19 (nI_nle z (by omega))
      obtain ⟨g1, g2, g3⟩ := s_foc_0 q2
      obtain ⟨t1, t2, t3, t4, t5⟩ := (hSh u (by omega)).1 g1
      obtain ⟨-, -, w3, w4, -⟩ := s_hol_of g3
      rw [ix_1] at w3
      generalize hix : ix i = y at w3 w4
      subst w4
      refine PW_aload0 (pc' := 34) dX7_put_33 rfl ?_
      refine PW_getR (pc' := 37) dX7_put_34 rfl fX7_65 rfl rfl ?_
      refine PW_bipush (pc' := 39) dX7_put_37 rfl (v := nI 60) (by first | rfl | decide) ?_
      refine PW_iload1 (pc' := 40) dX7_put_39 rfl ?_
      refine PW_imul (pc' := 41) dX7_put_40 rfl ?_
      rw [nI_mul]
      refine PW_iload2 (pc' := 42) dX7_put_41 rfl ?_
      refine PW_iadd (pc' := 43) dX7_put_42 rfl ?_
      rw [nI_add]
      refine PW_aload0 (pc' := 44) dX7_put_43 rfl ?_
      refine PW_getR (pc' := 47) dX7_put_44 rfl fX7_62 rfl rfl ?_
      refine PW_iload1 (pc' := 48) dX7_put_47 rfl ?_
      refine PW_ialdn (pc' := 49) dX7_put_48 rfl rfl rfl (by omega) ?_
      rw [t3]
      refine PW_if_ne (tgt := 57) (pc' := 52) dX7_put_49 rfl rfl (fun h49 => ?_) (fun h49 => ?_)
      · refine PW_aload0 (pc' := 58) dX7_put_57 rfl ?_
        refine PW_getR (pc' := 61) dX7_put_58 rfl fX7_62 rfl rfl ?_
        refine PW_iload1 (pc' := 62) dX7_put_61 rfl ?_
        refine PW_ialdn (pc' := 63) dX7_put_62 rfl rfl rfl (by omega) ?_
        refine PW_iconst (pc' := 64) dX7_put_63 rfl (v := 1) (by first | rfl | decide) ?_
        rw [t3]
        refine PW_icmp_ne (tgt := 72) (pc' := 67) dX7_put_64 rfl rfl (fun h64 => ?_) (fun h64 => ?_)
        · refine PW_iload3 (pc' := 73) dX7_put_72 rfl ?_
          refine PW_iastn (pc' := 74) dX7_put_73 rfl rfl rfl (show 60 * u + y < 240 by omega) ?_
          refine PW_aload0 (pc' := 75) dX7_put_74 rfl ?_
          refine PW_iconst (pc' := 76) dX7_put_75 rfl (v := 1) (by first | rfl | decide) ?_
          refine PW_callV1f (pc' := 79) dX7_put_76 rfl oX7_refused lX7_124 rfl rfl rfl (Nat.le_of_ble_eq_true rfl) (c_X7_refused) ?_
          refine PW_ireturn .int dX7_put_79 rfl rfl ?_
          refine ⟨by simp [op_put, q, ix_nI hu2, q2, hix], ?_, (frM.rf.up (by decide)).up (by decide)⟩
          have hv : ∀ w, w = v_cut (nI (a.2.2.1 u).2.1) v → AM (pv_up (pv_up M 48 (60 * u + y) w) 29 0 0) (op_put (nI u) (nI y) v a).2 := by
            intro w hw
            have := (hA.sh (k := u) (M' := pv_up M 48 (60 * u + y) w) (s := a.2.2.1 u) (c := fun x => if x = y then v_cut (nI (a.2.2.1 u).2.1) v else a.2.2.2.1 u x) ⟨fun z => ⟨t1, t2, t3, t4, fun x hx => ?_⟩, fun z => (by rw [g1] at z; cases z)⟩ (fun p hp => pv_up_o (fun z => hp (by rw [z]; decide))) (fun x hx => ⟨pv_up_p (by simp), pv_up_p (by simp)⟩) (fun x _ hx i _ => pv_up_p (fun z => by omega))).fault 0
            · simpa [op_put, q, ix_nI hu2, q2, a_flt, a_sh, hix] using this
            · rw [pv_up_at]
              by_cases hxi : x = y
              · rw [if_pos ⟨rfl, by omega⟩, hw]; simp [hxi]
              · rw [if_neg (fun z => hxi (by omega)), t5 x hx]; simp [hxi]
          have c2 := t4
          first
            | (refine hv _ ?_; simp [v_cut, h49]; done)
            | (refine hv _ ?_; simp [v_cut, h49, h64]; done)
          
        · refine PW_iload3 (pc' := 68) dX7_put_67 rfl ?_
          refine PW_i2s (pc' := 69) dX7_put_68 rfl ?_
          refine PW_goto (tgt := 73) dX7_put_69 rfl ?_
          refine PW_iastn (pc' := 74) dX7_put_73 rfl rfl rfl (show 60 * u + y < 240 by omega) ?_
          refine PW_aload0 (pc' := 75) dX7_put_74 rfl ?_
          refine PW_iconst (pc' := 76) dX7_put_75 rfl (v := 1) (by first | rfl | decide) ?_
          refine PW_callV1f (pc' := 79) dX7_put_76 rfl oX7_refused lX7_124 rfl rfl rfl (Nat.le_of_ble_eq_true rfl) (c_X7_refused) ?_
          refine PW_ireturn .int dX7_put_79 rfl rfl ?_
          refine ⟨by simp [op_put, q, ix_nI hu2, q2, hix], ?_, (frM.rf.up (by decide)).up (by decide)⟩
          have hv : ∀ w, w = v_cut (nI (a.2.2.1 u).2.1) v → AM (pv_up (pv_up M 48 (60 * u + y) w) 29 0 0) (op_put (nI u) (nI y) v a).2 := by
            intro w hw
            have := (hA.sh (k := u) (M' := pv_up M 48 (60 * u + y) w) (s := a.2.2.1 u) (c := fun x => if x = y then v_cut (nI (a.2.2.1 u).2.1) v else a.2.2.2.1 u x) ⟨fun z => ⟨t1, t2, t3, t4, fun x hx => ?_⟩, fun z => (by rw [g1] at z; cases z)⟩ (fun p hp => pv_up_o (fun z => hp (by rw [z]; decide))) (fun x hx => ⟨pv_up_p (by simp), pv_up_p (by simp)⟩) (fun x _ hx i _ => pv_up_p (fun z => by omega))).fault 0
            · simpa [op_put, q, ix_nI hu2, q2, a_flt, a_sh, hix] using this
            · rw [pv_up_at]
              by_cases hxi : x = y
              · rw [if_pos ⟨rfl, by omega⟩, hw]; simp [hxi]
              · rw [if_neg (fun z => hxi (by omega)), t5 x hx]; simp [hxi]
          have c2 := t4
          first
            | (refine hv _ ?_; simp [v_cut, h49]; done)
            | (refine hv _ ?_; simp [v_cut, h49, h64]; done)
          
      · refine PW_iload3 (pc' := 53) dX7_put_52 rfl ?_
        refine PW_i2b (pc' := 54) dX7_put_53 rfl ?_
        refine PW_goto (tgt := 73) dX7_put_54 rfl ?_
        refine PW_iastn (pc' := 74) dX7_put_73 rfl rfl rfl (show 60 * u + y < 240 by omega) ?_
        refine PW_aload0 (pc' := 75) dX7_put_74 rfl ?_
        refine PW_iconst (pc' := 76) dX7_put_75 rfl (v := 1) (by first | rfl | decide) ?_
        refine PW_callV1f (pc' := 79) dX7_put_76 rfl oX7_refused lX7_124 rfl rfl rfl (Nat.le_of_ble_eq_true rfl) (c_X7_refused) ?_
        refine PW_ireturn .int dX7_put_79 rfl rfl ?_
        refine ⟨by simp [op_put, q, ix_nI hu2, q2, hix], ?_, (frM.rf.up (by decide)).up (by decide)⟩
        have hv : ∀ w, w = v_cut (nI (a.2.2.1 u).2.1) v → AM (pv_up (pv_up M 48 (60 * u + y) w) 29 0 0) (op_put (nI u) (nI y) v a).2 := by
          intro w hw
          have := (hA.sh (k := u) (M' := pv_up M 48 (60 * u + y) w) (s := a.2.2.1 u) (c := fun x => if x = y then v_cut (nI (a.2.2.1 u).2.1) v else a.2.2.2.1 u x) ⟨fun z => ⟨t1, t2, t3, t4, fun x hx => ?_⟩, fun z => (by rw [g1] at z; cases z)⟩ (fun p hp => pv_up_o (fun z => hp (by rw [z]; decide))) (fun x hx => ⟨pv_up_p (by simp), pv_up_p (by simp)⟩) (fun x _ hx i _ => pv_up_p (fun z => by omega))).fault 0
          · simpa [op_put, q, ix_nI hu2, q2, a_flt, a_sh, hix] using this
          · rw [pv_up_at]
            by_cases hxi : x = y
            · rw [if_pos ⟨rfl, by omega⟩, hw]; simp [hxi]
            · rw [if_neg (fun z => hxi (by omega)), t5 x hx]; simp [hxi]
        have c2 := t4
        first
          | (refine hv _ ?_; simp [v_cut, h49]; done)
          | (refine hv _ ?_; simp [v_cut, h49, h64]; done)
        
    · have q2 : ¬ s_foc (a.2.2.1 u) (nI (a.2.2.1 u).2.1) i 1 = 0 := fun z => h19 (by rw [z]; decide)
      refine PW_aload0 (pc' := 23) dX7_put_22 rfl ?_
      refine PW_aload0 (pc' := 24) dX7_put_23 rfl ?_
      refine PW_iload1 (pc' := 25) dX7_put_24 rfl ?_
      refine PW_iload2 (pc' := 26) dX7_put_25 rfl ?_
      refine PW_callV2f (pc' := 29) dX7_put_26 rfl oX7_noCell lX7_233 rfl rfl rfl (Nat.le_of_ble_eq_true rfl) (c_X7_noCell (show u < 4 by omega) (hSh u (by omega))) ?_
      refine PW_callV1f (pc' := 32) dX7_put_29 rfl oX7_failed lX7_112 rfl rfl rfl (Nat.le_of_ble_eq_true rfl) (c_X7_failed) ?_
      refine PW_ireturn .int dX7_put_32 rfl rfl ?_
      exact ⟨by simp [op_put, q, ix_nI hu2, q2], by simpa [op_put, q, ix_nI hu2, q2] using hA.fault (nI (s_foc (a.2.2.1 u) (nI (a.2.2.1 u).2.1) i 1)), frM.rf.up (by decide)⟩
  · have q := bn_t h4
    refine PW_aload0 (pc' := 8) dX7_put_7 rfl ?_
    refine PW_iconst (pc' := 9) dX7_put_8 rfl (v := -1) (by first | rfl | decide) ?_
    refine PW_callV1f (pc' := 12) dX7_put_9 rfl oX7_refused lX7_124 rfl rfl rfl (Nat.le_of_ble_eq_true rfl) (c_X7_refused) ?_
    refine PW_ireturn .int dX7_put_12 rfl rfl ?_
    exact ⟨by simp [op_put, q], by simpa [op_put, q] using hA.fault 0, frM.rf.up (by decide)⟩
