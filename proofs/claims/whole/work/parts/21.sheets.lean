/-! the class: sheets; six cells as a round; a museum by a text -/
def a_sh (a : s_A) (k : Nat) (s : Bool × Nat × Nat) (c : Nat → Int32) : s_A := (a.1, a.2.1, fun x => if x = k then s else a.2.2.1 x, fun x => if x = k then c else a.2.2.2.1 x, a.2.2.2.2.1, a.2.2.2.2.2)
theorem AX.sh {M M' : pv_M} {a : s_A} {k : Nat} {s : Bool × Nat × Nat} {c : Nat → Int32} (h : AX M a) (hk : k < 4) (hs : s_sh M' k s c) (hf : fr [2 + k, 6 + k] M M') : AX M' (a_sh a k s c) := by
  obtain ⟨h1, h2, h3, h4, h5⟩ := h
  refine ⟨h1.of (hf 10 (by simp; omega)) (fun t ht => hf _ (by simp; omega)), h2.fr hf (by simp; omega), fun x hx => ?_, by rw [hf 0 (by simp; omega)]; exact h4, by rw [hf 0 (by simp; omega)]; exact h5⟩
  simp only [a_sh]
  by_cases hxk : x = k
  · subst hxk
    simpa using hs
  · simp only [if_neg hxk]
    unfold s_sh
    rw [hf (2 + x) (by simp; omega), hf (6 + x) (by simp; omega)]
    exact h3 x hx
def v_lost : Int64 := -9223372036854775808
def op_sheet (k l n : Int32) (a : s_A) : s_O := if s_rng k 0 3 = true then (if s_rng l 0 2 = true ∧ n.toInt ≤ 60 then (if n.toInt < 0 then (-14, a_flt a 4) else (1, a_sh (a_flt a 0) (ix k) (true, ix l, ix n) (fun _ => 0))) else (-2, a_flt a 0)) else (-1, a_flt a 0)
def op_lose (k : Int32) (a : s_A) : s_O := if s_rng k 0 3 = true then ((if (a.2.2.1 (ix k)).1 = true then 1 else 0), a_sh a (ix k) (false, (a.2.2.1 (ix k)).2) (a.2.2.2.1 (ix k))) else (-1, a)
def op_put (k i v : Int32) (a : s_A) : s_O := if s_rng k 0 3 = true then
  (if s_foc (a.2.2.1 (ix k)) (nI (a.2.2.1 (ix k)).2.1) i 1 = 0 then (1, a_sh (a_flt a 0) (ix k) (a.2.2.1 (ix k)) (fun x => if x = ix i then v_cut (nI (a.2.2.1 (ix k)).2.1) v else a.2.2.2.1 (ix k) x))
   else (-10 - nI (s_foc (a.2.2.1 (ix k)) (nI (a.2.2.1 (ix k)).2.1) i 1), a_flt a (nI (s_foc (a.2.2.1 (ix k)) (nI (a.2.2.1 (ix k)).2.1) i 1)))) else (-1, a_flt a 0)
def op_cell (k i l : Int32) (a : s_A) : Int64 × s_A := if s_rng k 0 3 = true ∧ s_rng l 0 2 = true then
  (if s_foc (a.2.2.1 (ix k)) l i 1 = 0 then ((a.2.2.2.1 (ix k) (ix i)).toInt64, a_flt a 0) else (v_lost, a_flt a (nI (s_foc (a.2.2.1 (ix k)) l i 1)))) else (v_lost, a_flt a 0)
def op_copy (k i o j n : Int32) (a : s_A) : s_O := if s_rng k 0 3 = true ∧ s_rng o 0 3 = true then
  (if (a.2.2.1 (ix k)).1 = true ∧ (a.2.2.1 (ix o)).1 = true then
    (if (a.2.2.1 (ix k)).2.1 = (a.2.2.1 (ix o)).2.1 then
      (if s_hol (a.2.2.1 (ix k)).2.2 i n = true ∧ s_hol (a.2.2.1 (ix o)).2.2 j n = true then (n, a_sh (a_flt a 0) (ix o) (a.2.2.1 (ix o)) (va_cpy (a.2.2.2.1 (ix k)) (a.2.2.2.1 (ix o)) (ix i) (ix j) (ix n))) else (-13, a_flt a 3))
     else (-12, a_flt a 2)) else (-11, a_flt a 1)) else (-1, a_flt a 0)
theorem s_hol_of {len : Nat} {i n : Int32} (h : s_hol len i n = true) : 0 ≤ i.toInt ∧ 0 ≤ n.toInt ∧ ix i + ix n ≤ len ∧ i = nI (ix i) ∧ n = nI (ix n) := by
  simp only [s_hol, decide_eq_true_eq] at h
  have e1 : (ix i : Int) = i.toInt := by simp only [ix, Int32.toNatClampNeg]; omega
  have e2 : (ix n : Int) = n.toInt := by simp only [ix, Int32.toNatClampNeg]; omega
  have b1 := i.toInt_lt
  have b2 := n.toInt_lt
  exact ⟨h.1, h.2.1, by omega, Int32.toInt_inj.mp (by rw [nI_toInt (by omega)]; omega), Int32.toInt_inj.mp (by rw [nI_toInt (by omega)]; omega)⟩
theorem s_foc_0 {s : Bool × Nat × Nat} {l i n : Int32} (h : s_foc s l i n = 0) : s.1 = true ∧ nI s.2.1 = l ∧ s_hol s.2.2 i n = true := by
  unfold s_foc at h
  by_cases h1 : s.1 = false
  · rw [if_pos h1] at h; omega
  · rw [if_neg h1] at h
    by_cases h2 : nI s.2.1 = l
    · rw [if_neg (fun z => z h2)] at h
      by_cases h3 : n.toInt < 0
      · rw [if_pos h3] at h; omega
      · rw [if_neg h3] at h
        by_cases h4 : 0 ≤ i.toInt ∧ i.toInt + n.toInt ≤ s.2.2
        · exact ⟨by simpa using h1, h2, by simp only [s_hol, decide_eq_true_eq]; omega⟩
        · rw [if_neg h4] at h; omega
    · rw [if_pos h2] at h; omega
theorem ix_1 : ix 1 = 1 := by decide
set_option maxHeartbeats 4000000 in
theorem c_X6_sheet {Γ : pv_G} {d : Nat} {M : pv_M} {a : s_A} {k l n : Int32} (hA : AX M a) : Ct Γ (d + 1) vX6_sheet [.ref 0, .int k, .int l, .int n] M (o_X (op_sheet k l n a) M) := by
  obtain ⟨hH, hR, hSh, hfl, htr⟩ := id hA
  obtain ⟨hok, hc1, hc2, hc3, hf⟩ := id hH
  have hn5 := hok.1
  refine Ct.of oX6_sheet.1 rfl (pad := 0) rfl ?_
  show PW Γ (d + 1) vX6_sheet 0 [.ref 0, .int k, .int l, .int n] [] M _
  refine PW_aload0 (pc' := 1) dX6_sheet_0 rfl ?_
  refine PW_iconst (pc' := 2) dX6_sheet_1 rfl (v := 0) (by first | rfl | decide) ?_
  refine PW_putI (pc' := 5) dX6_sheet_2 rfl fX6_43 w5_5 rfl rfl ?_
  generalize hM1 : pv_up M 0 5 0 = M1
  have hA1 : AX M1 (a_flt a 0) := by rw [← hM1]; exact hA.fault 0
  have hF1 : frX M M1 := by rw [← hM1]; exact frX.rf.up (by decide)
  have hH1 : HX M1 a.1 := hA1.1
  have hc11 : M1 10 1 = nI a.1.1 := hH1.2.1
  have hS1 : ∀ k, k < 4 → s_sh M1 k (a.2.2.1 k) (a.2.2.2.1 k) := hA1.2.2.1
  refine PW_iload1 (pc' := 6) dX6_sheet_5 rfl ?_
  refine PW_callS1f (pc' := 9) dX6_sheet_6 rfl oX6_isSheet lX6_47 (Nat.le_of_ble_eq_true rfl) (c_X6_isSheet) ?_
  refine PW_if_ne (tgt := 14) (pc' := 12) dX6_sheet_9 rfl rfl (fun h9 => ?_) (fun h9 => ?_)
  · have q := bi_t h9
    obtain ⟨u, hu, rfl⟩ := s_rng_of (n := 3) q
    have hu2 : u < 2 ^ 31 := by omega
    refine PW_iload2 (pc' := 15) dX6_sheet_14 rfl ?_
    refine PW_callS1f (pc' := 18) dX6_sheet_15 rfl oX6_isLane lX6_51 (Nat.le_of_ble_eq_true rfl) (c_X6_isLane) ?_
    refine PW_if_eq (tgt := 27) (pc' := 21) dX6_sheet_18 rfl rfl (fun h18 => ?_) (fun h18 => ?_)
    · have q2 := bi_f h18
      refine PW_bipush (pc' := 29) dX6_sheet_27 rfl (v := -2) (by first | rfl | decide) ?_
      refine PW_ireturn .int dX6_sheet_29 rfl rfl ?_
      first
        | exact ⟨by simp [op_sheet, q, q2], by simpa [op_sheet, q, q2] using hA1, hF1⟩
        | exact ⟨by simp [op_sheet, q, q2, h24], by simpa [op_sheet, q, q2, h24] using hA1, hF1⟩
    · have q2 := bi_t h18
      obtain ⟨x, hx, rfl⟩ := s_rng_of (n := 2) q2
      have hx2 : x < 2 ^ 31 := by omega
      refine PW_iload3 (pc' := 22) dX6_sheet_21 rfl ?_
      refine PW_bipush (pc' := 24) dX6_sheet_22 rfl (v := nI 60) (by first | rfl | decide) ?_
      refine PW_icmp_le (tgt := 30) (pc' := 27) dX6_sheet_24 rfl rfl (fun h24 => ?_) (fun h24 => ?_)
      · simp only [Int32.lt_iff_toInt_lt, Int32.le_iff_toInt_le, nI_toInt (show 60 < 2 ^ 31 by decide), Int.cast_ofNat_Int] at h24
        refine PW_iload3 (pc' := 31) dX6_sheet_30 rfl ?_
        refine PW_if_ge (tgt := 40) (pc' := 34) dX6_sheet_31 rfl rfl (fun h31 => ?_) (fun h31 => ?_)
        · have h31 : ¬ n.toInt < 0 := fun z => absurd (z_lt.mpr z) (Int32.not_lt.mpr h31)
          refine PW_aload0 (pc' := 41) dX6_sheet_40 rfl ?_
          refine PW_getR (pc' := 44) dX6_sheet_41 rfl fX6_13 rfl rfl ?_
          refine PW_iload1 (pc' := 45) dX6_sheet_44 rfl ?_
          refine PW_aald2 (pc' := 46) dX6_sheet_45 rfl (by omega) ?_
          refine PW_iload2 (pc' := 47) dX6_sheet_46 rfl ?_
          refine PW_iload3 (pc' := 48) dX6_sheet_47 rfl ?_
          refine PW_callV2w (pc' := 51) dX6_sheet_48 rfl oX3_begin lX6_198 (pv_lay_sheet (by omega)) rfl rfl (Nat.le_of_ble_eq_true rfl) (c_X3_begin (show u < 4 by omega)) (fun M2 hM2 => ?_)
          refine PW_iconst (pc' := 52) dX6_sheet_51 rfl (v := 1) (by first | rfl | decide) ?_
          refine PW_ireturn .int dX6_sheet_52 rfl rfl ?_
          obtain ⟨b1, b2, b3, b4, b5⟩ := hM2
          have hn : n = nI (ix n) := Int32.toInt_inj.mp (by
            have e1 : (ix n : Int) = n.toInt := by simp only [ix, Int32.toNatClampNeg]; omega
            rw [nI_toInt (by omega)]; omega)
          have hn6 : ix n ≤ 60 := by
            have e1 : (ix n : Int) = n.toInt := by simp only [ix, Int32.toNatClampNeg]; omega
            omega
          refine ⟨by simp [op_sheet, q, q2, h24, h31], ?_, hF1.tr (frX.of b5 (by simp; omega))⟩
          have := hA1.sh (k := u) (s := (true, x, ix n)) (c := fun _ => 0) (by omega) ⟨b1, fun _ => ⟨b2, by show x ≤ 2; omega, b3.trans hn, hn6, fun i hi => b4 i (by have : ix n ≤ 60 := hn6; have hi : i < ix n := hi; omega)⟩⟩ b5
          simpa [op_sheet, q, q2, h24, h31, ix_nI hu2, ix_nI hx2] using this
        · have h31 : n.toInt < 0 := z_lt.mp (Int32.not_le.mp h31)
          refine PW_aload0 (pc' := 35) dX6_sheet_34 rfl ?_
          refine PW_iconst (pc' := 36) dX6_sheet_35 rfl (v := 4) (by first | rfl | decide) ?_
          refine PW_callV1f (pc' := 39) dX6_sheet_36 rfl oX6_answerFault lX6_58 rfl rfl rfl (Nat.le_of_ble_eq_true rfl) (c_X6_answerFault) ?_
          refine PW_ireturn .int dX6_sheet_39 rfl rfl ?_
          exact ⟨by simp [op_sheet, q, q2, h24, h31], by simpa [op_sheet, q, q2, h24, h31, a_flt] using hA1.fault 4, hF1.up (by decide)⟩
      · simp only [Int32.lt_iff_toInt_lt, Int32.le_iff_toInt_le, nI_toInt (show 60 < 2 ^ 31 by decide), Int.cast_ofNat_Int] at h24
        refine PW_bipush (pc' := 29) dX6_sheet_27 rfl (v := -2) (by first | rfl | decide) ?_
        refine PW_ireturn .int dX6_sheet_29 rfl rfl ?_
        first
          | exact ⟨by simp [op_sheet, q, q2], by simpa [op_sheet, q, q2] using hA1, hF1⟩
          | exact ⟨by simp [op_sheet, q, q2, h24], by simpa [op_sheet, q, q2, h24] using hA1, hF1⟩
  · have q := bi_f h9
    refine PW_iconst (pc' := 13) dX6_sheet_12 rfl (v := -1) (by first | rfl | decide) ?_
    refine PW_ireturn .int dX6_sheet_13 rfl rfl ?_
    exact ⟨by simp [op_sheet, q], by simpa [op_sheet, q] using hA1, hF1⟩
set_option maxHeartbeats 4000000 in
theorem c_X6_lose {Γ : pv_G} {d : Nat} {M : pv_M} {a : s_A} {k : Int32} (hA : AX M a) : Ct Γ (d + 1) vX6_lose [.ref 0, .int k] M (o_X (op_lose k a) M) := by
  obtain ⟨hH, hR, hSh, hfl, htr⟩ := id hA
  obtain ⟨hok, hc1, hc2, hc3, hf⟩ := id hH
  have hn5 := hok.1
  refine Ct.of oX6_lose.1 rfl (pad := 1) rfl ?_
  show PW Γ (d + 1) vX6_lose 0 [.ref 0, .int k, .null] [] M _
  refine PW_iload1 (pc' := 1) dX6_lose_0 rfl ?_
  refine PW_callS1f (pc' := 4) dX6_lose_1 rfl oX6_isSheet lX6_47 (Nat.le_of_ble_eq_true rfl) (c_X6_isSheet) ?_
  refine PW_if_ne (tgt := 9) (pc' := 7) dX6_lose_4 rfl rfl (fun h4 => ?_) (fun h4 => ?_)
  · have q := bi_t h4
    obtain ⟨u, hu, rfl⟩ := s_rng_of (n := 3) q
    have hu2 : u < 2 ^ 31 := by omega
    refine PW_aload0 (pc' := 10) dX6_lose_9 rfl ?_
    refine PW_getR (pc' := 13) dX6_lose_10 rfl fX6_13 rfl rfl ?_
    refine PW_iload1 (pc' := 14) dX6_lose_13 rfl ?_
    refine PW_aald2 (pc' := 15) dX6_lose_14 rfl (by omega) ?_
    refine PW_getI (pc' := 18) dX6_lose_15 rfl fX6_202 (pv_lay_sheet (by omega)) rfl ?_
    refine PW_if_eq (tgt := 25) (pc' := 21) dX6_lose_18 rfl rfl (fun h18 => ?_) (fun h18 => ?_)
    · rw [(hSh u (by omega)).1] at h18
      have q2 := bi_f h18
      refine PW_iconst (pc' := 26) dX6_lose_25 rfl (v := 0) (by first | rfl | decide) ?_
      refine PW_istore2 (pc' := 27) dX6_lose_26 rfl rfl rfl ?_
      refine PW_aload0 (pc' := 28) dX6_lose_27 rfl ?_
      refine PW_getR (pc' := 31) dX6_lose_28 rfl fX6_13 rfl rfl ?_
      refine PW_iload1 (pc' := 32) dX6_lose_31 rfl ?_
      refine PW_aald2 (pc' := 33) dX6_lose_32 rfl (by omega) ?_
      refine PW_iconst (pc' := 34) dX6_lose_33 rfl (v := 0) (by first | rfl | decide) ?_
      refine PW_putG .boolean (by first | rfl | exact bi_nar _) (by first | rfl | simp [fits]) (pc' := 37) dX6_lose_34 rfl fX6_202 w3_1 (pv_lay_sheet (by omega)) rfl ?_
      refine PW_iload2 (pc' := 38) dX6_lose_37 rfl ?_
      refine PW_ireturn .int dX6_lose_38 rfl rfl ?_
      refine ⟨by simp [op_lose, q, q2, ix_nI hu2], ?_, frX.rf.up (by omega)⟩
      have := hA.sh (k := u) (M' := pv_up M (2 + u) 1 0) (s := (false, (a.2.2.1 u).2)) (c := a.2.2.2.1 u) (by omega) ⟨by simp [pv_up_at, bi], fun z => by cases z⟩ (fr.up fr.rf (by simp))
      simpa [op_lose, q, q2, ix_nI hu2] using this
    · rw [(hSh u (by omega)).1] at h18
      have q2 := bi_t h18
      refine PW_iconst (pc' := 22) dX6_lose_21 rfl (v := 1) (by first | rfl | decide) ?_
      refine PW_goto (tgt := 26) dX6_lose_22 rfl ?_
      refine PW_istore2 (pc' := 27) dX6_lose_26 rfl rfl rfl ?_
      refine PW_aload0 (pc' := 28) dX6_lose_27 rfl ?_
      refine PW_getR (pc' := 31) dX6_lose_28 rfl fX6_13 rfl rfl ?_
      refine PW_iload1 (pc' := 32) dX6_lose_31 rfl ?_
      refine PW_aald2 (pc' := 33) dX6_lose_32 rfl (by omega) ?_
      refine PW_iconst (pc' := 34) dX6_lose_33 rfl (v := 0) (by first | rfl | decide) ?_
      refine PW_putG .boolean (by first | rfl | exact bi_nar _) (by first | rfl | simp [fits]) (pc' := 37) dX6_lose_34 rfl fX6_202 w3_1 (pv_lay_sheet (by omega)) rfl ?_
      refine PW_iload2 (pc' := 38) dX6_lose_37 rfl ?_
      refine PW_ireturn .int dX6_lose_38 rfl rfl ?_
      refine ⟨by simp [op_lose, q, q2, ix_nI hu2], ?_, frX.rf.up (by omega)⟩
      have := hA.sh (k := u) (M' := pv_up M (2 + u) 1 0) (s := (false, (a.2.2.1 u).2)) (c := a.2.2.2.1 u) (by omega) ⟨by simp [pv_up_at, bi], fun z => by cases z⟩ (fr.up fr.rf (by simp))
      simpa [op_lose, q, q2, ix_nI hu2] using this
  · have q := bi_f h4
    refine PW_iconst (pc' := 8) dX6_lose_7 rfl (v := -1) (by first | rfl | decide) ?_
    refine PW_ireturn .int dX6_lose_8 rfl rfl ?_
    exact ⟨by simp [op_lose, q], by simpa [op_lose, q] using hA, frX.rf⟩
set_option maxHeartbeats 4000000 in
theorem c_X6_put {Γ : pv_G} {d : Nat} {M : pv_M} {a : s_A} {k i v : Int32} (hA : AX M a) : Ct Γ (d + 2) vX6_put [.ref 0, .int k, .int i, .int v] M (o_X (op_put k i v a) M) := by
  obtain ⟨hH, hR, hSh, hfl, htr⟩ := id hA
  obtain ⟨hok, hc1, hc2, hc3, hf⟩ := id hH
  have hn5 := hok.1
  refine Ct.of oX6_put.1 rfl (pad := 2) rfl ?_
  show PW Γ (d + 2) vX6_put 0 [.ref 0, .int k, .int i, .int v, .null, .null] [] M _
  refine PW_aload0 (pc' := 1) dX6_put_0 rfl ?_
  refine PW_iconst (pc' := 2) dX6_put_1 rfl (v := 0) (by first | rfl | decide) ?_
  refine PW_putI (pc' := 5) dX6_put_2 rfl fX6_43 w5_5 rfl rfl ?_
  generalize hM1 : pv_up M 0 5 0 = M1
  have hA1 : AX M1 (a_flt a 0) := by rw [← hM1]; exact hA.fault 0
  have hF1 : frX M M1 := by rw [← hM1]; exact frX.rf.up (by decide)
  have hH1 : HX M1 a.1 := hA1.1
  have hc11 : M1 10 1 = nI a.1.1 := hH1.2.1
  have hS1 : ∀ k, k < 4 → s_sh M1 k (a.2.2.1 k) (a.2.2.2.1 k) := hA1.2.2.1
  refine PW_iload1 (pc' := 6) dX6_put_5 rfl ?_
  refine PW_callS1f (pc' := 9) dX6_put_6 rfl oX6_isSheet lX6_47 (Nat.le_of_ble_eq_true rfl) (c_X6_isSheet) ?_
  refine PW_if_ne (tgt := 14) (pc' := 12) dX6_put_9 rfl rfl (fun h9 => ?_) (fun h9 => ?_)
  · have q := bi_t h9
    obtain ⟨u, hu, rfl⟩ := s_rng_of (n := 3) q
    have hu2 : u < 2 ^ 31 := by omega
    refine PW_aload0 (pc' := 15) dX6_put_14 rfl ?_
    refine PW_getR (pc' := 18) dX6_put_15 rfl fX6_13 rfl rfl ?_
    refine PW_iload1 (pc' := 19) dX6_put_18 rfl ?_
    refine PW_aald2 (pc' := 20) dX6_put_19 rfl (by omega) ?_
    refine PW_astore4 (pc' := 22) dX6_put_20 rfl rfl rfl ?_
    refine PW_aload4 (pc' := 24) dX6_put_22 rfl ?_
    refine PW_aload4 (pc' := 26) dX6_put_24 rfl ?_
    refine PW_getI (pc' := 29) dX6_put_26 rfl fX6_206 (pv_lay_sheet (by omega)) rfl ?_
    refine PW_iload2 (pc' := 30) dX6_put_29 rfl ?_
    refine PW_iconst (pc' := 31) dX6_put_30 rfl (v := 1) (by first | rfl | decide) ?_
    refine PW_callV3f (pc' := 34) dX6_put_31 rfl oX3_faultOfCells lX6_54 (pv_lay_sheet (by omega)) rfl rfl (Nat.le_of_ble_eq_true rfl) (c_X3_faultOfCells (show u < 4 by omega)) ?_
    have hfo : v_foc (M1 (2 + u) 1) (M1 (2 + u) 2) (M1 (2 + u) 3) (M1 (2 + u) 2) i 1 = nI (s_foc (a.2.2.1 u) (nI (a.2.2.1 u).2.1) i 1) := by
      rw [v_foc_eq (hS1 u (by omega))]
      cases hs : (a.2.2.1 u).1 with
      | false => simp [s_foc, hs]
      | true => rw [((hS1 u (by omega)).2 hs).1]
    rw [hfo]
    have hle := s_foc_le (a.2.2.1 u) (nI (a.2.2.1 u).2.1) i 1
    refine PW_istore5 (pc' := 36) dX6_put_34 rfl rfl rfl ?_
    refine PW_iload5 (pc' := 38) dX6_put_36 rfl ?_
    refine PW_if_eq (tgt := 48) (pc' := 41) dX6_put_38 rfl rfl (fun h38 => ?_) (fun h38 => ?_)
    · have q2 : s_foc (a.2.2.1 u) (nI (a.2.2.1 u).2.1) i 1 = 0 := nI_inj (by omega) (by decide) h38
      refine PW_aload4 (pc' := 50) dX6_put_48 rfl ?_
      refine PW_getR (pc' := 53) dX6_put_50 rfl fX6_62 (pv_lay_sheet (by omega)) rfl ?_
      obtain ⟨g1, g2, g3⟩ := s_foc_0 q2
      obtain ⟨t1, t2, t3, t4, t5⟩ := (hS1 u (by omega)).2 g1
      obtain ⟨-, -, w3, w4, -⟩ := s_hol_of g3
      rw [ix_1] at w3
      refine PW_iload2 (pc' := 54) dX6_put_53 rfl ?_
      refine PW_aload4 (pc' := 56) dX6_put_54 rfl ?_
      refine PW_iload3 (pc' := 57) dX6_put_56 rfl ?_
      refine PW_callV1f (pc' := 60) dX6_put_57 rfl oX3_cut lX6_209 (pv_lay_sheet (by omega)) rfl rfl (Nat.le_of_ble_eq_true rfl) (c_X3_cut (show u < 4 by omega)) ?_
      refine PW_iast (pc' := 61) dX6_put_60 rfl (pv_lay_cells (by omega)) (by rw [w4]; exact vp_in_nI (by omega) (by decide)) ?_
      refine PW_iconst (pc' := 62) dX6_put_61 rfl (v := 1) (by first | rfl | decide) ?_
      refine PW_ireturn .int dX6_put_62 rfl rfl ?_
      refine ⟨by simp [op_put, q, ix_nI hu2, q2], ?_, hF1.up (by omega)⟩
      have hne : 2 + u ≠ 6 + u := by omega
      have := hA1.sh (k := u) (M' := pv_up M1 (6 + u) i.toNatClampNeg (v_cut (M1 (2 + u) 2) v)) (s := a.2.2.1 u) (c := fun x => if x = ix i then v_cut (nI (a.2.2.1 u).2.1) v else a.2.2.2.1 u x) (by omega) ⟨by rw [pv_up_o hne]; exact (hS1 u (by omega)).1, fun _ => ⟨by rw [pv_up_o hne]; exact t1, t2, by rw [pv_up_o hne]; exact t3, t4, fun x hx => by
            rw [pv_up_at, t1]
            by_cases hxi : x = ix i
            · rw [if_pos ⟨rfl, hxi⟩]; simp [hxi]
            · rw [if_neg (fun z => hxi z.2), t5 x hx]; simp [hxi]⟩⟩ (fr.up fr.rf (by simp))
      simpa [op_put, q, ix_nI hu2, q2] using this
    · have q2 : ¬ s_foc (a.2.2.1 u) (nI (a.2.2.1 u).2.1) i 1 = 0 := fun z => h38 (by rw [z]; rfl)
      refine PW_aload0 (pc' := 42) dX6_put_41 rfl ?_
      refine PW_iload5 (pc' := 44) dX6_put_42 rfl ?_
      refine PW_callV1f (pc' := 47) dX6_put_44 rfl oX6_answerFault lX6_58 rfl rfl rfl (Nat.le_of_ble_eq_true rfl) (c_X6_answerFault) ?_
      refine PW_ireturn .int dX6_put_47 rfl rfl ?_
      refine ⟨by simp [op_put, q, ix_nI hu2, q2], ?_, hF1.up (by decide)⟩
      simpa [op_put, q, ix_nI hu2, q2, a_flt] using hA1.fault (nI (s_foc (a.2.2.1 u) (nI (a.2.2.1 u).2.1) i 1))
  · have q := bi_f h9
    refine PW_iconst (pc' := 13) dX6_put_12 rfl (v := -1) (by first | rfl | decide) ?_
    refine PW_ireturn .int dX6_put_13 rfl rfl ?_
    exact ⟨by simp [op_put, q], by simpa [op_put, q] using hA1, hF1⟩
set_option maxHeartbeats 4000000 in
theorem c_X6_cell {Γ : pv_G} {d : Nat} {M : pv_M} {a : s_A} {k i l : Int32} (hA : AX M a) : Ct Γ (d + 2) vX6_cell [.ref 0, .int k, .int i, .int l] M (o_XL (op_cell k i l a) M) := by
  obtain ⟨hH, hR, hSh, hfl, htr⟩ := id hA
  obtain ⟨hok, hc1, hc2, hc3, hf⟩ := id hH
  have hn5 := hok.1
  refine Ct.of oX6_cell.1 rfl (pad := 0) rfl ?_
  show PW Γ (d + 2) vX6_cell 0 [.ref 0, .int k, .int i, .int l] [] M _
  refine PW_aload0 (pc' := 1) dX6_cell_0 rfl ?_
  refine PW_iconst (pc' := 2) dX6_cell_1 rfl (v := 0) (by first | rfl | decide) ?_
  refine PW_putI (pc' := 5) dX6_cell_2 rfl fX6_43 w5_5 rfl rfl ?_
  generalize hM1 : pv_up M 0 5 0 = M1
  have hA1 : AX M1 (a_flt a 0) := by rw [← hM1]; exact hA.fault 0
  have hF1 : frX M M1 := by rw [← hM1]; exact frX.rf.up (by decide)
  have hH1 : HX M1 a.1 := hA1.1
  have hc11 : M1 10 1 = nI a.1.1 := hH1.2.1
  have hS1 : ∀ k, k < 4 → s_sh M1 k (a.2.2.1 k) (a.2.2.2.1 k) := hA1.2.2.1
  refine PW_iload1 (pc' := 6) dX6_cell_5 rfl ?_
  refine PW_callS1f (pc' := 9) dX6_cell_6 rfl oX6_isSheet lX6_47 (Nat.le_of_ble_eq_true rfl) (c_X6_isSheet) ?_
  refine PW_if_eq (tgt := 19) (pc' := 12) dX6_cell_9 rfl rfl (fun h9 => ?_) (fun h9 => ?_)
  · have q := bi_f h9
    refine PW_ldc2 (pc' := 22) dX6_cell_19 rfl qX6_190 ?_
    refine PW_lreturn dX6_cell_22 rfl ?_
    first
      | exact ⟨by simp [op_cell, q, v_lost], by simpa [op_cell, q] using hA1, hF1⟩
      | exact ⟨by simp [op_cell, q, q2, v_lost], by simpa [op_cell, q, q2] using hA1, hF1⟩
  · have q := bi_t h9
    obtain ⟨u, hu, rfl⟩ := s_rng_of (n := 3) q
    have hu2 : u < 2 ^ 31 := by omega
    refine PW_iload3 (pc' := 13) dX6_cell_12 rfl ?_
    refine PW_callS1f (pc' := 16) dX6_cell_13 rfl oX6_isLane lX6_51 (Nat.le_of_ble_eq_true rfl) (c_X6_isLane) ?_
    refine PW_if_ne (tgt := 23) (pc' := 19) dX6_cell_16 rfl rfl (fun h16 => ?_) (fun h16 => ?_)
    · have q2 := bi_t h16
      refine PW_aload0 (pc' := 24) dX6_cell_23 rfl ?_
      refine PW_aload0 (pc' := 25) dX6_cell_24 rfl ?_
      refine PW_getR (pc' := 28) dX6_cell_25 rfl fX6_13 rfl rfl ?_
      refine PW_iload1 (pc' := 29) dX6_cell_28 rfl ?_
      refine PW_aald2 (pc' := 30) dX6_cell_29 rfl (by omega) ?_
      refine PW_iload3 (pc' := 31) dX6_cell_30 rfl ?_
      refine PW_iload2 (pc' := 32) dX6_cell_31 rfl ?_
      refine PW_iconst (pc' := 33) dX6_cell_32 rfl (v := 1) (by first | rfl | decide) ?_
      refine PW_callV3f (pc' := 36) dX6_cell_33 rfl oX3_faultOfCells lX6_54 (pv_lay_sheet (by omega)) rfl rfl (Nat.le_of_ble_eq_true rfl) (c_X3_faultOfCells (show u < 4 by omega)) ?_
      rw [v_foc_eq (hS1 u (by omega))]
      have hle := s_foc_le (a.2.2.1 u) l i 1
      refine PW_putI (pc' := 39) dX6_cell_36 rfl fX6_43 w5_5 rfl rfl ?_
      refine PW_aload0 (pc' := 40) dX6_cell_39 rfl ?_
      refine PW_getI (pc' := 43) dX6_cell_40 rfl fX6_43 rfl rfl ?_
      rw [pv_up_at, if_pos ⟨rfl, rfl⟩]
      refine PW_if_ne (tgt := 61) (pc' := 46) dX6_cell_43 rfl rfl (fun h43 => ?_) (fun h43 => ?_)
      · have q3 : ¬ s_foc (a.2.2.1 u) l i 1 = 0 := fun z => h43 (by rw [z]; rfl)
        refine PW_ldc2 (pc' := 64) dX6_cell_61 rfl qX6_190 ?_
        refine PW_lreturn dX6_cell_64 rfl ?_
        first
          | exact ⟨by simp [op_cell, q, q2, q3, ix_nI hu2, v_lost], by simpa [op_cell, q, q2, q3, ix_nI hu2, a_flt] using hA1.fault (nI (s_foc (a.2.2.1 u) l i 1)), hF1.up (by decide)⟩
          | exact ⟨by simp [op_cell, q, q2, q3, ix_nI hu2]; rfl, by rw [q3, show nI 0 = (0 : Int32) from rfl]; simpa [op_cell, q, q2, q3, ix_nI hu2, a_flt] using hA1.fault 0, hF1.up (by decide)⟩
      · have q3 : s_foc (a.2.2.1 u) l i 1 = 0 := nI_inj (by omega) (by decide) h43
        obtain ⟨g1, g2, g3⟩ := s_foc_0 q3
        obtain ⟨t1, t2, t3, t4, t5⟩ := (hS1 u (by omega)).2 g1
        obtain ⟨-, -, w3, w4, -⟩ := s_hol_of g3
        rw [ix_1] at w3
        refine PW_aload0 (pc' := 47) dX6_cell_46 rfl ?_
        refine PW_getR (pc' := 50) dX6_cell_47 rfl fX6_13 rfl rfl ?_
        refine PW_iload1 (pc' := 51) dX6_cell_50 rfl ?_
        refine PW_aald2 (pc' := 52) dX6_cell_51 rfl (by omega) ?_
        refine PW_getR (pc' := 55) dX6_cell_52 rfl fX6_62 (pv_lay_sheet (by omega)) rfl ?_
        refine PW_iload2 (pc' := 56) dX6_cell_55 rfl ?_
        refine PW_iald (pc' := 57) dX6_cell_56 rfl (pv_lay_cells (by omega)) (by rw [w4]; exact vp_in_nI (by omega) (by decide)) ?_
        rw [pv_up_o (show 6 + u ≠ 0 by omega), t5 _ (show i.toNatClampNeg < _ from by have : i.toNatClampNeg = ix i := rfl; omega)]
        refine PW_i2l (pc' := 58) dX6_cell_57 rfl ?_
        refine PW_goto (tgt := 64) dX6_cell_58 rfl ?_
        refine PW_lreturn dX6_cell_64 rfl ?_
        first
          | exact ⟨by simp [op_cell, q, q2, q3, ix_nI hu2, v_lost], by simpa [op_cell, q, q2, q3, ix_nI hu2, a_flt] using hA1.fault (nI (s_foc (a.2.2.1 u) l i 1)), hF1.up (by decide)⟩
          | exact ⟨by simp [op_cell, q, q2, q3, ix_nI hu2]; rfl, by rw [q3, show nI 0 = (0 : Int32) from rfl]; simpa [op_cell, q, q2, q3, ix_nI hu2, a_flt] using hA1.fault 0, hF1.up (by decide)⟩
    · have q2 := bi_f h16
      refine PW_ldc2 (pc' := 22) dX6_cell_19 rfl qX6_190 ?_
      refine PW_lreturn dX6_cell_22 rfl ?_
      first
        | exact ⟨by simp [op_cell, q, v_lost], by simpa [op_cell, q] using hA1, hF1⟩
        | exact ⟨by simp [op_cell, q, q2, v_lost], by simpa [op_cell, q, q2] using hA1, hF1⟩
set_option maxHeartbeats 4000000 in
theorem c_X6_copy {Γ : pv_G} {d : Nat} {M : pv_M} {a : s_A} {k i o j n : Int32} (hA : AX M a) : Ct Γ (d + 1) vX6_copy [.ref 0, .int k, .int i, .int o, .int j, .int n] M (o_X (op_copy k i o j n a) M) := by
  obtain ⟨hH, hR, hSh, hfl, htr⟩ := id hA
  obtain ⟨hok, hc1, hc2, hc3, hf⟩ := id hH
  have hn5 := hok.1
  refine Ct.of oX6_copy.1 rfl (pad := 2) rfl ?_
  show PW Γ (d + 1) vX6_copy 0 [.ref 0, .int k, .int i, .int o, .int j, .int n, .null, .null] [] M _
  refine PW_aload0 (pc' := 1) dX6_copy_0 rfl ?_
  refine PW_iconst (pc' := 2) dX6_copy_1 rfl (v := 0) (by first | rfl | decide) ?_
  refine PW_putI (pc' := 5) dX6_copy_2 rfl fX6_43 w5_5 rfl rfl ?_
  generalize hM1 : pv_up M 0 5 0 = M1
  have hA1 : AX M1 (a_flt a 0) := by rw [← hM1]; exact hA.fault 0
  have hF1 : frX M M1 := by rw [← hM1]; exact frX.rf.up (by decide)
  have hH1 : HX M1 a.1 := hA1.1
  have hc11 : M1 10 1 = nI a.1.1 := hH1.2.1
  have hS1 : ∀ k, k < 4 → s_sh M1 k (a.2.2.1 k) (a.2.2.2.1 k) := hA1.2.2.1
  refine PW_iload1 (pc' := 6) dX6_copy_5 rfl ?_
  refine PW_callS1f (pc' := 9) dX6_copy_6 rfl oX6_isSheet lX6_47 (Nat.le_of_ble_eq_true rfl) (c_X6_isSheet) ?_
  refine PW_if_eq (tgt := 19) (pc' := 12) dX6_copy_9 rfl rfl (fun h9 => ?_) (fun h9 => ?_)
  · have q := bi_f h9
    refine PW_iconst (pc' := 20) dX6_copy_19 rfl (v := -1) (by first | rfl | decide) ?_
    refine PW_ireturn .int dX6_copy_20 rfl rfl ?_
    first
      | exact ⟨by simp [op_copy, q], by simpa [op_copy, q] using hA1, hF1⟩
      | exact ⟨by simp [op_copy, q, q2], by simpa [op_copy, q, q2] using hA1, hF1⟩
  · have q := bi_t h9
    obtain ⟨u, hu, rfl⟩ := s_rng_of (n := 3) q
    have hu2 : u < 2 ^ 31 := by omega
    refine PW_iload3 (pc' := 13) dX6_copy_12 rfl ?_
    refine PW_callS1f (pc' := 16) dX6_copy_13 rfl oX6_isSheet lX6_47 (Nat.le_of_ble_eq_true rfl) (c_X6_isSheet) ?_
    refine PW_if_ne (tgt := 21) (pc' := 19) dX6_copy_16 rfl rfl (fun h16 => ?_) (fun h16 => ?_)
    · have q2 := bi_t h16
      obtain ⟨w, hw, rfl⟩ := s_rng_of (n := 3) q2
      have hw2 : w < 2 ^ 31 := by omega
      refine PW_aload0 (pc' := 22) dX6_copy_21 rfl ?_
      refine PW_getR (pc' := 25) dX6_copy_22 rfl fX6_13 rfl rfl ?_
      refine PW_iload1 (pc' := 26) dX6_copy_25 rfl ?_
      refine PW_aald2 (pc' := 27) dX6_copy_26 rfl (by omega) ?_
      refine PW_astore6 (pc' := 29) dX6_copy_27 rfl rfl rfl ?_
      refine PW_aload0 (pc' := 30) dX6_copy_29 rfl ?_
      refine PW_getR (pc' := 33) dX6_copy_30 rfl fX6_13 rfl rfl ?_
      refine PW_iload3 (pc' := 34) dX6_copy_33 rfl ?_
      refine PW_aald2 (pc' := 35) dX6_copy_34 rfl (by omega) ?_
      refine PW_astore7 (pc' := 37) dX6_copy_35 rfl rfl rfl ?_
      refine PW_aload6 (pc' := 39) dX6_copy_37 rfl ?_
      refine PW_getI (pc' := 42) dX6_copy_39 rfl fX6_202 (pv_lay_sheet (by omega)) rfl ?_
      rw [(hS1 u (by omega)).1]
      refine PW_if_eq (tgt := 53) (pc' := 45) dX6_copy_42 rfl rfl (fun h42 => ?_) (fun h42 => ?_)
      · have q3 := bi_f h42
        refine PW_aload0 (pc' := 54) dX6_copy_53 rfl ?_
        refine PW_iconst (pc' := 55) dX6_copy_54 rfl (v := 1) (by first | rfl | decide) ?_
        refine PW_callV1f (pc' := 58) dX6_copy_55 rfl oX6_answerFault lX6_58 rfl rfl rfl (Nat.le_of_ble_eq_true rfl) (c_X6_answerFault) ?_
        refine PW_ireturn .int dX6_copy_58 rfl rfl ?_
        first
          | exact ⟨by simp [op_copy, q, q2, q3, ix_nI hu2, ix_nI hw2], by simpa [op_copy, q, q2, q3, ix_nI hu2, ix_nI hw2, a_flt] using hA1.fault 1, hF1.up (by decide)⟩
          | exact ⟨by simp [op_copy, q, q2, q3, q4, ix_nI hu2, ix_nI hw2], by simpa [op_copy, q, q2, q3, q4, ix_nI hu2, ix_nI hw2, a_flt] using hA1.fault 1, hF1.up (by decide)⟩
      · have q3 := bi_t h42
        refine PW_aload7 (pc' := 47) dX6_copy_45 rfl ?_
        refine PW_getI (pc' := 50) dX6_copy_47 rfl fX6_202 (pv_lay_sheet (by omega)) rfl ?_
        rw [(hS1 w (by omega)).1]
        refine PW_if_ne (tgt := 59) (pc' := 53) dX6_copy_50 rfl rfl (fun h50 => ?_) (fun h50 => ?_)
        · have q4 := bi_t h50
          refine PW_aload6 (pc' := 61) dX6_copy_59 rfl ?_
          refine PW_getI (pc' := 64) dX6_copy_61 rfl fX6_206 (pv_lay_sheet (by omega)) rfl ?_
          obtain ⟨t1, t2, t3, t4, t5⟩ := (hS1 u (by omega)).2 q3
          obtain ⟨y1, y2, y3, y4, y5⟩ := (hS1 w (by omega)).2 q4
          rw [t1]
          refine PW_aload7 (pc' := 66) dX6_copy_64 rfl ?_
          refine PW_getI (pc' := 69) dX6_copy_66 rfl fX6_206 (pv_lay_sheet (by omega)) rfl ?_
          rw [y1]
          refine PW_icmp_eq (tgt := 78) (pc' := 72) dX6_copy_69 rfl rfl (fun h69 => ?_) (fun h69 => ?_)
          · have q5 : (a.2.2.1 u).2.1 = (a.2.2.1 w).2.1 := nI_inj (by omega) (by omega) h69
            refine PW_aload6 (pc' := 80) dX6_copy_78 rfl ?_
            refine PW_iload2 (pc' := 81) dX6_copy_80 rfl ?_
            refine PW_iload5 (pc' := 83) dX6_copy_81 rfl ?_
            refine PW_callV2f (pc' := 86) dX6_copy_83 rfl oX3_holds lX6_212 (pv_lay_sheet (by omega)) rfl rfl (Nat.le_of_ble_eq_true rfl) (c_X3_holds (show u < 4 by omega)) ?_
            rw [t3, v_holds_eq t4]
            refine PW_if_eq (tgt := 101) (pc' := 89) dX6_copy_86 rfl rfl (fun h86 => ?_) (fun h86 => ?_)
            · have q6 := bi_f h86
              refine PW_aload0 (pc' := 102) dX6_copy_101 rfl ?_
              refine PW_iconst (pc' := 103) dX6_copy_102 rfl (v := 3) (by first | rfl | decide) ?_
              refine PW_callV1f (pc' := 106) dX6_copy_103 rfl oX6_answerFault lX6_58 rfl rfl rfl (Nat.le_of_ble_eq_true rfl) (c_X6_answerFault) ?_
              refine PW_ireturn .int dX6_copy_106 rfl rfl ?_
              first
                | exact ⟨by simp [op_copy, q, q2, q3, q4, q5, q6, ix_nI hu2, ix_nI hw2], by simpa [op_copy, q, q2, q3, q4, q5, q6, ix_nI hu2, ix_nI hw2, a_flt] using hA1.fault 3, hF1.up (by decide)⟩
                | exact ⟨by simp [op_copy, q, q2, q3, q4, q5, q6, q7, ix_nI hu2, ix_nI hw2], by simpa [op_copy, q, q2, q3, q4, q5, q6, q7, ix_nI hu2, ix_nI hw2, a_flt] using hA1.fault 3, hF1.up (by decide)⟩
            · have q6 := bi_t h86
              refine PW_aload7 (pc' := 91) dX6_copy_89 rfl ?_
              refine PW_iload4 (pc' := 93) dX6_copy_91 rfl ?_
              refine PW_iload5 (pc' := 95) dX6_copy_93 rfl ?_
              refine PW_callV2f (pc' := 98) dX6_copy_95 rfl oX3_holds lX6_212 (pv_lay_sheet (by omega)) rfl rfl (Nat.le_of_ble_eq_true rfl) (c_X3_holds (show w < 4 by omega)) ?_
              rw [y3, v_holds_eq y4]
              refine PW_if_ne (tgt := 107) (pc' := 101) dX6_copy_98 rfl rfl (fun h98 => ?_) (fun h98 => ?_)
              · have q7 := bi_t h98
                obtain ⟨w1, w2, w3, w4, w5⟩ := s_hol_of q6
                obtain ⟨z1, z2, z3, v4, z5⟩ := s_hol_of q7
                have t4 := t4
                refine PW_aload6 (pc' := 109) dX6_copy_107 rfl ?_
                refine PW_getR (pc' := 112) dX6_copy_109 rfl fX6_62 (pv_lay_sheet (by omega)) rfl ?_
                refine PW_iload2 (pc' := 113) dX6_copy_112 rfl ?_
                refine PW_aload7 (pc' := 115) dX6_copy_113 rfl ?_
                refine PW_getR (pc' := 118) dX6_copy_115 rfl fX6_62 (pv_lay_sheet (by omega)) rfl ?_
                refine PW_iload4 (pc' := 120) dX6_copy_118 rfl ?_
                refine PW_iload5 (pc' := 122) dX6_copy_120 rfl ?_
                refine PW_copy (pc' := 125) dX6_copy_122 rfl lX6_215 (Nat.le_of_ble_eq_true rfl) (pv_lay_cells (by omega)) (pv_lay_cells (by omega)) (by rw [w4, z_lt, nI_toInt (by omega)]; omega) (by rw [v4, z_lt, nI_toInt (by omega)]; omega) (by rw [w5, z_lt, nI_toInt (by omega)]; omega) (show ix i + ix n ≤ 60 by omega) (show ix j + ix n ≤ 60 by omega) ?_
                refine PW_iload5 (pc' := 127) dX6_copy_125 rfl ?_
                refine PW_ireturn .int dX6_copy_127 rfl rfl ?_
                refine ⟨by simp [op_copy, q, q2, q3, q4, q5, q6, q7, ix_nI hu2, ix_nI hw2], ?_, ?_⟩
                · have hne : 2 + w ≠ 6 + w := by omega
                  have := hA1.sh (k := w) (M' := pv_row M1 (6 + w) (va_cpy (M1 (6 + u)) (M1 (6 + w)) i.toNatClampNeg j.toNatClampNeg n.toNatClampNeg)) (s := a.2.2.1 w) (c := va_cpy (a.2.2.2.1 u) (a.2.2.2.1 w) (ix i) (ix j) (ix n)) (by omega) ⟨by rw [pv_row_o hne]; exact (hS1 w (by omega)).1, fun _ => ⟨by rw [pv_row_o hne]; exact y1, y2, by rw [pv_row_o hne]; exact y3, y4, fun x hx => ?_⟩⟩ (fr.row fr.rf (by simp))
                  · simpa [op_copy, q, q2, q3, q4, q5, q6, q7, ix_nI hu2, ix_nI hw2] using this
                  · rw [pv_row_at, if_pos rfl]
                    show (if ix j ≤ x ∧ x < ix j + ix n then M1 (6 + u) (ix i + (x - ix j)) else M1 (6 + w) x) = if ix j ≤ x ∧ x < ix j + ix n then a.2.2.2.1 u (ix i + (x - ix j)) else a.2.2.2.1 w x
                    by_cases hc : ix j ≤ x ∧ x < ix j + ix n
                    · rw [if_pos hc, if_pos hc]
                      exact t5 _ (by omega)
                    · rw [if_neg hc, if_neg hc]
                      exact y5 x hx
                · exact hF1.tr (frX.of (fr.row fr.rf (List.mem_singleton.mpr rfl)) (by simp; omega))
              · have q7 := bi_f h98
                refine PW_aload0 (pc' := 102) dX6_copy_101 rfl ?_
                refine PW_iconst (pc' := 103) dX6_copy_102 rfl (v := 3) (by first | rfl | decide) ?_
                refine PW_callV1f (pc' := 106) dX6_copy_103 rfl oX6_answerFault lX6_58 rfl rfl rfl (Nat.le_of_ble_eq_true rfl) (c_X6_answerFault) ?_
                refine PW_ireturn .int dX6_copy_106 rfl rfl ?_
                first
                  | exact ⟨by simp [op_copy, q, q2, q3, q4, q5, q6, ix_nI hu2, ix_nI hw2], by simpa [op_copy, q, q2, q3, q4, q5, q6, ix_nI hu2, ix_nI hw2, a_flt] using hA1.fault 3, hF1.up (by decide)⟩
                  | exact ⟨by simp [op_copy, q, q2, q3, q4, q5, q6, q7, ix_nI hu2, ix_nI hw2], by simpa [op_copy, q, q2, q3, q4, q5, q6, q7, ix_nI hu2, ix_nI hw2, a_flt] using hA1.fault 3, hF1.up (by decide)⟩
          · have q5 : ¬ (a.2.2.1 u).2.1 = (a.2.2.1 w).2.1 := fun z => h69 (by rw [z])
            refine PW_aload0 (pc' := 73) dX6_copy_72 rfl ?_
            refine PW_iconst (pc' := 74) dX6_copy_73 rfl (v := 2) (by first | rfl | decide) ?_
            refine PW_callV1f (pc' := 77) dX6_copy_74 rfl oX6_answerFault lX6_58 rfl rfl rfl (Nat.le_of_ble_eq_true rfl) (c_X6_answerFault) ?_
            refine PW_ireturn .int dX6_copy_77 rfl rfl ?_
            exact ⟨by simp [op_copy, q, q2, q3, q4, q5, ix_nI hu2, ix_nI hw2], by simpa [op_copy, q, q2, q3, q4, q5, ix_nI hu2, ix_nI hw2, a_flt] using hA1.fault 2, hF1.up (by decide)⟩
        · have q4 := bi_f h50
          refine PW_aload0 (pc' := 54) dX6_copy_53 rfl ?_
          refine PW_iconst (pc' := 55) dX6_copy_54 rfl (v := 1) (by first | rfl | decide) ?_
          refine PW_callV1f (pc' := 58) dX6_copy_55 rfl oX6_answerFault lX6_58 rfl rfl rfl (Nat.le_of_ble_eq_true rfl) (c_X6_answerFault) ?_
          refine PW_ireturn .int dX6_copy_58 rfl rfl ?_
          first
            | exact ⟨by simp [op_copy, q, q2, q3, ix_nI hu2, ix_nI hw2], by simpa [op_copy, q, q2, q3, ix_nI hu2, ix_nI hw2, a_flt] using hA1.fault 1, hF1.up (by decide)⟩
            | exact ⟨by simp [op_copy, q, q2, q3, q4, ix_nI hu2, ix_nI hw2], by simpa [op_copy, q, q2, q3, q4, ix_nI hu2, ix_nI hw2, a_flt] using hA1.fault 1, hF1.up (by decide)⟩
    · have q2 := bi_f h16
      refine PW_iconst (pc' := 20) dX6_copy_19 rfl (v := -1) (by first | rfl | decide) ?_
      refine PW_ireturn .int dX6_copy_20 rfl rfl ?_
      first
        | exact ⟨by simp [op_copy, q], by simpa [op_copy, q] using hA1, hF1⟩
        | exact ⟨by simp [op_copy, q, q2], by simpa [op_copy, q, q2] using hA1, hF1⟩
