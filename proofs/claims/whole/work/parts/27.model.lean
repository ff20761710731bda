/-! the reference: its state, its small calls -/
def s_shM (M : pv_M) (k : Nat) (s : Bool × Nat × Nat) (c : Nat → Int32) : Prop := (s.1 = true → M 46 k = nI s.2.2 ∧ s.2.2 ≤ 60 ∧ M 47 k = nI s.2.1 ∧ s.2.1 ≤ 2 ∧ ∀ i, i < s.2.2 → M 48 (60 * k + i) = c i) ∧ (s.1 = false → M 46 k = -1)
def RM (M : pv_M) (n : Nat) (rd : s_R) : Prop := M 29 25 = nI rd.1 ∧ rd.1 ≤ 8 ∧ ∀ i, i < rd.1 → (M 43 i = nI (rd.2.1 i) ∧ rd.2.1 i < n) ∧ (M 44 i = nI (rd.2.2.1 i) ∧ rd.2.2.1 i < 6) ∧ M 45 i = bi (rd.2.2.2 i)
def AM (M : pv_M) (a : s_A) : Prop := HM M a.1 ∧ RM M a.1.1 a.2.1 ∧ (∀ k, k < 4 → s_shM M k (a.2.2.1 k) (a.2.2.2.1 k)) ∧ M 29 0 = a.2.2.2.2.1 ∧ M 29 33 = a.2.2.2.2.2 ∧ M 29 9 = -9
def frM (M M' : pv_M) : Prop := ∀ p, p < 29 → M' p = M p
theorem frM.rf {M : pv_M} : frM M M := fun _ _ => rfl
theorem frM.tr {M M1 M2 : pv_M} (h1 : frM M M1) (h2 : frM M1 M2) : frM M M2 := fun p hp => (h2 p hp).trans (h1 p hp)
theorem frM.up {M M1 : pv_M} {p k : Nat} {v : Int32} (h : frM M M1) (hp : 29 ≤ p) : frM M (pv_up M1 p k v) := fun q hq => by rw [pv_up_o (by omega)]; exact h q hq
def o_M (o : s_O) (M : pv_M) : pv_Q := fun r M' => r = some (.int o.1) ∧ AM M' o.2 ∧ frM M M'
def o_ML (o : Int64 × s_A) (M : pv_M) : pv_Q := fun r M' => r = some (.long o.1) ∧ AM M' o.2 ∧ frM M M'
/-- of the reference only what it scribbles on has changed -/
def frS (M M' : pv_M) : Prop := (∀ p, p ∉ [29, 35, 36, 37, 38, 39, 40, 41, 42, 49] → M' p = M p) ∧ ∀ k, k ∉ [10, 11, 12, 21, 22, 23, 24] → M' 29 k = M 29 k
theorem frS.rf {M : pv_M} : frS M M := ⟨fun _ _ => rfl, fun _ _ => rfl⟩
theorem frS.tr {M M1 M2 : pv_M} (h1 : frS M M1) (h2 : frS M1 M2) : frS M M2 := ⟨fun p hp => (h2.1 p hp).trans (h1.1 p hp), fun p hp => (h2.2 p hp).trans (h1.2 p hp)⟩
theorem frS.up {M M1 : pv_M} {p k : Nat} {v : Int32} (h : frS M M1) (hp : p ∈ [35, 36, 37, 38, 39, 40, 41, 42, 49]) : frS M (pv_up M1 p k v) := by
  have hne : 29 ≠ p := fun z => by subst z; exact absurd hp (by decide)
  refine ⟨fun q hq => ?_, fun q hq => ?_⟩
  · rw [pv_up_o (fun z => hq (by rw [z]; exact List.mem_cons_of_mem _ hp))]
    exact h.1 q hq
  · rw [pv_up_o hne]
    exact h.2 q hq
theorem frS.upf {M M1 : pv_M} {k : Nat} {v : Int32} (h : frS M M1) (hk : k ∈ [10, 11, 12, 21, 22, 23, 24]) : frS M (pv_up M1 29 k v) := by
  refine ⟨fun q hq => ?_, fun q hq => ?_⟩
  · rw [pv_up_o (fun z => hq (by rw [z]; exact List.mem_cons_self))]
    exact h.1 q hq
  · rw [pv_up_at, if_neg (fun z => hq (by rw [z.2]; exact hk))]
    exact h.2 q hq
theorem frS.frM {M M' : pv_M} (h : frS M M') : frM M M' := fun p hp => h.1 p (by simp; omega)
theorem HM.of {M M' : pv_M} {H : s_H} (h : HM M H) (h0 : ∀ k, k = 1 ∨ k = 2 ∨ k = 3 → M' 29 k = M 29 k) (h1 : ∀ f, f < 5 → M' (30 + f) = M (30 + f)) : HM M' H := by
  obtain ⟨hok, a, b, c, e⟩ := h
  exact ⟨hok, by rw [h0 3 (by omega)]; exact a, by rw [h0 1 (by omega)]; exact b, by rw [h0 2 (by omega)]; exact c, fun t ht f hf => by rw [h1 f hf]; exact e t ht f hf⟩
theorem HM.scr {M M' : pv_M} {H : s_H} (h : HM M H) (hf : frS M M') : HM M' H := h.of (fun k hk => hf.2 k (by simp; omega)) (fun f hf5 => hf.1 _ (by simp; omega))
theorem AM.scr {M M' : pv_M} {a : s_A} (h : AM M a) (hf : frS M M') : AM M' a := by
  obtain ⟨h1, h2, h3, h4, h5, h6⟩ := h
  refine ⟨h1.scr hf, ?_, fun k hk => ?_, by rw [hf.2 0 (by decide)]; exact h4, by rw [hf.2 33 (by decide)]; exact h5, by rw [hf.2 9 (by decide)]; exact h6⟩
  · obtain ⟨r1, r2, r3⟩ := h2
    refine ⟨by rw [hf.2 25 (by decide)]; exact r1, r2, fun i hi => ?_⟩
    rw [hf.1 43 (by decide), hf.1 44 (by decide), hf.1 45 (by decide)]
    exact r3 i hi
  · unfold s_shM
    rw [hf.1 46 (by decide), hf.1 47 (by decide), hf.1 48 (by decide)]
    exact h3 k hk
theorem AM.fault {M : pv_M} {a : s_A} (h : AM M a) (f : Int32) : AM (pv_up M 29 0 f) (a_flt a f) := by
  obtain ⟨h1, h2, h3, h4, h5, h6⟩ := h
  refine ⟨h1.of (fun k hk => by rw [pv_up_at, if_neg (by omega)]) (fun f hf => pv_up_o (by omega)), ?_, fun k hk => ?_, by simp [pv_up_at, a_flt], ?_, ?_⟩
  · obtain ⟨r1, r2, r3⟩ := h2
    exact ⟨by simpa [pv_up_at, a_flt, a_trc] using r1, r2, fun i hi => by simpa [pv_up_at, a_flt, a_trc] using r3 i hi⟩
  · unfold s_shM
    rw [pv_up_o (show 46 ≠ 29 by decide), pv_up_o (show 47 ≠ 29 by decide), pv_up_o (show 48 ≠ 29 by decide)]
    exact h3 k hk
  · rw [pv_up_at, if_neg (by decide)]; exact h5
  · rw [pv_up_at, if_neg (by decide)]; exact h6
theorem AM.trace {M : pv_M} {a : s_A} (h : AM M a) (f : Int32) : AM (pv_up M 29 33 f) (a_trc a f) := by
  obtain ⟨h1, h2, h3, h4, h5, h6⟩ := h
  refine ⟨h1.of (fun k hk => by rw [pv_up_at, if_neg (by omega)]) (fun f hf => pv_up_o (by omega)), ?_, fun k hk => ?_, ?_, by simp [pv_up_at, a_trc], ?_⟩
  · obtain ⟨r1, r2, r3⟩ := h2
    exact ⟨by simpa [pv_up_at, a_flt, a_trc] using r1, r2, fun i hi => by simpa [pv_up_at, a_flt, a_trc] using r3 i hi⟩
  · unfold s_shM
    rw [pv_up_o (show 46 ≠ 29 by decide), pv_up_o (show 47 ≠ 29 by decide), pv_up_o (show 48 ≠ 29 by decide)]
    exact h3 k hk
  · rw [pv_up_at, if_neg (by decide)]; exact h4
  · rw [pv_up_at, if_neg (by decide)]; exact h6
def v_in (v l h : Int64) : Bool := decide (l.toInt ≤ v.toInt) && decide (v.toInt ≤ h.toInt)
theorem v_in_rng (x : Int32) {lo hi : Int64} {a b : Int} (ha : lo.toInt = a) (hb : hi.toInt = b) : v_in x.toInt64 lo hi = s_rng x a b := by
  simp [v_in, s_rng, Int32.toInt_toInt64, ha, hb]
set_option maxHeartbeats 4000000 in
theorem c_X7_in {Γ : pv_G} {d : Nat} {M : pv_M} {v l h : Int64} : Ct Γ d vX7_in [.long v, .long l, .long h] M (pv_fn (some (.int (bi (v_in v l h)))) M) := by
  refine Ct.of oX7_in.1 rfl (pad := 0) rfl ?_
  show PW Γ d vX7_in 0 [.long v, .null, .long l, .null, .long h, .null] [] M _
  refine PW_lload0 (pc' := 1) dX7_in_0 rfl ?_
  refine PW_lload2 (pc' := 2) dX7_in_1 rfl ?_
  refine PW_lcmp (pc' := 3) dX7_in_2 rfl ?_
  refine PW_if_lt (tgt := 17) (pc' := 6) dX7_in_3 rfl rfl (fun h3 => ?_) (fun h3 => ?_)
  · refine PW_iconst (pc' := 18) dX7_in_17 rfl (v := 0) (by first | rfl | decide) ?_
    refine PW_ireturn .boolean dX7_in_18 rfl (by first | rfl | exact bi_nar _) ?_
    refine ⟨?_, rfl⟩
    first
      | rw [bi_zero (show v_in v l h = false by rw [lg_cmp_lt, Int64.lt_iff_toInt_lt] at h3; simp only [v_in, Bool.and_eq_false_iff, decide_eq_false_iff_not]; omega)]
      | rw [bi_zero (show v_in v l h = false by rw [lg_cmp_gt, Int64.lt_iff_toInt_lt] at h10; simp only [v_in, Bool.and_eq_false_iff, decide_eq_false_iff_not]; omega)]
      | rw [bi_one (show v_in v l h = true by rw [lg_cmp_lt, Int64.lt_iff_toInt_lt] at h3; rw [lg_cmp_gt, Int64.lt_iff_toInt_lt] at h10; simp only [v_in, Bool.and_eq_true, decide_eq_true_eq]; omega)]
  · refine PW_lload0 (pc' := 7) dX7_in_6 rfl ?_
    refine PW_lload4 (pc' := 9) dX7_in_7 rfl ?_
    refine PW_lcmp (pc' := 10) dX7_in_9 rfl ?_
    refine PW_if_gt (tgt := 17) (pc' := 13) dX7_in_10 rfl rfl (fun h10 => ?_) (fun h10 => ?_)
    · refine PW_iconst (pc' := 18) dX7_in_17 rfl (v := 0) (by first | rfl | decide) ?_
      refine PW_ireturn .boolean dX7_in_18 rfl (by first | rfl | exact bi_nar _) ?_
      refine ⟨?_, rfl⟩
      first
        | rw [bi_zero (show v_in v l h = false by rw [lg_cmp_lt, Int64.lt_iff_toInt_lt] at h3; simp only [v_in, Bool.and_eq_false_iff, decide_eq_false_iff_not]; omega)]
        | rw [bi_zero (show v_in v l h = false by rw [lg_cmp_gt, Int64.lt_iff_toInt_lt] at h10; simp only [v_in, Bool.and_eq_false_iff, decide_eq_false_iff_not]; omega)]
        | rw [bi_one (show v_in v l h = true by rw [lg_cmp_lt, Int64.lt_iff_toInt_lt] at h3; rw [lg_cmp_gt, Int64.lt_iff_toInt_lt] at h10; simp only [v_in, Bool.and_eq_true, decide_eq_true_eq]; omega)]
    · refine PW_iconst (pc' := 14) dX7_in_13 rfl (v := 1) (by first | rfl | decide) ?_
      refine PW_goto (tgt := 18) dX7_in_14 rfl ?_
      refine PW_ireturn .boolean dX7_in_18 rfl (by first | rfl | exact bi_nar _) ?_
      refine ⟨?_, rfl⟩
      first
        | rw [bi_zero (show v_in v l h = false by rw [lg_cmp_lt, Int64.lt_iff_toInt_lt] at h3; simp only [v_in, Bool.and_eq_false_iff, decide_eq_false_iff_not]; omega)]
        | rw [bi_zero (show v_in v l h = false by rw [lg_cmp_gt, Int64.lt_iff_toInt_lt] at h10; simp only [v_in, Bool.and_eq_false_iff, decide_eq_false_iff_not]; omega)]
        | rw [bi_one (show v_in v l h = true by rw [lg_cmp_lt, Int64.lt_iff_toInt_lt] at h3; rw [lg_cmp_gt, Int64.lt_iff_toInt_lt] at h10; simp only [v_in, Bool.and_eq_true, decide_eq_true_eq]; omega)]
theorem c_X7_inr {Γ : pv_G} {d : Nat} {M : pv_M} {x : Int32} {lo hi : Int64} {a b : Int} (ha : lo.toInt = a) (hb : hi.toInt = b) : Ct Γ d vX7_in [.long x.toInt64, .long lo, .long hi] M (pv_fn (some (.int (bi (s_rng x a b)))) M) := by
  rw [← v_in_rng x ha hb]
  exact c_X7_in
theorem v_cnt1 : ∀ n, n < 100 → ((nI n).toInt64 - 1).toInt = (n : Int) - 1 := by decide +kernel
theorem v_cnt0 : ∀ n, n < 100 → ((nI n).toInt64).toInt = (n : Int) := by decide +kernel
set_option maxHeartbeats 4000000 in
theorem c_X7_lost {Γ : pv_G} {d : Nat} {M : pv_M}  : Ct Γ d vX7_lost [] M (pv_fn (some (.long v_lost)) M) := by
  refine Ct.of oX7_lost.1 rfl (pad := 0) rfl ?_
  show PW Γ d vX7_lost 0 [] [] M _
  refine PW_ldc2 (pc' := 3) dX7_lost_0 rfl qX7_75 ?_
  refine PW_lreturn dX7_lost_3 rfl ?_
  exact ⟨rfl, rfl⟩
set_option maxHeartbeats 4000000 in
theorem c_X7_isIn {Γ : pv_G} {d : Nat} {M : pv_M} {a t : Nat} (ha : a < 64) (ht : t < 6) : Ct Γ d vX7_isIn [.int (nI a), .int (nI t)] M (pv_fn (some (.int (bi (a.testBit t)))) M) := by
  refine Ct.of oX7_isIn.1 rfl (pad := 0) rfl ?_
  show PW Γ d vX7_isIn 0 [.int (nI a), .int (nI t)] [] M _
  refine PW_iload0 (pc' := 1) dX7_isIn_0 rfl ?_
  refine PW_iload1 (pc' := 2) dX7_isIn_1 rfl ?_
  refine PW_ishr (pc' := 3) dX7_isIn_2 rfl ?_
  refine PW_iconst (pc' := 4) dX7_isIn_3 rfl (v := 1) (by first | rfl | decide) ?_
  refine PW_iand (pc' := 5) dX7_isIn_4 rfl ?_
  refine PW_iconst (pc' := 6) dX7_isIn_5 rfl (v := 1) (by first | rfl | decide) ?_
  refine PW_icmp_ne (tgt := 13) (pc' := 9) dX7_isIn_6 rfl rfl (fun h6 => ?_) (fun h6 => ?_)
  · refine PW_iconst (pc' := 14) dX7_isIn_13 rfl (v := 0) (by first | rfl | decide) ?_
    refine PW_ireturn .boolean dX7_isIn_14 rfl (by first | rfl | exact bi_nar _) ?_
    refine ⟨?_, rfl⟩
    rw [bt_in a ha t ht] at h6
    cases hb : a.testBit t with
    | true => first | rfl | (rw [hb] at h6; exact absurd rfl h6)
    | false => first | rfl | (rw [hb] at h6; exact absurd h6 (by decide))
  · refine PW_iconst (pc' := 10) dX7_isIn_9 rfl (v := 1) (by first | rfl | decide) ?_
    refine PW_goto (tgt := 14) dX7_isIn_10 rfl ?_
    refine PW_ireturn .boolean dX7_isIn_14 rfl (by first | rfl | exact bi_nar _) ?_
    refine ⟨?_, rfl⟩
    rw [bt_in a ha t ht] at h6
    cases hb : a.testBit t with
    | true => first | rfl | (rw [hb] at h6; exact absurd rfl h6)
    | false => first | rfl | (rw [hb] at h6; exact absurd h6 (by decide))
set_option maxHeartbeats 4000000 in
theorem c_X7_refused {Γ : pv_G} {d : Nat} {M : pv_M} {x : Int32} : Ct Γ d vX7_refused [.ref 29, .int x] M (pv_fn (some (.int x)) (pv_up M 29 0 0)) := by
  refine Ct.of oX7_refused.1 rfl (pad := 0) rfl ?_
  show PW Γ d vX7_refused 0 [.ref 29, .int x] [] M _
  refine PW_aload0 (pc' := 1) dX7_refused_0 rfl ?_
  refine PW_iconst (pc' := 2) dX7_refused_1 rfl (v := 0) (by first | rfl | decide) ?_
  refine PW_putI (pc' := 5) dX7_refused_2 rfl fX7_77 w6_0 rfl rfl ?_
  refine PW_iload1 (pc' := 6) dX7_refused_5 rfl ?_
  refine PW_ireturn .int dX7_refused_6 rfl rfl ?_
  exact ⟨rfl, rfl⟩
set_option maxHeartbeats 4000000 in
theorem c_X7_failed {Γ : pv_G} {d : Nat} {M : pv_M} {x : Int32} : Ct Γ d vX7_failed [.ref 29, .int x] M (pv_fn (some (.int (-10 - x))) (pv_up M 29 0 x)) := by
  refine Ct.of oX7_failed.1 rfl (pad := 0) rfl ?_
  show PW Γ d vX7_failed 0 [.ref 29, .int x] [] M _
  refine PW_aload0 (pc' := 1) dX7_failed_0 rfl ?_
  refine PW_iload1 (pc' := 2) dX7_failed_1 rfl ?_
  refine PW_putI (pc' := 5) dX7_failed_2 rfl fX7_77 w6_0 rfl rfl ?_
  refine PW_bipush (pc' := 7) dX7_failed_5 rfl (v := -10) (by first | rfl | decide) ?_
  refine PW_iload1 (pc' := 8) dX7_failed_7 rfl ?_
  refine PW_isub (pc' := 9) dX7_failed_8 rfl ?_
  refine PW_ireturn .int dX7_failed_9 rfl rfl ?_
  exact ⟨rfl, rfl⟩
set_option maxHeartbeats 4000000 in
theorem c_X7_failedLong {Γ : pv_G} {d : Nat} {M : pv_M} {x : Int32} : Ct Γ (d + 1) vX7_failedLong [.ref 29, .int x] M (pv_fn (some (.long v_lost)) (pv_up M 29 0 x)) := by
  refine Ct.of oX7_failedLong.1 rfl (pad := 0) rfl ?_
  show PW Γ (d + 1) vX7_failedLong 0 [.ref 29, .int x] [] M _
  refine PW_aload0 (pc' := 1) dX7_failedLong_0 rfl ?_
  refine PW_iload1 (pc' := 2) dX7_failedLong_1 rfl ?_
  refine PW_putI (pc' := 5) dX7_failedLong_2 rfl fX7_77 w6_0 rfl rfl ?_
  refine PW_callS0f (pc' := 8) dX7_failedLong_5 rfl oX7_lost lX7_80 (Nat.le_of_ble_eq_true rfl) (c_X7_lost) ?_
  refine PW_lreturn dX7_failedLong_8 rfl ?_
  exact ⟨rfl, rfl⟩
set_option maxHeartbeats 4000000 in
theorem c_X7_refusedLong {Γ : pv_G} {d : Nat} {M : pv_M}  : Ct Γ (d + 1) vX7_refusedLong [.ref 29] M (pv_fn (some (.long v_lost)) (pv_up M 29 0 0)) := by
  refine Ct.of oX7_refusedLong.1 rfl (pad := 0) rfl ?_
  show PW Γ (d + 1) vX7_refusedLong 0 [.ref 29] [] M _
  refine PW_aload0 (pc' := 1) dX7_refusedLong_0 rfl ?_
  refine PW_iconst (pc' := 2) dX7_refusedLong_1 rfl (v := 0) (by first | rfl | decide) ?_
  refine PW_putI (pc' := 5) dX7_refusedLong_2 rfl fX7_77 w6_0 rfl rfl ?_
  refine PW_callS0f (pc' := 8) dX7_refusedLong_5 rfl oX7_lost lX7_80 (Nat.le_of_ble_eq_true rfl) (c_X7_lost) ?_
  refine PW_lreturn dX7_refusedLong_8 rfl ?_
  exact ⟨rfl, rfl⟩
set_option maxHeartbeats 4000000 in
theorem c_X7_traced {Γ : pv_G} {d : Nat} {M : pv_M} {x : Int32} : Ct Γ d vX7_traced [.ref 29, .int x] M (pv_fn none (pv_up M 29 33 (31 * M 29 33 + x))) := by
  refine Ct.of oX7_traced.1 rfl (pad := 0) rfl ?_
  show PW Γ d vX7_traced 0 [.ref 29, .int x] [] M _
  refine PW_aload0 (pc' := 1) dX7_traced_0 rfl ?_
  refine PW_bipush (pc' := 3) dX7_traced_1 rfl (v := 31) (by first | rfl | decide) ?_
  refine PW_aload0 (pc' := 4) dX7_traced_3 rfl ?_
  refine PW_getI (pc' := 7) dX7_traced_4 rfl fX7_240 rfl rfl ?_
  refine PW_imul (pc' := 8) dX7_traced_7 rfl ?_
  refine PW_iload1 (pc' := 9) dX7_traced_8 rfl ?_
  refine PW_iadd (pc' := 10) dX7_traced_9 rfl ?_
  refine PW_putI (pc' := 13) dX7_traced_10 rfl fX7_240 w6_33 rfl rfl ?_
  refine PW_return dX7_traced_13 rfl ?_
  exact ⟨rfl, rfl⟩
set_option maxHeartbeats 4000000 in
theorem c_X7_noThing {Γ : pv_G} {d : Nat} {M : pv_M} {n : Nat} {t : Int32} (hn : n ≤ 5) (hc : M 29 3 = nI n) : Ct Γ (d + 1) vX7_noThing [.ref 29, .int t] M (pv_fn (some (.int (bi (!s_rng t 0 ((n : Int) - 1))))) M) := by
  refine Ct.of oX7_noThing.1 rfl (pad := 0) rfl ?_
  show PW Γ (d + 1) vX7_noThing 0 [.ref 29, .int t] [] M _
  refine PW_iload1 (pc' := 1) dX7_noThing_0 rfl ?_
  refine PW_i2l (pc' := 2) dX7_noThing_1 rfl ?_
  refine PW_lconst (pc' := 3) dX7_noThing_2 rfl (v := 0) (by first | rfl | decide) ?_
  refine PW_aload0 (pc' := 4) dX7_noThing_3 rfl ?_
  refine PW_getI (pc' := 7) dX7_noThing_4 rfl fX7_84 rfl rfl ?_
  rw [hc]
  refine PW_i2l (pc' := 8) dX7_noThing_7 rfl ?_
  refine PW_lconst (pc' := 9) dX7_noThing_8 rfl (v := 1) (by first | rfl | decide) ?_
  refine PW_lsub (pc' := 10) dX7_noThing_9 rfl ?_
  refine PW_callS3f (pc' := 13) dX7_noThing_10 rfl oX7_in lX7_87 (Nat.le_of_ble_eq_true rfl) (c_X7_inr (a := 0) rfl (v_cnt1 n (by omega))) ?_
  refine PW_if_ne (tgt := 20) (pc' := 16) dX7_noThing_13 rfl rfl (fun h13 => ?_) (fun h13 => ?_)
  · have q := bi_t h13
    refine PW_iconst (pc' := 21) dX7_noThing_20 rfl (v := 0) (by first | rfl | decide) ?_
    refine PW_ireturn .boolean dX7_noThing_21 rfl (by first | rfl | exact bi_nar _) ?_
    refine ⟨?_, rfl⟩
    rw [q]
    rfl
  · have q := bi_f h13
    refine PW_iconst (pc' := 17) dX7_noThing_16 rfl (v := 1) (by first | rfl | decide) ?_
    refine PW_goto (tgt := 21) dX7_noThing_17 rfl ?_
    refine PW_ireturn .boolean dX7_noThing_21 rfl (by first | rfl | exact bi_nar _) ?_
    refine ⟨?_, rfl⟩
    rw [q]
    rfl
set_option maxHeartbeats 4000000 in
theorem c_X7_noSheet {Γ : pv_G} {d : Nat} {M : pv_M} {k : Int32} : Ct Γ (d + 1) vX7_noSheet [.int k] M (pv_fn (some (.int (bi (!s_rng k 0 3)))) M) := by
  refine Ct.of oX7_noSheet.1 rfl (pad := 0) rfl ?_
  show PW Γ (d + 1) vX7_noSheet 0 [.int k] [] M _
  refine PW_iload0 (pc' := 1) dX7_noSheet_0 rfl ?_
  refine PW_i2l (pc' := 2) dX7_noSheet_1 rfl ?_
  refine PW_lconst (pc' := 3) dX7_noSheet_2 rfl (v := 0) (by first | rfl | decide) ?_
  refine PW_ldc2 (pc' := 6) dX7_noSheet_3 rfl qX7_153 ?_
  refine PW_callS3f (pc' := 9) dX7_noSheet_6 rfl oX7_in lX7_87 (Nat.le_of_ble_eq_true rfl) (c_X7_inr (a := 0) (b := 3) rfl rfl) ?_
  refine PW_if_ne (tgt := 16) (pc' := 12) dX7_noSheet_9 rfl rfl (fun h9 => ?_) (fun h9 => ?_)
  · have q := bi_t h9
    refine PW_iconst (pc' := 17) dX7_noSheet_16 rfl (v := 0) (by first | rfl | decide) ?_
    refine PW_ireturn .boolean dX7_noSheet_17 rfl (by first | rfl | exact bi_nar _) ?_
    refine ⟨?_, rfl⟩
    rw [q]
    rfl
  · have q := bi_f h9
    refine PW_iconst (pc' := 13) dX7_noSheet_12 rfl (v := 1) (by first | rfl | decide) ?_
    refine PW_goto (tgt := 17) dX7_noSheet_13 rfl ?_
    refine PW_ireturn .boolean dX7_noSheet_17 rfl (by first | rfl | exact bi_nar _) ?_
    refine ⟨?_, rfl⟩
    rw [q]
    rfl
theorem bn_t {b : Bool} (h : ¬ bi (!b) = 0) : b = false := by cases b <;> simp_all [bi]
theorem bn_f {b : Bool} (h : bi (!b) = 0) : b = true := by cases b <;> simp_all [bi]
set_option maxHeartbeats 4000000 in
theorem c_X7_valueOf {Γ : pv_G} {d : Nat} {M : pv_M} {t : Nat} {H : s_H} (ht : t < H.1) (hH : HM M H) : Ct Γ d vX7_valueOf [.ref 29, .int (nI t)] M (pv_fn (some (.int (nI (s_val H t)))) M) := by
  obtain ⟨hok, hc1, hc2, hc3, hf⟩ := id hH
  have h5 : t < 5 := Nat.lt_of_lt_of_le ht hok.1
  have hk := (hok.2.2.2 t ht).1
  have e0 : M 30 t = nI (H.2.2.2 0 t) := hf t ht 0 (by decide)
  have e2 : M 32 t = nI (H.2.2.2 2 t) := hf t ht 2 (by decide)
  refine Ct.of oX7_valueOf.1 rfl (pad := 1) rfl ?_
  show PW Γ d vX7_valueOf 0 [.ref 29, .int (nI t), .null] [] M _
  refine PW_aload0 (pc' := 1) dX7_valueOf_0 rfl ?_
  refine PW_getR (pc' := 4) dX7_valueOf_1 rfl fX7_16 rfl rfl ?_
  refine PW_iload1 (pc' := 5) dX7_valueOf_4 rfl ?_
  refine PW_ialdn (pc' := 6) dX7_valueOf_5 rfl rfl rfl (by omega) ?_
  rw [e2]
  refine PW_istore2 (pc' := 7) dX7_valueOf_6 rfl rfl rfl ?_
  refine PW_aload0 (pc' := 8) dX7_valueOf_7 rfl ?_
  refine PW_getR (pc' := 11) dX7_valueOf_8 rfl fX7_7 rfl rfl ?_
  refine PW_iload1 (pc' := 12) dX7_valueOf_11 rfl ?_
  refine PW_ialdn (pc' := 13) dX7_valueOf_12 rfl rfl rfl (by omega) ?_
  rw [e0]
  refine PW_if_ne (tgt := 20) (pc' := 16) dX7_valueOf_13 rfl rfl (fun h13 => ?_) (fun h13 => ?_)
  · have q0 : ¬ H.2.2.2 0 t = 0 := fun z => h13 (by rw [z]; rfl)
    refine PW_aload0 (pc' := 21) dX7_valueOf_20 rfl ?_
    refine PW_getR (pc' := 24) dX7_valueOf_21 rfl fX7_7 rfl rfl ?_
    refine PW_iload1 (pc' := 25) dX7_valueOf_24 rfl ?_
    refine PW_ialdn (pc' := 26) dX7_valueOf_25 rfl rfl rfl (by omega) ?_
    rw [e0]
    refine PW_iconst (pc' := 27) dX7_valueOf_26 rfl (v := 1) (by first | rfl | decide) ?_
    refine PW_icmp_ne (tgt := 36) (pc' := 30) dX7_valueOf_27 rfl rfl (fun h27 => ?_) (fun h27 => ?_)
    · have q1 : ¬ H.2.2.2 0 t = 1 := fun z => h27 (by rw [z]; rfl)
      refine PW_iconst (pc' := 37) dX7_valueOf_36 rfl (v := 2) (by first | rfl | decide) ?_
      refine PW_iload2 (pc' := 38) dX7_valueOf_37 rfl ?_
      refine PW_iconst (pc' := 39) dX7_valueOf_38 rfl (v := 1) (by first | rfl | decide) ?_
      refine PW_iadd (pc' := 40) dX7_valueOf_39 rfl ?_
      refine PW_imul (pc' := 41) dX7_valueOf_40 rfl ?_
      refine PW_ireturn .int dX7_valueOf_41 rfl rfl ?_
      refine ⟨?_, rfl⟩
      first
        | rw [show s_val H t = H.2.2.2 2 t from if_pos q0]
        | rw [show s_val H t = H.2.2.2 2 t + 1 from (if_neg q0).trans (if_pos q1), show (1 : Int32) = nI 1 from rfl, nI_add]
        | rw [show s_val H t = 2 * (H.2.2.2 2 t + 1) from (if_neg q0).trans (if_neg q1), show (1 : Int32) = nI 1 from rfl, nI_add, show (2 : Int32) = nI 2 from rfl, nI_mul]
    · have q1 : H.2.2.2 0 t = 1 := nI_inj (by omega) (by decide) h27
      refine PW_iload2 (pc' := 31) dX7_valueOf_30 rfl ?_
      refine PW_iconst (pc' := 32) dX7_valueOf_31 rfl (v := 1) (by first | rfl | decide) ?_
      refine PW_iadd (pc' := 33) dX7_valueOf_32 rfl ?_
      refine PW_goto (tgt := 41) dX7_valueOf_33 rfl ?_
      refine PW_ireturn .int dX7_valueOf_41 rfl rfl ?_
      refine ⟨?_, rfl⟩
      first
        | rw [show s_val H t = H.2.2.2 2 t from if_pos q0]
        | rw [show s_val H t = H.2.2.2 2 t + 1 from (if_neg q0).trans (if_pos q1), show (1 : Int32) = nI 1 from rfl, nI_add]
        | rw [show s_val H t = 2 * (H.2.2.2 2 t + 1) from (if_neg q0).trans (if_neg q1), show (1 : Int32) = nI 1 from rfl, nI_add, show (2 : Int32) = nI 2 from rfl, nI_mul]
  · have q0 : H.2.2.2 0 t = 0 := nI_inj (by omega) (by decide) h13
    refine PW_iload2 (pc' := 17) dX7_valueOf_16 rfl ?_
    refine PW_goto (tgt := 41) dX7_valueOf_17 rfl ?_
    refine PW_ireturn .int dX7_valueOf_41 rfl rfl ?_
    refine ⟨?_, rfl⟩
    first
      | rw [show s_val H t = H.2.2.2 2 t from if_pos q0]
      | rw [show s_val H t = H.2.2.2 2 t + 1 from (if_neg q0).trans (if_pos q1), show (1 : Int32) = nI 1 from rfl, nI_add]
      | rw [show s_val H t = 2 * (H.2.2.2 2 t + 1) from (if_neg q0).trans (if_neg q1), show (1 : Int32) = nI 1 from rfl, nI_add, show (2 : Int32) = nI 2 from rfl, nI_mul]
