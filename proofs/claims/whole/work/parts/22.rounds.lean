/-! the class: six cells as a round; a museum by a text; rounds that are told -/
def s_rd1 (v : Int32) : Option Nat := if v = -9 then none else some (ix v)
/-- the six cells from i on, as a round -/
def s_rw (a : s_A) (k i : Nat) : Nat → Option Nat := fun x => s_rd1 (a.2.2.2.1 k (i + x))
def s_cok (a : s_A) (v : Int32) : Bool := decide (v = -9) || s_hb a v
def s_good (a : s_A) (k i : Nat) : Bool := (List.range 6).all fun x => s_cok a (a.2.2.2.1 k (i + x))
def a_hear (k l i : Int32) (ok : Bool) (a : s_A) : Int32 × Int32 := if s_rng k 0 3 = true then (if s_rng l 0 2 = true ∧ ok = true then (if a.1.1 = 0 then (-3, 0) else if s_foc (a.2.2.1 (ix k)) l i 6 = 0 then (if s_good a (ix k) (ix i) = true then (0, 0) else (-1, 0)) else (-10 - nI (s_foc (a.2.2.1 (ix k)) l i 6), nI (s_foc (a.2.2.1 (ix k)) l i 6))) else (-2, 0)) else (-1, 0)
theorem s_cok_rI {a : s_A} (hn : a.1.1 ≤ 5) {v : Int32} (h : s_cok a v = true) : v = s_rI (s_rd1 v) ∧ ∀ t, s_rd1 v = some t → t < a.1.1 := by
  unfold s_rd1
  by_cases h9 : v = -9
  · rw [if_pos h9]
    exact ⟨h9, fun t ht => by cases ht⟩
  · rw [if_neg h9]
    have h2 : s_hb a v = true := by simpa [s_cok, h9] using h
    obtain ⟨j, hj, rfl⟩ := s_hb_of hn h2
    rw [ix_nI (by omega)]
    exact ⟨rfl, fun t ht => by cases ht; exact hj⟩
theorem s_good_of {a : s_A} {k i : Nat} (h : ∀ x, x < 6 → s_cok a (a.2.2.2.1 k (i + x)) = true) : s_good a k i = true := by
  simp only [s_good, List.all_eq_true, List.mem_range]
  exact h
theorem s_good_no {a : s_A} {k i x : Nat} (hx : x < 6) (h : s_cok a (a.2.2.2.1 k (i + x)) = false) : s_good a k i = false := by
  rcases Bool.eq_false_or_eq_true (s_good a k i) with z | z
  · simp only [s_good, List.all_eq_true, List.mem_range] at z
    rw [z x hx] at h
    cases h
  · exact z
/-- what hearRound leaves -/
def a_heard (a : s_A) (k i : Int32) (o : Int32 × Int32) (M : pv_M) : pv_M → Prop := fun M' => AX M' (a_flt a o.2) ∧ frX M M' ∧ (o.1 = 0 → s_row M' 28 6 a.1.1 (s_rw a (ix k) (ix i)))
theorem AX.told {M : pv_M} {a : s_A} (h : AX M a) (k : Nat) (v : Int32) : AX (pv_up M 28 k v) a := h.same (fun p hp => pv_up_o (by omega))
set_option maxHeartbeats 4000000 in
theorem l_X6_hearRound {Γ : pv_G} {d u i : Nat} {l : Int32} {ok : Bool} {a : s_A} {M : pv_M} {x4 x6 : Int32} (hu : u ≤ 3) (hi : i + 6 ≤ (a.2.2.1 u).2.2) (hth : (a.2.2.1 u).1 = true) (ho : a_hear (nI u) l (nI i) ok a = if s_good a u i = true then (0, 0) else (-1, 0)) :
    ∀ (m j : Nat) (M1 : pv_M), j + m = 6 → AX M1 (a_flt a 0) → frX M M1 → (∀ x, x < j → s_cok a (a.2.2.2.1 u (i + x)) = true ∧ M1 28 x = s_rI (s_rw a u i x)) →
    PW Γ (d + 2) vX6_hearRound 76 [.ref 0, .int (nI u), .int l, .int (nI i), .int x4, .ref (2 + u), .int x6, .int (nI j)] [] M1 (fun r M' => r = some (.int (a_hear (nI u) l (nI i) ok a).1) ∧ a_heard a (nI u) (nI i) (a_hear (nI u) l (nI i) ok a) M M') := by
  have hu2 : u < 2 ^ 31 := by omega
  intro m
  induction m using Nat.strongRecOn with
  | ind m ih =>
    intro j M1 hjm hA1 hF1 hall
    have hH1 : HX M1 a.1 := hA1.1
    have hn5 := hH1.1.1
    obtain ⟨t1, t2, t3, t4, t5⟩ := (hA1.2.2.1 u (by omega)).2 hth
    have t4 : (a.2.2.1 u).2.2 ≤ 60 := t4
    have t5 : ∀ i, i < (a.2.2.1 u).2.2 → M1 (6 + u) i = a.2.2.2.1 u i := t5
    have hi2 : i < 2 ^ 31 := by omega
    refine PW_iload7 (pc' := 78) dX6_hearRound_76 rfl ?_
    refine PW_bipush (pc' := 80) dX6_hearRound_78 rfl (v := nI 6) (by first | rfl | decide) ?_
    refine PW_icmp_ge (tgt := 137) (pc' := 83) dX6_hearRound_80 rfl rfl (fun h80 => ?_) (fun h80 => ?_)
    · have hj : j = 6 := by have := s_bge (by omega) (by omega) h80; omega
      subst hj
      have hg := s_good_of (fun x hx => (hall x hx).1)
      rw [hg, if_pos rfl] at ho
      rw [ho]
      refine PW_iconst (pc' := 138) dX6_hearRound_137 rfl (v := 0) (by first | rfl | decide) ?_
      exact PW_ireturn .int dX6_hearRound_138 rfl rfl ⟨rfl, hA1, hF1, fun _ x hx => by
        rw [ix_nI hu2, ix_nI hi2]
        exact ⟨(hall x hx).2, (s_cok_rI hn5 (hall x hx).1).2⟩⟩
    · have hj : j < 6 := s_bnd (by omega) (by omega) h80
      refine PW_aload0 (pc' := 84) dX6_hearRound_83 rfl ?_
      refine PW_getR (pc' := 87) dX6_hearRound_84 rfl fX6_39 rfl rfl ?_
      refine PW_iload7 (pc' := 89) dX6_hearRound_87 rfl ?_
      refine PW_aload5 (pc' := 91) dX6_hearRound_89 rfl ?_
      refine PW_getR (pc' := 94) dX6_hearRound_91 rfl fX6_62 (pv_lay_sheet (by omega)) rfl ?_
      refine PW_iload3 (pc' := 95) dX6_hearRound_94 rfl ?_
      refine PW_iload7 (pc' := 97) dX6_hearRound_95 rfl ?_
      refine PW_iadd (pc' := 98) dX6_hearRound_97 rfl ?_
      rw [nI_add]
      refine PW_ialdn (pc' := 99) dX6_hearRound_98 rfl (pv_lay_cells (by omega)) rfl (by omega) ?_
      rw [t5 _ (by omega)]
      refine PW_iastn (pc' := 100) dX6_hearRound_99 rfl rfl rfl (by omega) ?_
      refine PW_aload0 (pc' := 101) dX6_hearRound_100 rfl ?_
      refine PW_getR (pc' := 104) dX6_hearRound_101 rfl fX6_39 rfl rfl ?_
      refine PW_iload7 (pc' := 106) dX6_hearRound_104 rfl ?_
      refine PW_ialdn (pc' := 107) dX6_hearRound_106 rfl rfl rfl (by omega) ?_
      rw [pv_up_at, if_pos ⟨rfl, rfl⟩]
      refine PW_bipush (pc' := 109) dX6_hearRound_107 rfl (v := -9) (by first | rfl | decide) ?_
      refine PW_icmp_eq (tgt := 131) (pc' := 112) dX6_hearRound_109 rfl rfl (fun h109 => ?_) (fun h109 => ?_)
      · refine PW_iinc7 (pc' := 134) dX6_hearRound_131 rfl rfl rfl nI_inc ?_
        refine PW_goto (tgt := 76) dX6_hearRound_134 rfl ?_
        first
          | have hcj : s_cok a (a.2.2.2.1 u (i + j)) = true := by simp [s_cok, show a.2.2.2.1 u (i + j) = -9 from h109]
          | have hcj : s_cok a (a.2.2.2.1 u (i + j)) = true := by simp [s_cok, s_hb, q9]
        refine ih (m - 1) (by omega) (j + 1) _ (by omega) (hA1.told j (a.2.2.2.1 u (i + j))) (hF1.up (by decide)) (fun x hx => ?_)
        by_cases hxj : x = j
        · subst hxj
          exact ⟨hcj, by rw [pv_up_at, if_pos ⟨rfl, rfl⟩]; exact (s_cok_rI hn5 hcj).1⟩
        · rw [pv_up_at, if_neg (fun z => hxj z.2)]
          exact hall x (by omega)
      · refine PW_aload0 (pc' := 113) dX6_hearRound_112 rfl ?_
        refine PW_getR (pc' := 116) dX6_hearRound_113 rfl fX6_21 rfl rfl ?_
        refine PW_aload0 (pc' := 117) dX6_hearRound_116 rfl ?_
        refine PW_getR (pc' := 120) dX6_hearRound_117 rfl fX6_39 rfl rfl ?_
        refine PW_iload7 (pc' := 122) dX6_hearRound_120 rfl ?_
        refine PW_ialdn (pc' := 123) dX6_hearRound_122 rfl rfl rfl (by omega) ?_
        rw [pv_up_at, if_pos ⟨rfl, rfl⟩]
        refine PW_callV1f (pc' := 126) dX6_hearRound_123 rfl oX0_has lX6_79 rfl rfl rfl (Nat.le_of_ble_eq_true rfl) (c_X0_hasb hn5 (show (pv_up M1 28 j (a.2.2.2.1 u (i + j))) 10 1 = nI a.1.1 from hH1.2.1)) ?_
        refine PW_if_ne (tgt := 131) (pc' := 129) dX6_hearRound_126 rfl rfl (fun h126 => ?_) (fun h126 => ?_)
        · have q9 := bi_t h126
          refine PW_iinc7 (pc' := 134) dX6_hearRound_131 rfl rfl rfl nI_inc ?_
          refine PW_goto (tgt := 76) dX6_hearRound_134 rfl ?_
          first
            | have hcj : s_cok a (a.2.2.2.1 u (i + j)) = true := by simp [s_cok, show a.2.2.2.1 u (i + j) = -9 from h109]
            | have hcj : s_cok a (a.2.2.2.1 u (i + j)) = true := by simp [s_cok, s_hb, q9]
          refine ih (m - 1) (by omega) (j + 1) _ (by omega) (hA1.told j (a.2.2.2.1 u (i + j))) (hF1.up (by decide)) (fun x hx => ?_)
          by_cases hxj : x = j
          · subst hxj
            exact ⟨hcj, by rw [pv_up_at, if_pos ⟨rfl, rfl⟩]; exact (s_cok_rI hn5 hcj).1⟩
          · rw [pv_up_at, if_neg (fun z => hxj z.2)]
            exact hall x (by omega)
        · have q9 := bi_f h126
          refine PW_iconst (pc' := 130) dX6_hearRound_129 rfl (v := -1) (by first | rfl | decide) ?_
          refine PW_ireturn .int dX6_hearRound_130 rfl rfl ?_
          have hcj : s_cok a (a.2.2.2.1 u (i + j)) = false := by
            simp only [s_cok, Bool.or_eq_false_iff, decide_eq_false_iff_not]
            exact ⟨h109, q9⟩
          rw [s_good_no hj hcj, if_neg (by decide)] at ho
          rw [ho]
          exact ⟨rfl, hA1.told _ _, hF1.up (by decide), fun z => absurd z (by decide)⟩
set_option maxHeartbeats 4000000 in
theorem c_X6_hearRound {Γ : pv_G} {d : Nat} {M : pv_M} {a : s_A} {k l i : Int32} {ok : Bool} (hA : AX M a) : Ct Γ (d + 2) vX6_hearRound [.ref 0, .int k, .int l, .int i, .int (bi ok)] M (fun r M' => r = some (.int (a_hear k l i ok a).1) ∧ a_heard a k i (a_hear k l i ok a) M M') := by
  obtain ⟨hH, hR, hSh, hfl, htr⟩ := id hA
  obtain ⟨hok, hc1, hc2, hc3, hf⟩ := id hH
  have hn5 := hok.1
  refine Ct.of oX6_hearRound.1 rfl (pad := 3) rfl ?_
  show PW Γ (d + 2) vX6_hearRound 0 [.ref 0, .int k, .int l, .int i, .int (bi ok), .null, .null, .null] [] M _
  refine PW_aload0 (pc' := 1) dX6_hearRound_0 rfl ?_
  refine PW_iconst (pc' := 2) dX6_hearRound_1 rfl (v := 0) (by first | rfl | decide) ?_
  refine PW_putI (pc' := 5) dX6_hearRound_2 rfl fX6_43 w5_5 rfl rfl ?_
  generalize hM1 : pv_up M 0 5 0 = M1
  have hA1 : AX M1 (a_flt a 0) := by rw [← hM1]; exact hA.fault 0
  have hF1 : frX M M1 := by rw [← hM1]; exact frX.rf.up (by decide)
  have hH1 : HX M1 a.1 := hA1.1
  have hc11 : M1 10 1 = nI a.1.1 := hH1.2.1
  have hS1 : ∀ k, k < 4 → s_sh M1 k (a.2.2.1 k) (a.2.2.2.1 k) := hA1.2.2.1
  refine PW_iload1 (pc' := 6) dX6_hearRound_5 rfl ?_
  refine PW_callS1f (pc' := 9) dX6_hearRound_6 rfl oX6_isSheet lX6_47 (Nat.le_of_ble_eq_true rfl) (c_X6_isSheet) ?_
  refine PW_if_ne (tgt := 14) (pc' := 12) dX6_hearRound_9 rfl rfl (fun h9 => ?_) (fun h9 => ?_)
  · have q := bi_t h9
    obtain ⟨u, hu, rfl⟩ := s_rng_of (n := 3) q
    have hu2 : u < 2 ^ 31 := by omega
    refine PW_iload2 (pc' := 15) dX6_hearRound_14 rfl ?_
    refine PW_callS1f (pc' := 18) dX6_hearRound_15 rfl oX6_isLane lX6_51 (Nat.le_of_ble_eq_true rfl) (c_X6_isLane) ?_
    refine PW_if_eq (tgt := 26) (pc' := 21) dX6_hearRound_18 rfl rfl (fun h18 => ?_) (fun h18 => ?_)
    · have q2 := bi_f h18
      refine PW_bipush (pc' := 28) dX6_hearRound_26 rfl (v := -2) (by first | rfl | decide) ?_
      refine PW_ireturn .int dX6_hearRound_28 rfl rfl ?_
      first
        | have ho : a_hear (nI u) l i ok a = (-2, 0) := by simp [a_hear, q, q2]
        | have ho : a_hear (nI u) l i ok a = (-2, 0) := by simp [a_hear, q, q2, q3]
      rw [ho]
      exact ⟨rfl, hA1, hF1, fun z => absurd z (by decide)⟩
    · have q2 := bi_t h18
      refine PW_iload4 (pc' := 23) dX6_hearRound_21 rfl ?_
      refine PW_if_ne (tgt := 29) (pc' := 26) dX6_hearRound_23 rfl rfl (fun h23 => ?_) (fun h23 => ?_)
      · have q3 := bi_t h23
        refine PW_aload0 (pc' := 30) dX6_hearRound_29 rfl ?_
        refine PW_getR (pc' := 33) dX6_hearRound_30 rfl fX6_21 rfl rfl ?_
        refine PW_callV0f (pc' := 36) dX6_hearRound_33 rfl oX0_stands lX6_107 rfl rfl rfl (Nat.le_of_ble_eq_true rfl) (c_X0_stands hn5 hc11) ?_
        refine PW_if_ne (tgt := 42) (pc' := 39) dX6_hearRound_36 rfl rfl (fun h36 => ?_) (fun h36 => ?_)
        · have hp := bi_t h36
          have hp : ¬ a.1.1 = 0 := by
            simp only [decide_eq_true_eq] at hp
            omega
          refine PW_aload0 (pc' := 43) dX6_hearRound_42 rfl ?_
          refine PW_getR (pc' := 46) dX6_hearRound_43 rfl fX6_13 rfl rfl ?_
          refine PW_iload1 (pc' := 47) dX6_hearRound_46 rfl ?_
          refine PW_aald2 (pc' := 48) dX6_hearRound_47 rfl (by omega) ?_
          refine PW_astore5 (pc' := 50) dX6_hearRound_48 rfl rfl rfl ?_
          refine PW_aload5 (pc' := 52) dX6_hearRound_50 rfl ?_
          refine PW_iload2 (pc' := 53) dX6_hearRound_52 rfl ?_
          refine PW_iload3 (pc' := 54) dX6_hearRound_53 rfl ?_
          refine PW_bipush (pc' := 56) dX6_hearRound_54 rfl (v := 6) (by first | rfl | decide) ?_
          refine PW_callV3f (pc' := 59) dX6_hearRound_56 rfl oX3_faultOfCells lX6_54 (pv_lay_sheet (by omega)) rfl rfl (Nat.le_of_ble_eq_true rfl) (c_X3_faultOfCells (show u < 4 by omega)) ?_
          rw [v_foc_eq (hS1 u (by omega))]
          have hle := s_foc_le (a.2.2.1 u) l i 6
          refine PW_istore6 (pc' := 61) dX6_hearRound_59 rfl rfl rfl ?_
          refine PW_iload6 (pc' := 63) dX6_hearRound_61 rfl ?_
          refine PW_if_eq (tgt := 73) (pc' := 66) dX6_hearRound_63 rfl rfl (fun h63 => ?_) (fun h63 => ?_)
          · have q4 : s_foc (a.2.2.1 u) l i 6 = 0 := nI_inj (by omega) (by decide) h63
            refine PW_iconst (pc' := 74) dX6_hearRound_73 rfl (v := nI 0) (by first | rfl | decide) ?_
            refine PW_istore7 (pc' := 76) dX6_hearRound_74 rfl rfl rfl ?_
            obtain ⟨g1, g2, g3⟩ := s_foc_0 q4
            obtain ⟨-, -, w3, w4, -⟩ := s_hol_of g3
            have w3 : ix i + 6 ≤ (a.2.2.1 u).2.2 := w3
            have ho : a_hear (nI u) l i ok a = if s_good a u (ix i) = true then (0, 0) else (-1, 0) := by simp [a_hear, q, q2, q3, hp, q4, ix_nI hu2]
            rw [w4] at ho ⊢
            have w5 : ix (nI (ix i)) = ix i := by rw [← w4]
            rw [w5] at ho
            exact l_X6_hearRound hu w3 g1 ho 6 0 M1 (by omega) hA1 hF1 (fun x hx => absurd hx (Nat.not_lt_zero x))
          · have q4 : ¬ s_foc (a.2.2.1 u) l i 6 = 0 := fun z => h63 (by rw [z]; rfl)
            refine PW_aload0 (pc' := 67) dX6_hearRound_66 rfl ?_
            refine PW_iload6 (pc' := 69) dX6_hearRound_67 rfl ?_
            refine PW_callV1f (pc' := 72) dX6_hearRound_69 rfl oX6_answerFault lX6_58 rfl rfl rfl (Nat.le_of_ble_eq_true rfl) (c_X6_answerFault) ?_
            refine PW_ireturn .int dX6_hearRound_72 rfl rfl ?_
            have ho : a_hear (nI u) l i ok a = (-10 - nI (s_foc (a.2.2.1 u) l i 6), nI (s_foc (a.2.2.1 u) l i 6)) := by simp [a_hear, q, q2, q3, hp, q4, ix_nI hu2]
            rw [ho]
            have hm : ∀ f, f ≤ 4 → ¬ (-10 - nI f : Int32) = 0 := by decide +kernel
            exact ⟨rfl, hA1.fault _, hF1.up (by decide), fun z => absurd z (hm _ hle)⟩
        · have hp := bi_f h36
          have hp : a.1.1 = 0 := by
            simp only [decide_eq_false_iff_not] at hp
            omega
          refine PW_bipush (pc' := 41) dX6_hearRound_39 rfl (v := -3) (by first | rfl | decide) ?_
          refine PW_ireturn .int dX6_hearRound_41 rfl rfl ?_
          have ho : a_hear (nI u) l i ok a = (-3, 0) := by simp [a_hear, q, q2, q3, hp]
          rw [ho]
          exact ⟨rfl, hA1, hF1, fun z => absurd z (by decide)⟩
      · have q3 := bi_f h23
        refine PW_bipush (pc' := 28) dX6_hearRound_26 rfl (v := -2) (by first | rfl | decide) ?_
        refine PW_ireturn .int dX6_hearRound_28 rfl rfl ?_
        first
          | have ho : a_hear (nI u) l i ok a = (-2, 0) := by simp [a_hear, q, q2]
          | have ho : a_hear (nI u) l i ok a = (-2, 0) := by simp [a_hear, q, q2, q3]
        rw [ho]
        exact ⟨rfl, hA1, hF1, fun z => absurd z (by decide)⟩
  · have q := bi_f h9
    refine PW_iconst (pc' := 13) dX6_hearRound_12 rfl (v := -1) (by first | rfl | decide) ?_
    refine PW_ireturn .int dX6_hearRound_13 rfl rfl ?_
    have ho : a_hear k l i ok a = (-1, 0) := by simp [a_hear, q]
    rw [ho]
    exact ⟨rfl, hA1, hF1, fun z => absurd z (by decide)⟩
