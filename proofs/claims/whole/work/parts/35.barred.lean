/-! the reference: six cells as a round -/
/-- six cells of a sheet that may not be heard -/
def a_bar (u : Nat) (l i : Int32) (a : s_A) : Int32 × Int32 := if s_foc (a.2.2.1 u) l i 6 = 0 then (if s_good a u (ix i) = true then (0, 0) else (-1, 0)) else (-10 - nI (s_foc (a.2.2.1 u) l i 6), nI (s_foc (a.2.2.1 u) l i 6))
def a_barred (u : Nat) (l i : Int32) (a : s_A) (M : pv_M) : pv_Q := fun r M' => r = some (.int (a_bar u l i a).1) ∧ AM M' (a_flt a (a_bar u l i a).2) ∧ frM M M' ∧ ((a_bar u l i a).1 = 0 → s_row M' 40 6 a.1.1 (s_rw a u (ix i)))
theorem v_bar_neg : ∀ f, f ≤ 4 → ¬ f = 0 → ¬ (0 ≤ v_bar f) ∧ ¬ (-10 - nI f : Int32) = 0 := by decide +kernel
set_option maxHeartbeats 4000000 in
theorem l_X7_roundBarred {Γ : pv_G} {d u i : Nat} {l : Int32} {a : s_A} {M : pv_M} {x4 : Int32} (hu : u < 4) (hi : i + 6 ≤ (a.2.2.1 u).2.2) (hth : (a.2.2.1 u).1 = true) (hA : AM M a) (ho : a_bar u l (nI i) a = if s_good a u i = true then (0, 0) else (-1, 0)) :
    ∀ (m j : Nat) (M1 : pv_M), j + m = 6 → frS M M1 → (∀ x, x < j → s_cok a (a.2.2.2.1 u (i + x)) = true ∧ M1 40 x = s_rI (s_rw a u i x)) →
    PW Γ (d + 2) vX7_roundBarred 23 [.ref 29, .int (nI u), .int l, .int (nI i), .int x4, .int (nI j)] [] M1 (a_barred u l (nI i) a M) := by
  have hu2 : u < 2 ^ 31 := by omega
  intro m
  induction m using Nat.strongRecOn with
  | ind m ih =>
    intro j M1 hjm hF1 hall
    have hA1 := hA.scr hF1
    have hn5 := hA1.1.1.1
    have hc1 := hA1.1.2.1
    obtain ⟨t1, t2, t3, t4, t5⟩ := (hA1.2.2.1 u (by omega)).1 hth
    have t5 : ∀ i, i < (a.2.2.1 u).2.2 → M1 48 (60 * u + i) = a.2.2.2.1 u i := t5
    have hi2 : i < 2 ^ 31 := by omega
    refine PW_iload5 (pc' := 25) dX7_roundBarred_23 rfl ?_
    refine PW_bipush (pc' := 27) dX7_roundBarred_25 rfl (v := nI 6) (by first | rfl | decide) ?_
    refine PW_icmp_ge (tgt := 89) (pc' := 30) dX7_roundBarred_27 rfl rfl (fun h27 => ?_) (fun h27 => ?_)
    · have hj : j = 6 := by have := s_bge (by omega) (by omega) h27; omega
      subst hj
      have hg := s_good_of (fun x hx => (hall x hx).1)
      rw [hg, if_pos rfl] at ho
      refine PW_aload0 (pc' := 90) dX7_roundBarred_89 rfl ?_
      refine PW_iconst (pc' := 91) dX7_roundBarred_90 rfl (v := 0) (by first | rfl | decide) ?_
      refine PW_callV1f (pc' := 94) dX7_roundBarred_91 rfl oX7_refused lX7_124 rfl rfl rfl (Nat.le_of_ble_eq_true rfl) (c_X7_refused) ?_
      refine PW_ireturn .int dX7_roundBarred_94 rfl rfl ?_
      unfold a_barred
      rw [ho]
      exact ⟨rfl, hA1.fault 0, hF1.frM.up (by decide), fun _ x hx => by
        rw [ix_nI hi2, pv_up_o (by decide)]
        exact ⟨(hall x hx).2, (s_cok_rI hn5 (hall x hx).1).2⟩⟩
    · have hj : j < 6 := s_bnd (by omega) (by omega) h27
      refine PW_aload0 (pc' := 31) dX7_roundBarred_30 rfl ?_
      refine PW_getR (pc' := 34) dX7_roundBarred_31 rfl fX7_40 rfl rfl ?_
      refine PW_iload5 (pc' := 36) dX7_roundBarred_34 rfl ?_
      refine PW_aload0 (pc' := 37) dX7_roundBarred_36 rfl ?_
      refine PW_getR (pc' := 40) dX7_roundBarred_37 rfl fX7_65 rfl rfl ?_
      refine PW_bipush (pc' := 42) dX7_roundBarred_40 rfl (v := nI 60) (by first | rfl | decide) ?_
      refine PW_iload1 (pc' := 43) dX7_roundBarred_42 rfl ?_
      refine PW_imul (pc' := 44) dX7_roundBarred_43 rfl ?_
      rw [show nI 60 * nI u = nI (60 * u) from nI_mul _ _]
      refine PW_iload3 (pc' := 45) dX7_roundBarred_44 rfl ?_
      refine PW_iadd (pc' := 46) dX7_roundBarred_45 rfl ?_
      rw [nI_add]
      refine PW_iload5 (pc' := 48) dX7_roundBarred_46 rfl ?_
      refine PW_iadd (pc' := 49) dX7_roundBarred_48 rfl ?_
      rw [nI_add]
      refine PW_ialdn (pc' := 50) dX7_roundBarred_49 rfl rfl rfl (show 60 * u + i + j < 240 by omega) ?_
      rw [show 60 * u + i + j = 60 * u + (i + j) by omega, t5 _ (by omega)]
      refine PW_iastn (pc' := 51) dX7_roundBarred_50 rfl rfl rfl (by omega) ?_
      refine PW_aload0 (pc' := 52) dX7_roundBarred_51 rfl ?_
      refine PW_getR (pc' := 55) dX7_roundBarred_52 rfl fX7_40 rfl rfl ?_
      refine PW_iload5 (pc' := 57) dX7_roundBarred_55 rfl ?_
      refine PW_ialdn (pc' := 58) dX7_roundBarred_57 rfl rfl rfl (by omega) ?_
      rw [pv_up_at, if_pos ⟨rfl, rfl⟩]
      refine PW_bipush (pc' := 60) dX7_roundBarred_58 rfl (v := -9) (by first | rfl | decide) ?_
      refine PW_icmp_eq (tgt := 83) (pc' := 63) dX7_roundBarred_60 rfl rfl (fun h60 => ?_) (fun h60 => ?_)
      · refine PW_iinc5 (pc' := 86) dX7_roundBarred_83 rfl rfl rfl nI_inc ?_
        refine PW_goto (tgt := 23) dX7_roundBarred_86 rfl ?_
        first
          | have hcj : s_cok a (a.2.2.2.1 u (i + j)) = true := by simp [s_cok, show a.2.2.2.1 u (i + j) = -9 from h60]
          | have hcj : s_cok a (a.2.2.2.1 u (i + j)) = true := by simp [s_cok, s_hb, q9]
        refine ih (m - 1) (by omega) (j + 1) _ (by omega) (hF1.up (by decide)) (fun x hx => ?_)
        by_cases hxj : x = j
        · subst hxj
          exact ⟨hcj, by rw [pv_up_at, if_pos ⟨rfl, rfl⟩]; exact (s_cok_rI hn5 hcj).1⟩
        · rw [pv_up_at, if_neg (fun z => hxj z.2)]
          exact hall x (by omega)
      · refine PW_aload0 (pc' := 64) dX7_roundBarred_63 rfl ?_
        refine PW_aload0 (pc' := 65) dX7_roundBarred_64 rfl ?_
        refine PW_getR (pc' := 68) dX7_roundBarred_65 rfl fX7_40 rfl rfl ?_
        refine PW_iload5 (pc' := 70) dX7_roundBarred_68 rfl ?_
        refine PW_ialdn (pc' := 71) dX7_roundBarred_70 rfl rfl rfl (by omega) ?_
        rw [pv_up_at, if_pos ⟨rfl, rfl⟩]
        refine PW_callV1f (pc' := 74) dX7_roundBarred_71 rfl oX7_noThing lX7_145 rfl rfl rfl (Nat.le_of_ble_eq_true rfl) (c_X7_noThing hn5 (by rw [pv_up_p (by omega)]; exact hc1)) ?_
        refine PW_if_eq (tgt := 83) (pc' := 77) dX7_roundBarred_74 rfl rfl (fun h74 => ?_) (fun h74 => ?_)
        · have q9 := bn_f h74
          refine PW_iinc5 (pc' := 86) dX7_roundBarred_83 rfl rfl rfl nI_inc ?_
          refine PW_goto (tgt := 23) dX7_roundBarred_86 rfl ?_
          first
            | have hcj : s_cok a (a.2.2.2.1 u (i + j)) = true := by simp [s_cok, show a.2.2.2.1 u (i + j) = -9 from h60]
            | have hcj : s_cok a (a.2.2.2.1 u (i + j)) = true := by simp [s_cok, s_hb, q9]
          refine ih (m - 1) (by omega) (j + 1) _ (by omega) (hF1.up (by decide)) (fun x hx => ?_)
          by_cases hxj : x = j
          · subst hxj
            exact ⟨hcj, by rw [pv_up_at, if_pos ⟨rfl, rfl⟩]; exact (s_cok_rI hn5 hcj).1⟩
          · rw [pv_up_at, if_neg (fun z => hxj z.2)]
            exact hall x (by omega)
        · have q9 := bn_t h74
          refine PW_aload0 (pc' := 78) dX7_roundBarred_77 rfl ?_
          refine PW_iconst (pc' := 79) dX7_roundBarred_78 rfl (v := -1) (by first | rfl | decide) ?_
          refine PW_callV1f (pc' := 82) dX7_roundBarred_79 rfl oX7_refused lX7_124 rfl rfl rfl (Nat.le_of_ble_eq_true rfl) (c_X7_refused) ?_
          refine PW_ireturn .int dX7_roundBarred_82 rfl rfl ?_
          have hcj : s_cok a (a.2.2.2.1 u (i + j)) = false := by
            simp only [s_cok, Bool.or_eq_false_iff, decide_eq_false_iff_not]
            exact ⟨h60, q9⟩
          rw [s_good_no hj hcj, if_neg (by decide)] at ho
          unfold a_barred
          rw [ho]
          exact ⟨rfl, (hA.scr (hF1.up (by decide))).fault 0, (hF1.up (p := 40) (by decide)).frM.up (by decide), fun z => absurd z (by decide)⟩
set_option maxHeartbeats 4000000 in
theorem c_X7_roundBarred {Γ : pv_G} {d : Nat} {M : pv_M} {a : s_A} {u : Nat} {l i : Int32} (hu : u < 4) (hA : AM M a) : Ct Γ (d + 2) vX7_roundBarred [.ref 29, .int (nI u), .int l, .int i] M (a_barred u l i a M) := by
  obtain ⟨hH, hR, hSh, hfl, htr, hnv⟩ := id hA
  obtain ⟨hok, hc1, hc2, hc3, hf⟩ := id hH
  have hn5 := hok.1
  have hf0 := fun t ht => hf t ht 0 (by decide)
  have hf2 := fun t ht => hf t ht 2 (by decide)
  have hf4 := fun t ht => hf t ht 4 (by decide)
  refine Ct.of oX7_roundBarred.1 rfl (pad := 2) rfl ?_
  show PW Γ (d + 2) vX7_roundBarred 0 [.ref 29, .int (nI u), .int l, .int i, .null, .null] [] M _
  refine PW_aload0 (pc' := 1) dX7_roundBarred_0 rfl ?_
  refine PW_iload1 (pc' := 2) dX7_roundBarred_1 rfl ?_
  refine PW_iload2 (pc' := 3) dX7_roundBarred_2 rfl ?_
  refine PW_iload3 (pc' := 4) dX7_roundBarred_3 rfl ?_
  refine PW_ldc2 (pc' := 7) dX7_roundBarred_4 rfl qX7_178 ?_
  refine PW_callV4f (pc' := 10) dX7_roundBarred_7 rfl oX7_cellsBarred lX7_129 rfl rfl rfl (Nat.le_of_ble_eq_true rfl) (c_X7_cellsBarred (n := 6) hu (hSh u hu)) ?_
  have hle := s_foc_le (a.2.2.1 u) l i 6
  refine PW_istore4 (pc' := 12) dX7_roundBarred_10 rfl rfl rfl ?_
  refine PW_iload4 (pc' := 14) dX7_roundBarred_12 rfl ?_
  refine PW_if_ge (tgt := 20) (pc' := 17) dX7_roundBarred_14 rfl rfl (fun h14 => ?_) (fun h14 => ?_)
  · have q : s_foc (a.2.2.1 u) l i 6 = 0 := Classical.not_not.mp (fun z => (v_bar_neg _ hle z).1 h14)
    refine PW_iconst (pc' := 21) dX7_roundBarred_20 rfl (v := nI 0) (by first | rfl | decide) ?_
    refine PW_istore5 (pc' := 23) dX7_roundBarred_21 rfl rfl rfl ?_
    obtain ⟨g1, g2, g3⟩ := s_foc_0 q
    obtain ⟨-, -, w3, w4, -⟩ := s_hol_of g3
    have w3 : ix i + 6 ≤ (a.2.2.1 u).2.2 := w3
    have ho : a_bar u l i a = if s_good a u (ix i) = true then (0, 0) else (-1, 0) := if_pos q
    rw [m_bar, if_pos q]
    rw [w4] at ho ⊢
    have w5 : ix (nI (ix i)) = ix i := by rw [← w4]
    rw [w5] at ho
    exact l_X7_roundBarred hu w3 g1 hA ho 6 0 M (by omega) frS.rf (fun x hx => absurd hx (Nat.not_lt_zero x))
  · have q : ¬ s_foc (a.2.2.1 u) l i 6 = 0 := fun z => h14 (by rw [z]; decide)
    refine PW_iload4 (pc' := 19) dX7_roundBarred_17 rfl ?_
    refine PW_ireturn .int dX7_roundBarred_19 rfl rfl ?_
    have ho : a_bar u l i a = (-10 - nI (s_foc (a.2.2.1 u) l i 6), nI (s_foc (a.2.2.1 u) l i 6)) := if_neg q
    unfold a_barred
    rw [ho]
    refine ⟨?_, ?_, ?_, fun z => absurd z (v_bar_neg _ hle q).2⟩
    · rw [v_bar, if_neg q]
    · rw [m_bar, if_neg q]; exact hA.fault _
    · rw [m_bar, if_neg q]; exact frM.rf.up (by decide)
