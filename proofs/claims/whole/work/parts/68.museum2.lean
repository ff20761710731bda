/-! the reference: museum -/
/-- a museum taken over, thing by thing -/
def m_J (M : pv_M) (pn g : Nat) (fl : Nat → Nat → Nat) (j : Nat) (M2 : pv_M) : Prop := (∀ p, p ∉ [29, 30, 31, 32, 33, 34, 35, 36, 37, 38, 39, 40, 41, 42, 49] → M2 p = M p) ∧ (∀ k, k ∉ [1, 2, 3, 10, 11, 12, 21, 22, 23, 24] → M2 29 k = M 29 k) ∧ M2 29 1 = nI pn ∧ M2 29 2 = nI 3 ∧ M2 29 3 = nI g ∧ (∀ x, x < g → ∀ f, f < 5 → M2 (35 + f) x = nI (fl f x)) ∧ ∀ x, x < j → ∀ f, f < 5 → M2 (30 + f) x = nI (fl f x)
theorem m_J.start {M M1 : pv_M} {pn g : Nat} {fl : Nat → Nat → Nat} (hF : frS M M1) (h : ∀ x, x < g → ∀ f, f < 5 → M1 (35 + f) x = nI (fl f x)) : m_J M pn g fl 0 (pv_up (pv_up (pv_up M1 29 1 (nI pn)) 29 2 (nI 3)) 29 3 (nI g)) := by
  refine ⟨fun p hp => ?_, fun k hk => ?_, ?_, ?_, by rw [pv_up_at, if_pos ⟨rfl, rfl⟩], fun x hx f hf => ?_, fun x hx => absurd hx (Nat.not_lt_zero x)⟩
  · have hne : p ≠ 29 := fun z => hp (by rw [z]; decide)
    rw [pv_up_o hne, pv_up_o hne, pv_up_o hne]
    exact hF.1 p (fun z => hp (by simp only [List.mem_cons, List.not_mem_nil, or_false] at z ⊢; omega))
  · simp only [List.mem_cons, List.not_mem_nil, or_false, not_or] at hk
    rw [pv_up_at, if_neg (by omega), pv_up_at, if_neg (by omega), pv_up_at, if_neg (by omega)]
    exact hF.2 k (by simp only [List.mem_cons, List.not_mem_nil, or_false, not_or]; omega)
  · rw [pv_up_at, if_neg (by decide), pv_up_at, if_neg (by decide), pv_up_at, if_pos ⟨rfl, rfl⟩]
  · rw [pv_up_at, if_neg (by decide), pv_up_at, if_pos ⟨rfl, rfl⟩]
  · rw [pv_up_o (by omega), pv_up_o (by omega), pv_up_o (by omega)]
    exact h x hx f hf
theorem m_J.step {M M2 : pv_M} {pn g j : Nat} {fl : Nat → Nat → Nat} (h : m_J M pn g fl j M2) : m_J M pn g fl (j + 1) (pv_up (pv_up (pv_up (pv_up (pv_up M2 30 j (nI (fl 0 j))) 31 j (nI (fl 1 j))) 32 j (nI (fl 2 j))) 33 j (nI (fl 3 j))) 34 j (nI (fl 4 j))) := by
  obtain ⟨h1, h2, h3, h4, h5, h6, h7⟩ := h
  have o : ∀ p, p ∉ [30, 31, 32, 33, 34] → (pv_up (pv_up (pv_up (pv_up (pv_up M2 30 j (nI (fl 0 j))) 31 j (nI (fl 1 j))) 32 j (nI (fl 2 j))) 33 j (nI (fl 3 j))) 34 j (nI (fl 4 j))) p = M2 p := by
    intro p hp
    simp only [List.mem_cons, List.not_mem_nil, or_false, not_or] at hp
    rw [pv_up_o hp.2.2.2.2, pv_up_o hp.2.2.2.1, pv_up_o hp.2.2.1, pv_up_o hp.2.1, pv_up_o hp.1]
  have o29 := o 29 (by decide)
  refine ⟨fun p hp => ?_, fun k hk => by rw [o29]; exact h2 k hk, by rw [o29]; exact h3, by rw [o29]; exact h4, by rw [o29]; exact h5, fun x hx f hf => ?_, fun x hx f hf => ?_⟩
  · rw [o p (fun z => hp (by simp only [List.mem_cons, List.not_mem_nil, or_false] at z ⊢; omega))]
    exact h1 p hp
  · rw [o (35 + f) (by simp only [List.mem_cons, List.not_mem_nil, or_false, not_or]; omega)]
    exact h6 x hx f hf
  · by_cases hxj : x = j
    · subst hxj
      rcases (show f = 0 ∨ f = 1 ∨ f = 2 ∨ f = 3 ∨ f = 4 by omega) with rfl | rfl | rfl | rfl | rfl <;> simp [pv_up_at]
    · have e : ∀ g, ¬ (30 + f = g ∧ x = j) := fun g z => hxj z.2
      rw [pv_up_at, if_neg (e _), pv_up_at, if_neg (e _), pv_up_at, if_neg (e _), pv_up_at, if_neg (e _), pv_up_at, if_neg (e _)]
      exact h7 x (by omega) f hf
theorem m_J.done {M M2 : pv_M} {pn g : Nat} {fl : Nat → Nat → Nat} {a : s_A} (hA : AM M a) (hok : s_ok (g, pn, 3, fl)) (h : m_J M pn g fl g M2) : AM (pv_up (pv_up M2 29 25 0) 29 0 0) (a_rd (a_hs (a_flt a 0) (g, pn, 3, fl)) (0, a.2.1.2.1, a.2.1.2.2.1, a.2.1.2.2.2)) ∧ frM M (pv_up (pv_up M2 29 25 0) 29 0 0) := by
  obtain ⟨h1, h2, h3, h4, h5, h6, h7⟩ := h
  obtain ⟨hH, hR, hSh, hfl, htr, hnv⟩ := hA
  refine ⟨⟨⟨hok, ?_, ?_, ?_, fun t ht f hf => ?_⟩, ⟨?_, Nat.zero_le _, fun x hx => absurd hx (Nat.not_lt_zero x)⟩, fun k hk => ?_, ?_, ?_, ?_⟩, fun p hp => ?_⟩
  · rw [pv_up_at, if_neg (by decide), pv_up_at, if_neg (by decide)]; exact h5
  · rw [pv_up_at, if_neg (by decide), pv_up_at, if_neg (by decide)]; exact h3
  · rw [pv_up_at, if_neg (by decide), pv_up_at, if_neg (by decide)]; exact h4
  · rw [pv_up_o (by omega), pv_up_o (by omega)]; exact h7 t ht f hf
  · rw [pv_up_at, if_neg (by decide), pv_up_at, if_pos ⟨rfl, rfl⟩]; rfl
  · unfold s_shM
    rw [pv_up_o (show 46 ≠ 29 by decide), pv_up_o (show 46 ≠ 29 by decide), pv_up_o (show 47 ≠ 29 by decide), pv_up_o (show 47 ≠ 29 by decide), pv_up_o (show 48 ≠ 29 by decide), pv_up_o (show 48 ≠ 29 by decide), h1 46 (by decide), h1 47 (by decide), h1 48 (by decide)]
    exact hSh k hk
  · rw [pv_up_at, if_pos ⟨rfl, rfl⟩]; rfl
  · rw [pv_up_at, if_neg (by decide), pv_up_at, if_neg (by decide), h2 33 (by decide)]; exact htr
  · rw [pv_up_at, if_neg (by decide), pv_up_at, if_neg (by decide), h2 9 (by decide)]; exact hnv
  · rw [pv_up_o (by omega), pv_up_o (by omega)]
    exact h1 p (by simp only [List.mem_cons, List.not_mem_nil, or_false, not_or]; omega)
set_option maxHeartbeats 4000000 in
theorem l_X7_mus103 {Γ : pv_G} {d pn g : Nat} {fl : Nat → Nat → Nat} {M : pv_M} {Q : pv_Q} {x1 x2 x3 x4 x5 : Int32} (hg : g ≤ 5) (hQ : ∀ M2, m_J M pn g fl g M2 → Q (some (.int (nI g))) (pv_up (pv_up M2 29 25 0) 29 0 0)) : ∀ (m j : Nat) (M2 : pv_M), j + m = g → m_J M pn g fl j M2 →
    PW Γ (d + 4) vX7_museum 103 [.ref 29, .int x1, .int x2, .int x3, .int x4, .int x5, .int (nI j)] [] M2 Q := by
  intro m
  induction m using Nat.strongRecOn with
  | ind m ih =>
    intro j M2 hjm hJ
    obtain ⟨h1, h2, h3, h4, h5, h6, h7⟩ := id hJ
    refine PW_iload6 (pc' := 105) dX7_museum_103 rfl ?_
    refine PW_aload0 (pc' := 106) dX7_museum_105 rfl ?_
    refine PW_getI (pc' := 109) dX7_museum_106 rfl fX7_84 rfl rfl ?_
    rw [h5]
    refine PW_icmp_ge (tgt := 188) (pc' := 112) dX7_museum_109 rfl rfl (fun h109 => ?_) (fun h109 => ?_)
    · have hj : j = g := by have := s_bge (by omega) (by omega) h109; omega
      rw [hj] at hJ
      refine PW_aload0 (pc' := 189) dX7_museum_188 rfl ?_
      refine PW_iconst (pc' := 190) dX7_museum_189 rfl (v := 0) (by first | rfl | decide) ?_
      refine PW_putI (pc' := 193) dX7_museum_190 rfl fX7_142 w6_25 rfl rfl ?_
      refine PW_aload0 (pc' := 194) dX7_museum_193 rfl ?_
      refine PW_aload0 (pc' := 195) dX7_museum_194 rfl ?_
      refine PW_getI (pc' := 198) dX7_museum_195 rfl fX7_84 rfl rfl ?_
      rw [pv_up_at, if_neg (by decide), h5]
      refine PW_callV1f (pc' := 201) dX7_museum_198 rfl oX7_refused lX7_124 rfl rfl rfl (Nat.le_of_ble_eq_true rfl) (c_X7_refused) ?_
      refine PW_ireturn .int dX7_museum_201 rfl rfl ?_
      exact hQ M2 hJ
    · have hj : j < g := s_bnd (by omega) (by omega) h109
      have r0 : M2 35 j = nI (fl 0 j) := h6 j hj 0 (by decide)
      have r1 : M2 36 j = nI (fl 1 j) := h6 j hj 1 (by decide)
      have r2 : M2 37 j = nI (fl 2 j) := h6 j hj 2 (by decide)
      have r3 : M2 38 j = nI (fl 3 j) := h6 j hj 3 (by decide)
      have r4 : M2 39 j = nI (fl 4 j) := h6 j hj 4 (by decide)
      refine PW_aload0 (pc' := 113) dX7_museum_112 rfl ?_
      refine PW_getR (pc' := 116) dX7_museum_113 rfl fX7_7 rfl rfl ?_
      refine PW_iload6 (pc' := 118) dX7_museum_116 rfl ?_
      refine PW_aload0 (pc' := 119) dX7_museum_118 rfl ?_
      refine PW_getR (pc' := 122) dX7_museum_119 rfl fX7_25 rfl rfl ?_
      refine PW_iload6 (pc' := 124) dX7_museum_122 rfl ?_
      refine PW_ialdn (pc' := 125) dX7_museum_124 rfl rfl rfl (by omega) ?_
      rw [r0]
      refine PW_iastn (pc' := 126) dX7_museum_125 rfl rfl rfl (by omega) ?_
      refine PW_aload0 (pc' := 127) dX7_museum_126 rfl ?_
      refine PW_getR (pc' := 130) dX7_museum_127 rfl fX7_13 rfl rfl ?_
      refine PW_iload6 (pc' := 132) dX7_museum_130 rfl ?_
      refine PW_aload0 (pc' := 133) dX7_museum_132 rfl ?_
      refine PW_getR (pc' := 136) dX7_museum_133 rfl fX7_28 rfl rfl ?_
      refine PW_iload6 (pc' := 138) dX7_museum_136 rfl ?_
      refine PW_ialdn (pc' := 139) dX7_museum_138 rfl rfl rfl (by omega) ?_
      rw [pv_up_o (show 36 ≠ 30 by decide), r1]
      refine PW_iastn (pc' := 140) dX7_museum_139 rfl rfl rfl (by omega) ?_
      refine PW_aload0 (pc' := 141) dX7_museum_140 rfl ?_
      refine PW_getR (pc' := 144) dX7_museum_141 rfl fX7_16 rfl rfl ?_
      refine PW_iload6 (pc' := 146) dX7_museum_144 rfl ?_
      refine PW_aload0 (pc' := 147) dX7_museum_146 rfl ?_
      refine PW_getR (pc' := 150) dX7_museum_147 rfl fX7_31 rfl rfl ?_
      refine PW_iload6 (pc' := 152) dX7_museum_150 rfl ?_
      refine PW_ialdn (pc' := 153) dX7_museum_152 rfl rfl rfl (by omega) ?_
      rw [pv_up_o (show 37 ≠ 31 by decide), pv_up_o (show 37 ≠ 30 by decide), r2]
      refine PW_iastn (pc' := 154) dX7_museum_153 rfl rfl rfl (by omega) ?_
      refine PW_aload0 (pc' := 155) dX7_museum_154 rfl ?_
      refine PW_getR (pc' := 158) dX7_museum_155 rfl fX7_19 rfl rfl ?_
      refine PW_iload6 (pc' := 160) dX7_museum_158 rfl ?_
      refine PW_aload0 (pc' := 161) dX7_museum_160 rfl ?_
      refine PW_getR (pc' := 164) dX7_museum_161 rfl fX7_34 rfl rfl ?_
      refine PW_iload6 (pc' := 166) dX7_museum_164 rfl ?_
      refine PW_ialdn (pc' := 167) dX7_museum_166 rfl rfl rfl (by omega) ?_
      rw [pv_up_o (show 38 ≠ 32 by decide), pv_up_o (show 38 ≠ 31 by decide), pv_up_o (show 38 ≠ 30 by decide), r3]
      refine PW_iastn (pc' := 168) dX7_museum_167 rfl rfl rfl (by omega) ?_
      refine PW_aload0 (pc' := 169) dX7_museum_168 rfl ?_
      refine PW_getR (pc' := 172) dX7_museum_169 rfl fX7_22 rfl rfl ?_
      refine PW_iload6 (pc' := 174) dX7_museum_172 rfl ?_
      refine PW_aload0 (pc' := 175) dX7_museum_174 rfl ?_
      refine PW_getR (pc' := 178) dX7_museum_175 rfl fX7_37 rfl rfl ?_
      refine PW_iload6 (pc' := 180) dX7_museum_178 rfl ?_
      refine PW_ialdn (pc' := 181) dX7_museum_180 rfl rfl rfl (by omega) ?_
      rw [pv_up_o (show 39 ≠ 33 by decide), pv_up_o (show 39 ≠ 32 by decide), pv_up_o (show 39 ≠ 31 by decide), pv_up_o (show 39 ≠ 30 by decide), r4]
      refine PW_iastn (pc' := 182) dX7_museum_181 rfl rfl rfl (by omega) ?_
      refine PW_iinc6 (pc' := 185) dX7_museum_182 rfl rfl rfl nI_inc ?_
      refine PW_goto (tgt := 103) dX7_museum_185 rfl ?_
      exact ih (m - 1) (by omega) (j + 1) _ (by omega) hJ.step
set_option maxHeartbeats 4000000 in
theorem c_X7_museum {Γ : pv_G} {d : Nat} {M : pv_M} {a : s_A} {k l i n : Int32} (hA : AM M a) : Ct Γ (d + 4) vX7_museum [.ref 29, .int k, .int l, .int i, .int n] M (o_M (op_museum k l i n a) M) := by
  obtain ⟨hH, hR, hSh, hfl, htr, hnv⟩ := id hA
  obtain ⟨hok, hc1, hc2, hc3, hf⟩ := id hH
  have hn5 := hok.1
  have hf0 := fun t ht => hf t ht 0 (by decide)
  have hf2 := fun t ht => hf t ht 2 (by decide)
  have hf4 := fun t ht => hf t ht 4 (by decide)
  refine Ct.of oX7_museum.1 rfl (pad := 2) rfl ?_
  show PW Γ (d + 4) vX7_museum 0 [.ref 29, .int k, .int l, .int i, .int n, .null, .null] [] M _
  refine PW_iload1 (pc' := 1) dX7_museum_0 rfl ?_
  refine PW_callS1f (pc' := 4) dX7_museum_1 rfl oX7_noSheet lX7_120 (Nat.le_of_ble_eq_true rfl) (c_X7_noSheet) ?_
  refine PW_if_eq (tgt := 13) (pc' := 7) dX7_museum_4 rfl rfl (fun h4 => ?_) (fun h4 => ?_)
  · have q := bn_f h4
    obtain ⟨u, hu, rfl⟩ := s_rng_of (n := 3) q
    have hu2 : u < 2 ^ 31 := by omega
    refine PW_iload2 (pc' := 14) dX7_museum_13 rfl ?_
    refine PW_i2l (pc' := 15) dX7_museum_14 rfl ?_
    refine PW_lconst (pc' := 16) dX7_museum_15 rfl (v := 0) (by first | rfl | decide) ?_
    refine PW_ldc2 (pc' := 19) dX7_museum_16 rfl qX7_127 ?_
    refine PW_callS3f (pc' := 22) dX7_museum_19 rfl oX7_in lX7_87 (Nat.le_of_ble_eq_true rfl) (c_X7_inr (a := 0) (b := 2) rfl rfl) ?_
    refine PW_if_ne (tgt := 32) (pc' := 25) dX7_museum_22 rfl rfl (fun h22 => ?_) (fun h22 => ?_)
    · have q2 := bi_t h22
      have hle := s_foc_le (a.2.2.1 u) l i n
      refine PW_aload0 (pc' := 33) dX7_museum_32 rfl ?_
      refine PW_iload1 (pc' := 34) dX7_museum_33 rfl ?_
      refine PW_iload2 (pc' := 35) dX7_museum_34 rfl ?_
      refine PW_iload3 (pc' := 36) dX7_museum_35 rfl ?_
      refine PW_iload4 (pc' := 38) dX7_museum_36 rfl ?_
      refine PW_i2l (pc' := 39) dX7_museum_38 rfl ?_
      refine PW_callV4f (pc' := 42) dX7_museum_39 rfl oX7_cellsBarred lX7_129 rfl rfl rfl (Nat.le_of_ble_eq_true rfl) (c_X7_cellsBarred (show u < 4 by omega) (hSh u (by omega))) ?_
      refine PW_istore5 (pc' := 44) dX7_museum_42 rfl rfl rfl ?_
      refine PW_iload5 (pc' := 46) dX7_museum_44 rfl ?_
      refine PW_if_ge (tgt := 52) (pc' := 49) dX7_museum_46 rfl rfl (fun h46 => ?_) (fun h46 => ?_)
      · have q4 : s_foc (a.2.2.1 u) l i n = 0 := Classical.not_not.mp (fun z => (v_bar_neg _ hle z).1 h46)
        rw [m_bar, if_pos q4]
        obtain ⟨g1, g2, g3⟩ := s_foc_0 q4
        obtain ⟨-, -, w3, w4, w5⟩ := s_hol_of g3
        obtain ⟨t1, t2, t3, t4, t5⟩ := (hSh u (by omega)).1 g1
        obtain ⟨y, hy⟩ : ∃ y, y = ix i := ⟨_, rfl⟩
        obtain ⟨z, hz⟩ : ∃ z, z = ix n := ⟨_, rfl⟩
        rw [← hy] at w3 w4
        rw [← hz] at w3 w5
        subst w4
        subst w5
        have ec : ∀ x, x < z → t_c M (60 * u + y) x = a.2.2.2.1 u (y + x) := fun x hx => by
          have := t5 (y + x) (by omega)
          rw [← this]
          show M 48 (60 * u + y + x) = M 48 (60 * u + (y + x))
          rw [Nat.add_assoc]
        refine PW_aload0 (pc' := 53) dX7_museum_52 rfl ?_
        refine PW_bipush (pc' := 55) dX7_museum_53 rfl (v := nI 60) (by first | rfl | decide) ?_
        refine PW_iload1 (pc' := 56) dX7_museum_55 rfl ?_
        refine PW_imul (pc' := 57) dX7_museum_56 rfl ?_
        rw [show nI 60 * nI u = nI (60 * u) from nI_mul _ _]
        refine PW_iload3 (pc' := 58) dX7_museum_57 rfl ?_
        refine PW_iadd (pc' := 59) dX7_museum_58 rfl ?_
        rw [nI_add]
        refine PW_iload4 (pc' := 61) dX7_museum_59 rfl ?_
        refine PW_callV2g (pc' := 64) dX7_museum_61 rfl oX7_readsMuseum lX7_133 rfl rfl rfl (Nat.le_of_ble_eq_true rfl) (c_X7_readsMuseum (b := 60 * u + y) (n := z) (by omega) (by omega)) (fun r M1 hM1 => ?_)
        obtain ⟨ok, rfl, hF1, hno, hyes⟩ := hM1.to ec
        refine PW_if_ne (tgt := 79) (pc' := 67) dX7_museum_64 rfl rfl (fun h64 => ?_) (fun h64 => ?_)
        · have q5 := bi_t h64
          obtain ⟨hff, e11, e12, hfl⟩ := hyes q5
          have hok := s_fill_ok hff
          obtain ⟨-, k1, k2, k3⟩ := s_ff_none hff
          have hop : op_museum (nI u) l (nI y) (nI z) a = (nI ((z - 2) / 7), a_rd (a_hs (a_flt a 0) (s_fill (fun x => a.2.2.2.1 u (y + x)) z)) (0, a.2.1.2.1, a.2.1.2.2.1, a.2.1.2.2.2)) := by simp [op_museum, q, q2, ix_nI hu2, q4, hff, ← hy, ← hz]
          refine PW_aload0 (pc' := 80) dX7_museum_79 rfl ?_
          refine PW_aload0 (pc' := 81) dX7_museum_80 rfl ?_
          refine PW_getI (pc' := 84) dX7_museum_81 rfl fX7_105 rfl rfl ?_
          rw [e11]
          refine PW_putI (pc' := 87) dX7_museum_84 rfl fX7_136 w6_1 rfl rfl ?_
          refine PW_aload0 (pc' := 88) dX7_museum_87 rfl ?_
          refine PW_iconst (pc' := 89) dX7_museum_88 rfl (v := nI 3) (by first | rfl | decide) ?_
          refine PW_putI (pc' := 92) dX7_museum_89 rfl fX7_139 w6_2 rfl rfl ?_
          refine PW_aload0 (pc' := 93) dX7_museum_92 rfl ?_
          refine PW_aload0 (pc' := 94) dX7_museum_93 rfl ?_
          refine PW_getI (pc' := 97) dX7_museum_94 rfl fX7_98 rfl rfl ?_
          rw [pv_up_at, if_neg (by decide), pv_up_at, if_neg (by decide), e12]
          refine PW_putI (pc' := 100) dX7_museum_97 rfl fX7_84 w6_3 rfl rfl ?_
          refine PW_iconst (pc' := 101) dX7_museum_100 rfl (v := nI 0) (by first | rfl | decide) ?_
          refine PW_istore6 (pc' := 103) dX7_museum_101 rfl rfl rfl ?_
          refine l_X7_mus103 (M := M) k3 (fun M2 hJ => ?_) _ 0 _ (Nat.zero_add _) (m_J.start hF1 hfl)
          have hD := m_J.done hA hok hJ
          exact ⟨by rw [hop], by rw [hop]; exact hD.1, hD.2⟩
        · have q5 := bi_f h64
          obtain ⟨x, hx1, hx2, hx3⟩ := hno q5
          have hop : op_museum (nI u) l (nI y) (nI z) a = (-100 - nI x, a_flt a 0) := by simp [op_museum, q, q2, ix_nI hu2, q4, hx3, ← hy, ← hz]
          refine PW_aload0 (pc' := 68) dX7_museum_67 rfl ?_
          refine PW_bipush (pc' := 70) dX7_museum_68 rfl (v := -100) (by first | rfl | decide) ?_
          refine PW_aload0 (pc' := 71) dX7_museum_70 rfl ?_
          refine PW_getI (pc' := 74) dX7_museum_71 rfl fX7_91 rfl rfl ?_
          rw [hx2]
          refine PW_isub (pc' := 75) dX7_museum_74 rfl ?_
          refine PW_callV1f (pc' := 78) dX7_museum_75 rfl oX7_refused lX7_124 rfl rfl rfl (Nat.le_of_ble_eq_true rfl) (c_X7_refused) ?_
          refine PW_ireturn .int dX7_museum_78 rfl rfl ?_
          exact ⟨by rw [hop], by rw [hop]; exact (hA.scr hF1).fault 0, hF1.frM.up (by decide)⟩
      · have q4 : ¬ s_foc (a.2.2.1 u) l i n = 0 := fun z => h46 (by rw [z]; decide)
        refine PW_iload5 (pc' := 51) dX7_museum_49 rfl ?_
        refine PW_ireturn .int dX7_museum_51 rfl rfl ?_
        have hop : op_museum (nI u) l i n a = (-10 - nI (s_foc (a.2.2.1 u) l i n), a_flt a (nI (s_foc (a.2.2.1 u) l i n))) := by simp [op_museum, q, q2, ix_nI hu2, q4]
        rw [v_bar, if_neg q4, m_bar, if_neg q4]
        exact ⟨by rw [hop], by rw [hop]; exact hA.fault _, frM.rf.up (by decide)⟩
    · have q2 := bi_f h22
      refine PW_aload0 (pc' := 26) dX7_museum_25 rfl ?_
      refine PW_bipush (pc' := 28) dX7_museum_26 rfl (v := -2) (by first | rfl | decide) ?_
      refine PW_callV1f (pc' := 31) dX7_museum_28 rfl oX7_refused lX7_124 rfl rfl rfl (Nat.le_of_ble_eq_true rfl) (c_X7_refused) ?_
      refine PW_ireturn .int dX7_museum_31 rfl rfl ?_
      exact ⟨by simp [op_museum, q, q2], by simpa [op_museum, q, q2] using hA.fault 0, frM.rf.up (by decide)⟩
  · have q := bn_t h4
    refine PW_aload0 (pc' := 8) dX7_museum_7 rfl ?_
    refine PW_iconst (pc' := 9) dX7_museum_8 rfl (v := -1) (by first | rfl | decide) ?_
    refine PW_callV1f (pc' := 12) dX7_museum_9 rfl oX7_refused lX7_124 rfl rfl rfl (Nat.le_of_ble_eq_true rfl) (c_X7_refused) ?_
    refine PW_ireturn .int dX7_museum_12 rfl rfl ?_
    exact ⟨by simp [op_museum, q], by simpa [op_museum, q] using hA.fault 0, frM.rf.up (by decide)⟩
