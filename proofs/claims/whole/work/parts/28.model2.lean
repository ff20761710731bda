/-! the reference: small calls -/
theorem AM.hs {M M' : pv_M} {a : s_A} {H : s_H} (h : AM M a) (hH : HM M' H) (hn : H.1 = a.1.1) (hp : ∀ p, p ∉ [29, 30, 31, 32, 33, 34] → M' p = M p) (hk : ∀ k, k ∉ [1, 2, 3] → M' 29 k = M 29 k) : AM M' (a_hs a H) := by
  obtain ⟨h1, h2, h3, h4, h5, h6⟩ := h
  refine ⟨hH, ?_, fun k hk4 => ?_, by rw [hk 0 (by decide)]; exact h4, by rw [hk 33 (by decide)]; exact h5, by rw [hk 9 (by decide)]; exact h6⟩
  · obtain ⟨r1, r2, r3⟩ := h2
    simp only [a_hs]
    rw [hn]
    refine ⟨by rw [hk 25 (by decide)]; exact r1, r2, fun i hi => ?_⟩
    rw [hp 43 (by decide), hp 44 (by decide), hp 45 (by decide)]
    exact r3 i hi
  · unfold s_shM
    rw [hp 46 (by decide), hp 47 (by decide), hp 48 (by decide)]
    exact h3 k hk4
theorem HM.pen {M : pv_M} {H : s_H} (h : HM M H) {v : Nat} (hv : v ≤ 9) : HM (pv_up M 29 1 (nI v)) (H.1, v, H.2.2.1, H.2.2.2) := by
  obtain ⟨⟨o1, o2, o3, o4⟩, a, b, c, e⟩ := h
  exact ⟨⟨o1, hv, o3, o4⟩, by simpa [pv_up_at] using a, by simp [pv_up_at], by simpa [pv_up_at] using c, fun t ht f hf => by rw [pv_up_o (by omega)]; exact e t ht f hf⟩
theorem HM.law {M : pv_M} {H : s_H} (h : HM M H) {v : Nat} (hv : v ≤ 3) : HM (pv_up M 29 2 (nI v)) (H.1, H.2.1, v, H.2.2.2) := by
  obtain ⟨⟨o1, o2, o3, o4⟩, a, b, c, e⟩ := h
  exact ⟨⟨o1, o2, hv, o4⟩, by simpa [pv_up_at] using a, by simpa [pv_up_at] using b, by simp [pv_up_at], fun t ht f hf => by rw [pv_up_o (by omega)]; exact e t ht f hf⟩
theorem HM.use {M : pv_M} {H : s_H} (h : HM M H) {j u : Nat} (hj : j < H.1) (hu : u < 64) : HM (pv_up M 34 j (nI u)) (s_use H j u) := by
  obtain ⟨⟨o1, o2, o3, o4⟩, a, b, c, e⟩ := h
  refine ⟨⟨o1, o2, o3, fun t ht => ?_⟩, ?_, ?_, ?_, fun t ht f hf => ?_⟩
  · obtain ⟨g1, g2, g3, g4, g5⟩ := o4 t ht
    refine ⟨by simpa [s_use] using g1, by simpa [s_use] using g2, by simpa [s_use] using g3, by simpa [s_use] using g4, ?_⟩
    simp only [s_use]
    split
    · exact hu
    · exact g5
  · rw [pv_up_o (by omega)]; exact a
  · rw [pv_up_o (by omega)]; exact b
  · rw [pv_up_o (by omega)]; exact c
  · have ht : t < H.1 := ht
    rw [pv_up_at]
    by_cases hq : t = j ∧ f = 4
    · rw [if_pos (by omega)]
      simp [s_use, hq]
    · rw [if_neg (by omega), e t ht f hf]
      have : ¬ (f = 4 ∧ t = j) := fun z => hq ⟨z.2, z.1⟩
      simp only [s_use, if_neg this]
theorem AM.rd {M M' : pv_M} {a : s_A} {r : s_R} (h : AM M a) (hR : RM M' a.1.1 r) (hp : ∀ p, p ∉ [29, 43, 44, 45] → M' p = M p) (hk : ∀ k, k ≠ 25 → M' 29 k = M 29 k) : AM M' (a_rd a r) := by
  obtain ⟨h1, h2, h3, h4, h5, h6⟩ := h
  refine ⟨h1.of (fun k hk3 => hk k (by omega)) (fun f hf => hp _ (by simp; omega)), hR, fun k hk4 => ?_, by rw [hk 0 (by decide)]; exact h4, by rw [hk 33 (by decide)]; exact h5, by rw [hk 9 (by decide)]; exact h6⟩
  unfold s_shM
  rw [hp 46 (by decide), hp 47 (by decide), hp 48 (by decide)]
  exact h3 k hk4
set_option maxHeartbeats 4000000 in
theorem c_X7_ofThing {Γ : pv_G} {d : Nat} {M : pv_M} {a : s_A} {t w : Int32} (hA : AM M a) : Ct Γ (d + 2) vX7_ofThing [.ref 29, .int t, .int w] M (o_M (op_ofThing t w a) M) := by
  obtain ⟨hH, hR, hSh, hfl, htr, hnv⟩ := id hA
  obtain ⟨hok, hc1, hc2, hc3, hf⟩ := id hH
  have hn5 := hok.1
  have hf0 := fun t ht => hf t ht 0 (by decide)
  have hf2 := fun t ht => hf t ht 2 (by decide)
  have hf4 := fun t ht => hf t ht 4 (by decide)
  refine Ct.of oX7_ofThing.1 rfl (pad := 0) rfl ?_
  show PW Γ (d + 2) vX7_ofThing 0 [.ref 29, .int t, .int w] [] M _
  refine PW_aload0 (pc' := 1) dX7_ofThing_0 rfl ?_
  refine PW_iload1 (pc' := 2) dX7_ofThing_1 rfl ?_
  refine PW_callV1f (pc' := 5) dX7_ofThing_2 rfl oX7_noThing lX7_145 rfl rfl rfl (Nat.le_of_ble_eq_true rfl) (c_X7_noThing hn5 hc1) ?_
  refine PW_if_eq (tgt := 10) (pc' := 8) dX7_ofThing_5 rfl rfl (fun h5 => ?_) (fun h5 => ?_)
  · have q := bn_f h5
    obtain ⟨j, hj, rfl⟩ := s_hb_of hn5 q
    have hj2 : j < 2 ^ 31 := by omega
    have qh : s_hb a (nI j) = true := q
    refine PW_iload2 (pc' := 11) dX7_ofThing_10 rfl ?_
    by_cases e11_0 : w = 0
    · subst e11_0
      refine PW_tin (tgt := 48) dX7_ofThing_11 (by decide) (by decide) (by rfl) rfl ?_
      refine PW_aload0 (pc' := 49) dX7_ofThing_48 rfl ?_
      refine PW_getR (pc' := 52) dX7_ofThing_49 rfl fX7_7 rfl rfl ?_
      refine PW_iload1 (pc' := 53) dX7_ofThing_52 rfl ?_
      refine PW_ialdn (pc' := 54) dX7_ofThing_53 rfl rfl rfl (by omega) ?_
      refine PW_ireturn .int dX7_ofThing_54 rfl rfl ?_
      rw [show M 30 j = nI (a.1.2.2.2 0 j) from hf j hj 0 (by decide)]
      exact ⟨by simp [op_ofThing, s_hb, q, ix_nI hj2], hA, frM.rf⟩
    by_cases e11_1 : w = 1
    · subst e11_1
      refine PW_tin (tgt := 55) dX7_ofThing_11 (by decide) (by decide) (by rfl) rfl ?_
      refine PW_aload0 (pc' := 56) dX7_ofThing_55 rfl ?_
      refine PW_getR (pc' := 59) dX7_ofThing_56 rfl fX7_13 rfl rfl ?_
      refine PW_iload1 (pc' := 60) dX7_ofThing_59 rfl ?_
      refine PW_ialdn (pc' := 61) dX7_ofThing_60 rfl rfl rfl (by omega) ?_
      refine PW_ireturn .int dX7_ofThing_61 rfl rfl ?_
      rw [show M 31 j = nI (a.1.2.2.2 1 j) from hf j hj 1 (by decide)]
      exact ⟨by simp [op_ofThing, s_hb, q, ix_nI hj2], hA, frM.rf⟩
    by_cases e11_2 : w = 2
    · subst e11_2
      refine PW_tin (tgt := 62) dX7_ofThing_11 (by decide) (by decide) (by rfl) rfl ?_
      refine PW_aload0 (pc' := 63) dX7_ofThing_62 rfl ?_
      refine PW_getR (pc' := 66) dX7_ofThing_63 rfl fX7_16 rfl rfl ?_
      refine PW_iload1 (pc' := 67) dX7_ofThing_66 rfl ?_
      refine PW_ialdn (pc' := 68) dX7_ofThing_67 rfl rfl rfl (by omega) ?_
      refine PW_ireturn .int dX7_ofThing_68 rfl rfl ?_
      rw [show M 32 j = nI (a.1.2.2.2 2 j) from hf j hj 2 (by decide)]
      exact ⟨by simp [op_ofThing, s_hb, q, ix_nI hj2], hA, frM.rf⟩
    by_cases e11_3 : w = 3
    · subst e11_3
      refine PW_tin (tgt := 69) dX7_ofThing_11 (by decide) (by decide) (by rfl) rfl ?_
      refine PW_aload0 (pc' := 70) dX7_ofThing_69 rfl ?_
      refine PW_getR (pc' := 73) dX7_ofThing_70 rfl fX7_19 rfl rfl ?_
      refine PW_iload1 (pc' := 74) dX7_ofThing_73 rfl ?_
      refine PW_ialdn (pc' := 75) dX7_ofThing_74 rfl rfl rfl (by omega) ?_
      refine PW_ireturn .int dX7_ofThing_75 rfl rfl ?_
      rw [show M 33 j = nI (a.1.2.2.2 3 j) from hf j hj 3 (by decide)]
      exact ⟨by simp [op_ofThing, s_hb, q, ix_nI hj2], hA, frM.rf⟩
    by_cases e11_4 : w = 4
    · subst e11_4
      refine PW_tin (tgt := 76) dX7_ofThing_11 (by decide) (by decide) (by rfl) rfl ?_
      refine PW_aload0 (pc' := 77) dX7_ofThing_76 rfl ?_
      refine PW_getR (pc' := 80) dX7_ofThing_77 rfl fX7_22 rfl rfl ?_
      refine PW_iload1 (pc' := 81) dX7_ofThing_80 rfl ?_
      refine PW_ialdn (pc' := 82) dX7_ofThing_81 rfl rfl rfl (by omega) ?_
      refine PW_ireturn .int dX7_ofThing_82 rfl rfl ?_
      rw [show M 34 j = nI (a.1.2.2.2 4 j) from hf j hj 4 (by decide)]
      exact ⟨by simp [op_ofThing, s_hb, q, ix_nI hj2], hA, frM.rf⟩
    by_cases e11_5 : w = 5
    · subst e11_5
      refine PW_tin (tgt := 83) dX7_ofThing_11 (by decide) (by decide) (by rfl) rfl ?_
      refine PW_aload0 (pc' := 84) dX7_ofThing_83 rfl ?_
      refine PW_iload1 (pc' := 85) dX7_ofThing_84 rfl ?_
      refine PW_callV1f (pc' := 88) dX7_ofThing_85 rfl oX7_valueOf lX7_148 rfl rfl rfl (Nat.le_of_ble_eq_true rfl) (c_X7_valueOf hj hH) ?_
      refine PW_ireturn .int dX7_ofThing_88 rfl rfl ?_
      exact ⟨by simp [op_ofThing, s_hb, q, ix_nI hj2], hA, frM.rf⟩
    refine PW_tout (tgt := 89) dX7_ofThing_11 (ts_out5 e11_0 e11_1 e11_2 e11_3 e11_4 e11_5) rfl ?_
    refine PW_bipush (pc' := 91) dX7_ofThing_89 rfl (v := -2) (by first | rfl | decide) ?_
    refine PW_ireturn .int dX7_ofThing_91 rfl rfl ?_
    exact ⟨by simp [op_ofThing, s_hb, q, e11_0, e11_1, e11_2, e11_3, e11_4, e11_5], hA, frM.rf⟩
  · have q := bn_t h5
    refine PW_iconst (pc' := 9) dX7_ofThing_8 rfl (v := -1) (by first | rfl | decide) ?_
    refine PW_ireturn .int dX7_ofThing_9 rfl rfl ?_
    exact ⟨by simp [op_ofThing, s_hb, q], hA, frM.rf⟩
set_option maxHeartbeats 4000000 in
theorem c_X7_penalty {Γ : pv_G} {d : Nat} {M : pv_M} {a : s_A} {v : Int32} (hA : AM M a) : Ct Γ (d + 1) vX7_penalty [.ref 29, .int v] M (o_M (op_penalty v a) M) := by
  obtain ⟨hH, hR, hSh, hfl, htr, hnv⟩ := id hA
  obtain ⟨hok, hc1, hc2, hc3, hf⟩ := id hH
  have hn5 := hok.1
  have hf0 := fun t ht => hf t ht 0 (by decide)
  have hf2 := fun t ht => hf t ht 2 (by decide)
  have hf4 := fun t ht => hf t ht 4 (by decide)
  refine Ct.of oX7_penalty.1 rfl (pad := 1) rfl ?_
  show PW Γ (d + 1) vX7_penalty 0 [.ref 29, .int v, .null] [] M _
  refine PW_iload1 (pc' := 1) dX7_penalty_0 rfl ?_
  refine PW_i2l (pc' := 2) dX7_penalty_1 rfl ?_
  refine PW_lconst (pc' := 3) dX7_penalty_2 rfl (v := 0) (by first | rfl | decide) ?_
  refine PW_ldc2 (pc' := 6) dX7_penalty_3 rfl qX7_151 ?_
  refine PW_callS3f (pc' := 9) dX7_penalty_6 rfl oX7_in lX7_87 (Nat.le_of_ble_eq_true rfl) (c_X7_inr (a := 0) (b := 9) rfl rfl) ?_
  refine PW_if_ne (tgt := 15) (pc' := 12) dX7_penalty_9 rfl rfl (fun h9 => ?_) (fun h9 => ?_)
  · have q := bi_t h9
    obtain ⟨j, hj, rfl⟩ := s_rng_of (n := 9) q
    have hj2 : j < 2 ^ 31 := by omega
    refine PW_aload0 (pc' := 16) dX7_penalty_15 rfl ?_
    refine PW_getI (pc' := 19) dX7_penalty_16 rfl fX7_84 rfl rfl ?_
    rw [hc1]
    refine PW_if_ne (tgt := 25) (pc' := 22) dX7_penalty_19 rfl rfl (fun h19 => ?_) (fun h19 => ?_)
    · have hp : ¬ a.1.1 = 0 := fun z => h19 (by rw [z]; rfl)
      refine PW_aload0 (pc' := 26) dX7_penalty_25 rfl ?_
      refine PW_getI (pc' := 29) dX7_penalty_26 rfl fX7_136 rfl rfl ?_
      refine PW_istore2 (pc' := 30) dX7_penalty_29 rfl rfl rfl ?_
      refine PW_aload0 (pc' := 31) dX7_penalty_30 rfl ?_
      refine PW_iload1 (pc' := 32) dX7_penalty_31 rfl ?_
      refine PW_putI (pc' := 35) dX7_penalty_32 rfl fX7_136 w6_1 rfl rfl ?_
      refine PW_iload2 (pc' := 36) dX7_penalty_35 rfl ?_
      refine PW_ireturn .int dX7_penalty_36 rfl rfl ?_
      rw [hc2]
      refine ⟨by simp [op_penalty, q, hp], ?_, frM.rf.up (by decide)⟩
      have := hA.hs (hH.pen hj) rfl (fun p hp => pv_up_o (fun z => hp (by rw [z]; decide))) (fun x hx => by rw [pv_up_at, if_neg (fun z => hx (by rw [z.2]; decide))])
      simpa [op_penalty, q, hp, ix_nI hj2] using this
    · have hp : a.1.1 = 0 := nI_inj (by omega) (by decide) h19
      refine PW_bipush (pc' := 24) dX7_penalty_22 rfl (v := -3) (by first | rfl | decide) ?_
      refine PW_ireturn .int dX7_penalty_24 rfl rfl ?_
      exact ⟨by simp [op_penalty, q, hp], by simpa [op_penalty, q, hp] using hA, frM.rf⟩
  · have q := bi_f h9
    refine PW_bipush (pc' := 14) dX7_penalty_12 rfl (v := -2) (by first | rfl | decide) ?_
    refine PW_ireturn .int dX7_penalty_14 rfl rfl ?_
    exact ⟨by simp [op_penalty, q], by simpa [op_penalty, q] using hA, frM.rf⟩
set_option maxHeartbeats 4000000 in
theorem c_X7_law {Γ : pv_G} {d : Nat} {M : pv_M} {a : s_A} {v : Int32} (hA : AM M a) : Ct Γ (d + 1) vX7_law [.ref 29, .int v] M (o_M (op_law v a) M) := by
  obtain ⟨hH, hR, hSh, hfl, htr, hnv⟩ := id hA
  obtain ⟨hok, hc1, hc2, hc3, hf⟩ := id hH
  have hn5 := hok.1
  have hf0 := fun t ht => hf t ht 0 (by decide)
  have hf2 := fun t ht => hf t ht 2 (by decide)
  have hf4 := fun t ht => hf t ht 4 (by decide)
  refine Ct.of oX7_law.1 rfl (pad := 1) rfl ?_
  show PW Γ (d + 1) vX7_law 0 [.ref 29, .int v, .null] [] M _
  refine PW_iload1 (pc' := 1) dX7_law_0 rfl ?_
  refine PW_i2l (pc' := 2) dX7_law_1 rfl ?_
  refine PW_lconst (pc' := 3) dX7_law_2 rfl (v := 0) (by first | rfl | decide) ?_
  refine PW_ldc2 (pc' := 6) dX7_law_3 rfl qX7_153 ?_
  refine PW_callS3f (pc' := 9) dX7_law_6 rfl oX7_in lX7_87 (Nat.le_of_ble_eq_true rfl) (c_X7_inr (a := 0) (b := 3) rfl rfl) ?_
  refine PW_if_ne (tgt := 15) (pc' := 12) dX7_law_9 rfl rfl (fun h9 => ?_) (fun h9 => ?_)
  · have q := bi_t h9
    obtain ⟨j, hj, rfl⟩ := s_rng_of (n := 3) q
    have hj2 : j < 2 ^ 31 := by omega
    refine PW_aload0 (pc' := 16) dX7_law_15 rfl ?_
    refine PW_getI (pc' := 19) dX7_law_16 rfl fX7_84 rfl rfl ?_
    rw [hc1]
    refine PW_if_ne (tgt := 25) (pc' := 22) dX7_law_19 rfl rfl (fun h19 => ?_) (fun h19 => ?_)
    · have hp : ¬ a.1.1 = 0 := fun z => h19 (by rw [z]; rfl)
      refine PW_aload0 (pc' := 26) dX7_law_25 rfl ?_
      refine PW_getI (pc' := 29) dX7_law_26 rfl fX7_139 rfl rfl ?_
      refine PW_istore2 (pc' := 30) dX7_law_29 rfl rfl rfl ?_
      refine PW_aload0 (pc' := 31) dX7_law_30 rfl ?_
      refine PW_iload1 (pc' := 32) dX7_law_31 rfl ?_
      refine PW_putI (pc' := 35) dX7_law_32 rfl fX7_139 w6_2 rfl rfl ?_
      refine PW_iload2 (pc' := 36) dX7_law_35 rfl ?_
      refine PW_ireturn .int dX7_law_36 rfl rfl ?_
      rw [hc3]
      refine ⟨by simp [op_law, q, hp], ?_, frM.rf.up (by decide)⟩
      have := hA.hs (hH.law hj) rfl (fun p hp => pv_up_o (fun z => hp (by rw [z]; decide))) (fun x hx => by rw [pv_up_at, if_neg (fun z => hx (by rw [z.2]; decide))])
      simpa [op_law, q, hp, ix_nI hj2] using this
    · have hp : a.1.1 = 0 := nI_inj (by omega) (by decide) h19
      refine PW_bipush (pc' := 24) dX7_law_22 rfl (v := -3) (by first | rfl | decide) ?_
      refine PW_ireturn .int dX7_law_24 rfl rfl ?_
      exact ⟨by simp [op_law, q, hp], by simpa [op_law, q, hp] using hA, frM.rf⟩
  · have q := bi_f h9
    refine PW_bipush (pc' := 14) dX7_law_12 rfl (v := -2) (by first | rfl | decide) ?_
    refine PW_ireturn .int dX7_law_14 rfl rfl ?_
    exact ⟨by simp [op_law, q], by simpa [op_law, q] using hA, frM.rf⟩
set_option maxHeartbeats 4000000 in
theorem c_X7_use {Γ : pv_G} {d : Nat} {M : pv_M} {a : s_A} {t v : Int32} (hA : AM M a) : Ct Γ (d + 2) vX7_use [.ref 29, .int t, .int v] M (o_M (op_use t v a) M) := by
  obtain ⟨hH, hR, hSh, hfl, htr, hnv⟩ := id hA
  obtain ⟨hok, hc1, hc2, hc3, hf⟩ := id hH
  have hn5 := hok.1
  have hf0 := fun t ht => hf t ht 0 (by decide)
  have hf2 := fun t ht => hf t ht 2 (by decide)
  have hf4 := fun t ht => hf t ht 4 (by decide)
  refine Ct.of oX7_use.1 rfl (pad := 1) rfl ?_
  show PW Γ (d + 2) vX7_use 0 [.ref 29, .int t, .int v, .null] [] M _
  refine PW_aload0 (pc' := 1) dX7_use_0 rfl ?_
  refine PW_iload1 (pc' := 2) dX7_use_1 rfl ?_
  refine PW_callV1f (pc' := 5) dX7_use_2 rfl oX7_noThing lX7_145 rfl rfl rfl (Nat.le_of_ble_eq_true rfl) (c_X7_noThing hn5 hc1) ?_
  refine PW_if_eq (tgt := 10) (pc' := 8) dX7_use_5 rfl rfl (fun h5 => ?_) (fun h5 => ?_)
  · have q := bn_f h5
    obtain ⟨j, hj, rfl⟩ := s_hb_of hn5 q
    have hj2 : j < 2 ^ 31 := by omega
    have qh : s_hb a (nI j) = true := q
    refine PW_iload2 (pc' := 11) dX7_use_10 rfl ?_
    refine PW_i2l (pc' := 12) dX7_use_11 rfl ?_
    refine PW_lconst (pc' := 13) dX7_use_12 rfl (v := 0) (by first | rfl | decide) ?_
    refine PW_ldc2 (pc' := 16) dX7_use_13 rfl qX7_155 ?_
    refine PW_callS3f (pc' := 19) dX7_use_16 rfl oX7_in lX7_87 (Nat.le_of_ble_eq_true rfl) (c_X7_inr (a := 0) (b := 63) rfl rfl) ?_
    refine PW_if_ne (tgt := 25) (pc' := 22) dX7_use_19 rfl rfl (fun h19 => ?_) (fun h19 => ?_)
    · have q2 := bi_t h19
      obtain ⟨u, hu, rfl⟩ := s_rng_of (n := 63) q2
      have hu2 : u < 2 ^ 31 := by omega
      refine PW_aload0 (pc' := 26) dX7_use_25 rfl ?_
      refine PW_getR (pc' := 29) dX7_use_26 rfl fX7_22 rfl rfl ?_
      refine PW_iload1 (pc' := 30) dX7_use_29 rfl ?_
      refine PW_ialdn (pc' := 31) dX7_use_30 rfl rfl rfl (by omega) ?_
      refine PW_istore3 (pc' := 32) dX7_use_31 rfl rfl rfl ?_
      refine PW_aload0 (pc' := 33) dX7_use_32 rfl ?_
      refine PW_getR (pc' := 36) dX7_use_33 rfl fX7_22 rfl rfl ?_
      refine PW_iload1 (pc' := 37) dX7_use_36 rfl ?_
      refine PW_iload2 (pc' := 38) dX7_use_37 rfl ?_
      refine PW_iastn (pc' := 39) dX7_use_38 rfl rfl rfl (by omega) ?_
      refine PW_iload3 (pc' := 40) dX7_use_39 rfl ?_
      refine PW_ireturn .int dX7_use_40 rfl rfl ?_
      rw [show M 34 j = nI (a.1.2.2.2 4 j) from hf j hj 4 (by decide)]
      refine ⟨by simp [op_use, s_hb, q, q2, ix_nI hj2], ?_, frM.rf.up (by decide)⟩
      have := hA.hs (hH.use hj (show u < 64 by omega)) rfl (fun p hp => pv_up_o (fun z => hp (by rw [z]; decide))) (fun x hx => by rw [pv_up_o (by decide)])
      simpa [op_use, s_hb, q, q2, ix_nI hj2, ix_nI hu2] using this
    · have q2 := bi_f h19
      refine PW_bipush (pc' := 24) dX7_use_22 rfl (v := -2) (by first | rfl | decide) ?_
      refine PW_ireturn .int dX7_use_24 rfl rfl ?_
      exact ⟨by simp [op_use, s_hb, q, q2], by simpa [op_use, s_hb, q, q2] using hA, frM.rf⟩
  · have q := bn_t h5
    refine PW_iconst (pc' := 9) dX7_use_8 rfl (v := -1) (by first | rfl | decide) ?_
    refine PW_ireturn .int dX7_use_9 rfl rfl ?_
    exact ⟨by simp [op_use, s_hb, q], by simpa [op_use, s_hb, q] using hA, frM.rf⟩
set_option maxHeartbeats 4000000 in
theorem c_X7_many {Γ : pv_G} {d : Nat} {M : pv_M} {a : s_A} {w : Int32} (hA : AM M a) : Ct Γ d vX7_many [.ref 29, .int w] M (o_M (op_many w a) M) := by
  obtain ⟨hH, hR, hSh, hfl, htr, hnv⟩ := id hA
  obtain ⟨hok, hc1, hc2, hc3, hf⟩ := id hH
  have hn5 := hok.1
  have hf0 := fun t ht => hf t ht 0 (by decide)
  have hf2 := fun t ht => hf t ht 2 (by decide)
  have hf4 := fun t ht => hf t ht 4 (by decide)
  refine Ct.of oX7_many.1 rfl (pad := 0) rfl ?_
  show PW Γ d vX7_many 0 [.ref 29, .int w] [] M _
  refine PW_iload1 (pc' := 1) dX7_many_0 rfl ?_
  by_cases e1_0 : w = 0
  · subst e1_0
    refine PW_tin (tgt := 32) dX7_many_1 (by decide) (by decide) (by rfl) rfl ?_
    refine PW_aload0 (pc' := 33) dX7_many_32 rfl ?_
    refine PW_getI (pc' := 36) dX7_many_33 rfl fX7_84 rfl rfl ?_
    refine PW_ireturn .int dX7_many_36 rfl rfl ?_
    rw [hc1]
    exact ⟨by simp [op_many], hA, frM.rf⟩
  by_cases e1_1 : w = 1
  · subst e1_1
    refine PW_tin (tgt := 37) dX7_many_1 (by decide) (by decide) (by rfl) rfl ?_
    refine PW_aload0 (pc' := 38) dX7_many_37 rfl ?_
    refine PW_getI (pc' := 41) dX7_many_38 rfl fX7_136 rfl rfl ?_
    refine PW_ireturn .int dX7_many_41 rfl rfl ?_
    rw [hc2]
    exact ⟨by simp [op_many], hA, frM.rf⟩
  by_cases e1_2 : w = 2
  · subst e1_2
    refine PW_tin (tgt := 42) dX7_many_1 (by decide) (by decide) (by rfl) rfl ?_
    refine PW_aload0 (pc' := 43) dX7_many_42 rfl ?_
    refine PW_getI (pc' := 46) dX7_many_43 rfl fX7_139 rfl rfl ?_
    refine PW_ireturn .int dX7_many_46 rfl rfl ?_
    rw [hc3]
    exact ⟨by simp [op_many], hA, frM.rf⟩
  by_cases e1_3 : w = 3
  · subst e1_3
    refine PW_tin (tgt := 47) dX7_many_1 (by decide) (by decide) (by rfl) rfl ?_
    refine PW_aload0 (pc' := 48) dX7_many_47 rfl ?_
    refine PW_getI (pc' := 51) dX7_many_48 rfl fX7_142 rfl rfl ?_
    refine PW_ireturn .int dX7_many_51 rfl rfl ?_
    rw [hR.1]
    exact ⟨by simp [op_many], hA, frM.rf⟩
  refine PW_tout (tgt := 52) dX7_many_1 (ts_out3 e1_0 e1_1 e1_2 e1_3) rfl ?_
  refine PW_bipush (pc' := 54) dX7_many_52 rfl (v := -2) (by first | rfl | decide) ?_
  refine PW_ireturn .int dX7_many_54 rfl rfl ?_
  exact ⟨by simp [op_many, e1_0, e1_1, e1_2, e1_3], hA, frM.rf⟩
set_option maxHeartbeats 4000000 in
theorem c_X7_fault {Γ : pv_G} {d : Nat} {M : pv_M} {a : s_A}  (hA : AM M a) : Ct Γ d vX7_fault [.ref 29] M (o_M (op_fault  a) M) := by
  obtain ⟨hH, hR, hSh, hfl, htr, hnv⟩ := id hA
  obtain ⟨hok, hc1, hc2, hc3, hf⟩ := id hH
  have hn5 := hok.1
  have hf0 := fun t ht => hf t ht 0 (by decide)
  have hf2 := fun t ht => hf t ht 2 (by decide)
  have hf4 := fun t ht => hf t ht 4 (by decide)
  refine Ct.of oX7_fault.1 rfl (pad := 0) rfl ?_
  show PW Γ d vX7_fault 0 [.ref 29] [] M _
  refine PW_aload0 (pc' := 1) dX7_fault_0 rfl ?_
  refine PW_getI (pc' := 4) dX7_fault_1 rfl fX7_77 rfl rfl ?_
  refine PW_ireturn .int dX7_fault_4 rfl rfl ?_
  rw [hfl]
  exact ⟨rfl, hA, frM.rf⟩
set_option maxHeartbeats 4000000 in
theorem c_X7_trace {Γ : pv_G} {d : Nat} {M : pv_M} {a : s_A}  (hA : AM M a) : Ct Γ d vX7_trace [.ref 29] M (o_M (op_trace  a) M) := by
  obtain ⟨hH, hR, hSh, hfl, htr, hnv⟩ := id hA
  obtain ⟨hok, hc1, hc2, hc3, hf⟩ := id hH
  have hn5 := hok.1
  have hf0 := fun t ht => hf t ht 0 (by decide)
  have hf2 := fun t ht => hf t ht 2 (by decide)
  have hf4 := fun t ht => hf t ht 4 (by decide)
  refine Ct.of oX7_trace.1 rfl (pad := 0) rfl ?_
  show PW Γ d vX7_trace 0 [.ref 29] [] M _
  refine PW_aload0 (pc' := 1) dX7_trace_0 rfl ?_
  refine PW_getI (pc' := 4) dX7_trace_1 rfl fX7_240 rfl rfl ?_
  refine PW_ireturn .int dX7_trace_4 rfl rfl ?_
  rw [htr]
  exact ⟨rfl, hA, frM.rf⟩
set_option maxHeartbeats 4000000 in
theorem c_X7_as {Γ : pv_G} {d : Nat} {M : pv_M} {a : s_A} {t k : Int32} (hA : AM M a) : Ct Γ (d + 2) vX7_as [.ref 29, .int t, .int k] M (o_M (op_as t k a) M) := by
  obtain ⟨hH, hR, hSh, hfl, htr, hnv⟩ := id hA
  obtain ⟨hok, hc1, hc2, hc3, hf⟩ := id hH
  have hn5 := hok.1
  have hf0 := fun t ht => hf t ht 0 (by decide)
  have hf2 := fun t ht => hf t ht 2 (by decide)
  have hf4 := fun t ht => hf t ht 4 (by decide)
  refine Ct.of oX7_as.1 rfl (pad := 0) rfl ?_
  show PW Γ (d + 2) vX7_as 0 [.ref 29, .int t, .int k] [] M _
  refine PW_aload0 (pc' := 1) dX7_as_0 rfl ?_
  refine PW_iload1 (pc' := 2) dX7_as_1 rfl ?_
  refine PW_callV1f (pc' := 5) dX7_as_2 rfl oX7_noThing lX7_145 rfl rfl rfl (Nat.le_of_ble_eq_true rfl) (c_X7_noThing hn5 hc1) ?_
  refine PW_if_eq (tgt := 14) (pc' := 8) dX7_as_5 rfl rfl (fun h5 => ?_) (fun h5 => ?_)
  · have q := bn_f h5
    obtain ⟨j, hj, rfl⟩ := s_hb_of hn5 q
    have hj2 : j < 2 ^ 31 := by omega
    have qh : s_hb a (nI j) = true := q
    refine PW_iload2 (pc' := 15) dX7_as_14 rfl ?_
    refine PW_i2l (pc' := 16) dX7_as_15 rfl ?_
    refine PW_lconst (pc' := 17) dX7_as_16 rfl (v := 0) (by first | rfl | decide) ?_
    refine PW_ldc2 (pc' := 20) dX7_as_17 rfl qX7_127 ?_
    refine PW_callS3f (pc' := 23) dX7_as_20 rfl oX7_in lX7_87 (Nat.le_of_ble_eq_true rfl) (c_X7_inr (a := 0) (b := 2) rfl rfl) ?_
    refine PW_if_ne (tgt := 33) (pc' := 26) dX7_as_23 rfl rfl (fun h23 => ?_) (fun h23 => ?_)
    · have q2 := bi_t h23
      obtain ⟨u, hu, rfl⟩ := s_rng_of (n := 2) q2
      have hu2 : u < 2 ^ 31 := by omega
      have hk2 := (hok.2.2.2 j hj).1
      refine PW_aload0 (pc' := 34) dX7_as_33 rfl ?_
      refine PW_getR (pc' := 37) dX7_as_34 rfl fX7_7 rfl rfl ?_
      refine PW_iload1 (pc' := 38) dX7_as_37 rfl ?_
      refine PW_ialdn (pc' := 39) dX7_as_38 rfl rfl rfl (by omega) ?_
      rw [hf0 j hj]
      refine PW_iload2 (pc' := 40) dX7_as_39 rfl ?_
      refine PW_icmp_lt (tgt := 51) (pc' := 43) dX7_as_40 rfl rfl (fun h40 => ?_) (fun h40 => ?_)
      · rw [nI_ltI (by omega) (by omega)] at h40
        have q3 : ¬ u ≤ a.1.2.2.2 0 j := by omega
        refine PW_aload0 (pc' := 52) dX7_as_51 rfl ?_
        refine PW_iconst (pc' := 53) dX7_as_52 rfl (v := 2) (by first | rfl | decide) ?_
        refine PW_callV1f (pc' := 56) dX7_as_53 rfl oX7_failed lX7_112 rfl rfl rfl (Nat.le_of_ble_eq_true rfl) (c_X7_failed) ?_
        refine PW_ireturn .int dX7_as_56 rfl rfl ?_
        first
          | exact ⟨by simp [op_as, s_hb, q, q2, ix_nI hj2, ix_nI hu2, show u ≤ a.1.2.2.2 0 j by omega], by simpa [op_as, s_hb, q, q2, ix_nI hj2, ix_nI hu2, show u ≤ a.1.2.2.2 0 j by omega] using hA.fault 0, frM.rf.up (by decide)⟩
          | exact ⟨by simp [op_as, s_hb, q, q2, ix_nI hj2, ix_nI hu2, q3], by simpa [op_as, s_hb, q, q2, ix_nI hj2, ix_nI hu2, q3] using hA.fault 2, frM.rf.up (by decide)⟩
      · rw [nI_ltI (by omega) (by omega)] at h40
        have q3 : u ≤ a.1.2.2.2 0 j := by omega
        refine PW_aload0 (pc' := 44) dX7_as_43 rfl ?_
        refine PW_iconst (pc' := 45) dX7_as_44 rfl (v := 1) (by first | rfl | decide) ?_
        refine PW_callV1f (pc' := 48) dX7_as_45 rfl oX7_refused lX7_124 rfl rfl rfl (Nat.le_of_ble_eq_true rfl) (c_X7_refused) ?_
        refine PW_goto (tgt := 56) dX7_as_48 rfl ?_
        refine PW_ireturn .int dX7_as_56 rfl rfl ?_
        first
          | exact ⟨by simp [op_as, s_hb, q, q2, ix_nI hj2, ix_nI hu2, show u ≤ a.1.2.2.2 0 j by omega], by simpa [op_as, s_hb, q, q2, ix_nI hj2, ix_nI hu2, show u ≤ a.1.2.2.2 0 j by omega] using hA.fault 0, frM.rf.up (by decide)⟩
          | exact ⟨by simp [op_as, s_hb, q, q2, ix_nI hj2, ix_nI hu2, q3], by simpa [op_as, s_hb, q, q2, ix_nI hj2, ix_nI hu2, q3] using hA.fault 2, frM.rf.up (by decide)⟩
    · have q2 := bi_f h23
      refine PW_aload0 (pc' := 27) dX7_as_26 rfl ?_
      refine PW_bipush (pc' := 29) dX7_as_27 rfl (v := -2) (by first | rfl | decide) ?_
      refine PW_callV1f (pc' := 32) dX7_as_29 rfl oX7_refused lX7_124 rfl rfl rfl (Nat.le_of_ble_eq_true rfl) (c_X7_refused) ?_
      refine PW_ireturn .int dX7_as_32 rfl rfl ?_
      exact ⟨by simp [op_as, s_hb, q, q2], by simpa [op_as, s_hb, q, q2] using hA.fault 0, frM.rf.up (by decide)⟩
  · have q := bn_t h5
    refine PW_aload0 (pc' := 9) dX7_as_8 rfl ?_
    refine PW_iconst (pc' := 10) dX7_as_9 rfl (v := -1) (by first | rfl | decide) ?_
    refine PW_callV1f (pc' := 13) dX7_as_10 rfl oX7_refused lX7_124 rfl rfl rfl (Nat.le_of_ble_eq_true rfl) (c_X7_refused) ?_
    refine PW_ireturn .int dX7_as_13 rfl rfl ?_
    exact ⟨by simp [op_as, s_hb, q], by simpa [op_as, s_hb, q] using hA.fault 0, frM.rf.up (by decide)⟩
set_option maxHeartbeats 4000000 in
theorem c_X7_label {Γ : pv_G} {d : Nat} {M : pv_M} {a : s_A} {t : Int32} (hA : AM M a) : Ct Γ (d + 2) vX7_label [.ref 29, .int t] M (o_M (op_label t a) M) := by
  obtain ⟨hH, hR, hSh, hfl, htr, hnv⟩ := id hA
  obtain ⟨hok, hc1, hc2, hc3, hf⟩ := id hH
  have hn5 := hok.1
  have hf0 := fun t ht => hf t ht 0 (by decide)
  have hf2 := fun t ht => hf t ht 2 (by decide)
  have hf4 := fun t ht => hf t ht 4 (by decide)
  refine Ct.of oX7_label.1 rfl (pad := 0) rfl ?_
  show PW Γ (d + 2) vX7_label 0 [.ref 29, .int t] [] M _
  refine PW_aload0 (pc' := 1) dX7_label_0 rfl ?_
  refine PW_iload1 (pc' := 2) dX7_label_1 rfl ?_
  refine PW_callV1f (pc' := 5) dX7_label_2 rfl oX7_noThing lX7_145 rfl rfl rfl (Nat.le_of_ble_eq_true rfl) (c_X7_noThing hn5 hc1) ?_
  refine PW_if_eq (tgt := 10) (pc' := 8) dX7_label_5 rfl rfl (fun h5 => ?_) (fun h5 => ?_)
  · have q := bn_f h5
    obtain ⟨j, hj, rfl⟩ := s_hb_of hn5 q
    have hj2 : j < 2 ^ 31 := by omega
    have qh : s_hb a (nI j) = true := q
    refine PW_aload0 (pc' := 11) dX7_label_10 rfl ?_
    refine PW_aload0 (pc' := 12) dX7_label_11 rfl ?_
    refine PW_getR (pc' := 15) dX7_label_12 rfl fX7_7 rfl rfl ?_
    refine PW_iload1 (pc' := 16) dX7_label_15 rfl ?_
    refine PW_ialdn (pc' := 17) dX7_label_16 rfl rfl rfl (by omega) ?_
    rw [hf0 j hj]
    refine PW_iconst (pc' := 18) dX7_label_17 rfl (v := 2) (by first | rfl | decide) ?_
    refine PW_icmp_ne (tgt := 25) (pc' := 21) dX7_label_18 rfl rfl (fun h18 => ?_) (fun h18 => ?_)
    · have q3 : ¬ a.1.2.2.2 0 j = 2 := fun z => h18 (by rw [z]; rfl)
      refine PW_iconst (pc' := 26) dX7_label_25 rfl (v := 4) (by first | rfl | decide) ?_
      refine PW_callV1v (pc' := 29) dX7_label_26 rfl oX7_traced lX7_243 rfl rfl rfl (Nat.le_of_ble_eq_true rfl) (c_X7_traced) ?_
      refine PW_aload0 (pc' := 30) dX7_label_29 rfl ?_
      refine PW_getR (pc' := 33) dX7_label_30 rfl fX7_7 rfl rfl ?_
      refine PW_iload1 (pc' := 34) dX7_label_33 rfl ?_
      refine PW_ialdn (pc' := 35) dX7_label_34 rfl rfl rfl (by omega) ?_
      simp only [pv_up_o (show 30 ≠ 29 by decide)]
      rw [hf0 j hj]
      refine PW_iconst (pc' := 36) dX7_label_35 rfl (v := 2) (by first | rfl | decide) ?_
      refine PW_icmp_ne (tgt := 44) (pc' := 39) dX7_label_36 rfl rfl (fun h36 => ?_) (fun h36 => ?_)
      · have q4 : ¬ a.1.2.2.2 0 j = 2 := fun z => h36 (by rw [z]; rfl)
        refine PW_iload1 (pc' := 45) dX7_label_44 rfl ?_
        refine PW_ireturn .int dX7_label_45 rfl rfl ?_
        first
          | exact absurd q3 q4
          | exact absurd q4 q3
          | (simp only [htr]
             exact ⟨by simp [op_label, s_hb, q, q3, ix_nI hj2], by simpa [op_label, s_hb, q, q3, ix_nI hj2] using hA.trace _, frM.rf.up (by decide)⟩)
      · have q4 : a.1.2.2.2 0 j = 2 := nI_inj (by have := (hok.2.2.2 j hj).1; omega) (by decide) h36
        refine PW_bipush (pc' := 41) dX7_label_39 rfl (v := 70) (by first | rfl | decide) ?_
        refine PW_goto (tgt := 45) dX7_label_41 rfl ?_
        refine PW_ireturn .int dX7_label_45 rfl rfl ?_
        first
          | exact absurd q3 q4
          | exact absurd q4 q3
          | (simp only [htr]
             exact ⟨by simp [op_label, s_hb, q, q3, ix_nI hj2], by simpa [op_label, s_hb, q, q3, ix_nI hj2] using hA.trace _, frM.rf.up (by decide)⟩)
    · have hk2 := (hok.2.2.2 j hj).1
      have q3 : a.1.2.2.2 0 j = 2 := nI_inj (by omega) (by decide) h18
      refine PW_iconst (pc' := 22) dX7_label_21 rfl (v := 5) (by first | rfl | decide) ?_
      refine PW_goto (tgt := 26) dX7_label_22 rfl ?_
      refine PW_callV1v (pc' := 29) dX7_label_26 rfl oX7_traced lX7_243 rfl rfl rfl (Nat.le_of_ble_eq_true rfl) (c_X7_traced) ?_
      refine PW_aload0 (pc' := 30) dX7_label_29 rfl ?_
      refine PW_getR (pc' := 33) dX7_label_30 rfl fX7_7 rfl rfl ?_
      refine PW_iload1 (pc' := 34) dX7_label_33 rfl ?_
      refine PW_ialdn (pc' := 35) dX7_label_34 rfl rfl rfl (by omega) ?_
      simp only [pv_up_o (show 30 ≠ 29 by decide)]
      rw [hf0 j hj]
      refine PW_iconst (pc' := 36) dX7_label_35 rfl (v := 2) (by first | rfl | decide) ?_
      refine PW_icmp_ne (tgt := 44) (pc' := 39) dX7_label_36 rfl rfl (fun h36 => ?_) (fun h36 => ?_)
      · have q4 : ¬ a.1.2.2.2 0 j = 2 := fun z => h36 (by rw [z]; rfl)
        refine PW_iload1 (pc' := 45) dX7_label_44 rfl ?_
        refine PW_ireturn .int dX7_label_45 rfl rfl ?_
        first
          | exact absurd q3 q4
          | exact absurd q4 q3
          | (simp only [htr]
             exact ⟨by simp [op_label, s_hb, q, q3, ix_nI hj2], by simpa [op_label, s_hb, q, q3, ix_nI hj2] using hA.trace _, frM.rf.up (by decide)⟩)
      · have q4 : a.1.2.2.2 0 j = 2 := nI_inj (by have := (hok.2.2.2 j hj).1; omega) (by decide) h36
        refine PW_bipush (pc' := 41) dX7_label_39 rfl (v := 70) (by first | rfl | decide) ?_
        refine PW_goto (tgt := 45) dX7_label_41 rfl ?_
        refine PW_ireturn .int dX7_label_45 rfl rfl ?_
        first
          | exact absurd q3 q4
          | exact absurd q4 q3
          | (simp only [htr]
             exact ⟨by simp [op_label, s_hb, q, q3, ix_nI hj2], by simpa [op_label, s_hb, q, q3, ix_nI hj2] using hA.trace _, frM.rf.up (by decide)⟩)
  · have q := bn_t h5
    refine PW_iconst (pc' := 9) dX7_label_8 rfl (v := -1) (by first | rfl | decide) ?_
    refine PW_ireturn .int dX7_label_9 rfl rfl ?_
    exact ⟨by simp [op_label, s_hb, q], by simpa [op_label, s_hb, q] using hA, frM.rf⟩
set_option maxHeartbeats 4000000 in
theorem c_X7_tell {Γ : pv_G} {d : Nat} {M : pv_M} {a : s_A} {t : Int32} (hA : AM M a) : Ct Γ (d + 2) vX7_tell [.ref 29, .int t] M (o_M (op_tell t a) M) := by
  obtain ⟨hH, hR, hSh, hfl, htr, hnv⟩ := id hA
  obtain ⟨hok, hc1, hc2, hc3, hf⟩ := id hH
  have hn5 := hok.1
  have hf0 := fun t ht => hf t ht 0 (by decide)
  have hf2 := fun t ht => hf t ht 2 (by decide)
  have hf4 := fun t ht => hf t ht 4 (by decide)
  refine Ct.of oX7_tell.1 rfl (pad := 2) rfl ?_
  show PW Γ (d + 2) vX7_tell 0 [.ref 29, .int t, .null, .null] [] M _
  refine PW_aload0 (pc' := 1) dX7_tell_0 rfl ?_
  refine PW_iload1 (pc' := 2) dX7_tell_1 rfl ?_
  refine PW_callV1f (pc' := 5) dX7_tell_2 rfl oX7_noThing lX7_145 rfl rfl rfl (Nat.le_of_ble_eq_true rfl) (c_X7_noThing hn5 hc1) ?_
  refine PW_if_eq (tgt := 10) (pc' := 8) dX7_tell_5 rfl rfl (fun h5 => ?_) (fun h5 => ?_)
  · have q := bn_f h5
    obtain ⟨j, hj, rfl⟩ := s_hb_of hn5 q
    have hj2 : j < 2 ^ 31 := by omega
    have qh : s_hb a (nI j) = true := q
    refine PW_aload0 (pc' := 11) dX7_tell_10 rfl ?_
    refine PW_getR (pc' := 14) dX7_tell_11 rfl fX7_7 rfl rfl ?_
    refine PW_iload1 (pc' := 15) dX7_tell_14 rfl ?_
    refine PW_ialdn (pc' := 16) dX7_tell_15 rfl rfl rfl (by omega) ?_
    rw [hf0 j hj]
    have hk2 := (hok.2.2.2 j hj).1
    refine PW_istore2 (pc' := 17) dX7_tell_16 rfl rfl rfl ?_
    refine PW_iload2 (pc' := 18) dX7_tell_17 rfl ?_
    refine PW_iconst (pc' := 19) dX7_tell_18 rfl (v := 2) (by first | rfl | decide) ?_
    refine PW_icmp_ne (tgt := 27) (pc' := 22) dX7_tell_19 rfl rfl (fun h19 => ?_) (fun h19 => ?_)
    · have q3 : ¬ a.1.2.2.2 0 j = 2 := fun z => h19 (by rw [z]; rfl)
      refine PW_iload2 (pc' := 28) dX7_tell_27 rfl ?_
      refine PW_if_le (tgt := 36) (pc' := 31) dX7_tell_28 rfl rfl (fun h28 => ?_) (fun h28 => ?_)
      · have q4 : a.1.2.2.2 0 j = 0 := by
          rcases Nat.eq_zero_or_pos (a.1.2.2.2 0 j) with z | z
          · exact z
          · exact absurd h28 (nI_nle z (by omega))
        refine PW_aload0 (pc' := 37) dX7_tell_36 rfl ?_
        refine PW_iconst (pc' := 38) dX7_tell_37 rfl (v := 1) (by first | rfl | decide) ?_
        refine PW_callV1v (pc' := 41) dX7_tell_38 rfl oX7_traced lX7_243 rfl rfl rfl (Nat.le_of_ble_eq_true rfl) (c_X7_traced) ?_
        refine PW_iload2 (pc' := 42) dX7_tell_41 rfl ?_
        refine PW_iconst (pc' := 43) dX7_tell_42 rfl (v := 2) (by first | rfl | decide) ?_
        refine PW_icmp_ne (tgt := 51) (pc' := 46) dX7_tell_43 rfl rfl (fun h43 => ?_) (fun h43 => ?_)
        · have q5 : ¬ a.1.2.2.2 0 j = 2 := fun z => h43 (by rw [z]; rfl)
          refine PW_aload0 (pc' := 52) dX7_tell_51 rfl ?_
          refine PW_getR (pc' := 55) dX7_tell_52 rfl fX7_16 rfl rfl ?_
          refine PW_iload1 (pc' := 56) dX7_tell_55 rfl ?_
          refine PW_ialdn (pc' := 57) dX7_tell_56 rfl rfl rfl (by omega) ?_
          simp only [pv_up_o (show 32 ≠ 29 by decide)]
          rw [hf2 j hj]
          refine PW_istore3 (pc' := 58) dX7_tell_57 rfl rfl rfl ?_
          refine PW_iload2 (pc' := 59) dX7_tell_58 rfl ?_
          refine PW_if_ne (tgt := 66) (pc' := 62) dX7_tell_59 rfl rfl (fun h59 => ?_) (fun h59 => ?_)
          · have q6 : ¬ a.1.2.2.2 0 j = 0 := fun z => h59 (by rw [z]; rfl)
            refine PW_iload2 (pc' := 67) dX7_tell_66 rfl ?_
            refine PW_iconst (pc' := 68) dX7_tell_67 rfl (v := 1) (by first | rfl | decide) ?_
            refine PW_icmp_ne (tgt := 78) (pc' := 71) dX7_tell_68 rfl rfl (fun h68 => ?_) (fun h68 => ?_)
            · have q7 : ¬ a.1.2.2.2 0 j = 1 := fun z => h68 (by rw [z]; rfl)
              refine PW_iconst (pc' := 79) dX7_tell_78 rfl (v := 2) (by first | rfl | decide) ?_
              refine PW_iload3 (pc' := 80) dX7_tell_79 rfl ?_
              refine PW_imul (pc' := 81) dX7_tell_80 rfl ?_
              refine PW_bipush (pc' := 83) dX7_tell_81 rfl (v := 100) (by first | rfl | decide) ?_
              refine PW_iadd (pc' := 84) dX7_tell_83 rfl ?_
              refine PW_ireturn .int dX7_tell_84 rfl rfl ?_
              have e100 : (100 : Int32) = nI 100 := rfl
              have e2 : (2 : Int32) = nI 2 := rfl
              first
                | (exfalso; omega)
                | (refine ⟨by simp only [op_tell]; rw [if_pos qh, ix_nI hj2, if_neg (by omega), if_neg (by omega)], ?_, ((frM.rf.up (by decide)))⟩
                   simpa [pv_up2, pv_up_at, htr, op_tell, qh, ix_nI hj2, q3, q4, s_t1] using hA.trace (s_t1 a.2.2.2.2.2))
                | (refine ⟨by simp only [op_tell]; rw [if_pos qh, ix_nI hj2, if_neg (by omega), if_pos (by omega), e100, nI_add], ?_, ((frM.rf.up (by decide)).up (by decide))⟩
                   simpa [pv_up2, pv_up_at, htr, op_tell, qh, ix_nI hj2, show a.1.2.2.2 0 j = 1 by omega, s_t1, s_t2] using hA.trace (s_t2 a.2.2.2.2.2))
                | (refine ⟨by simp only [op_tell]; rw [if_pos qh, ix_nI hj2, if_pos (by omega), e100, e2, nI_mul, nI_add], ?_, ((((frM.rf.up (by decide)).up (by decide)).up (by decide)).up (by decide))⟩
                   simpa [pv_up2, pv_up_at, htr, op_tell, qh, ix_nI hj2, q3, s_t1, s_t2] using hA.trace (s_t1 (s_t2 (31 * a.2.2.2.2.2 + 3))))
            · have q7 : a.1.2.2.2 0 j = 1 := nI_inj (by omega) (by decide) h68
              refine PW_iload3 (pc' := 72) dX7_tell_71 rfl ?_
              refine PW_bipush (pc' := 74) dX7_tell_72 rfl (v := 100) (by first | rfl | decide) ?_
              refine PW_iadd (pc' := 75) dX7_tell_74 rfl ?_
              refine PW_goto (tgt := 84) dX7_tell_75 rfl ?_
              refine PW_ireturn .int dX7_tell_84 rfl rfl ?_
              have e100 : (100 : Int32) = nI 100 := rfl
              have e2 : (2 : Int32) = nI 2 := rfl
              first
                | (exfalso; omega)
                | (refine ⟨by simp only [op_tell]; rw [if_pos qh, ix_nI hj2, if_neg (by omega), if_neg (by omega)], ?_, ((frM.rf.up (by decide)))⟩
                   simpa [pv_up2, pv_up_at, htr, op_tell, qh, ix_nI hj2, q3, q4, s_t1] using hA.trace (s_t1 a.2.2.2.2.2))
                | (refine ⟨by simp only [op_tell]; rw [if_pos qh, ix_nI hj2, if_neg (by omega), if_pos (by omega), e100, nI_add], ?_, ((frM.rf.up (by decide)).up (by decide))⟩
                   simpa [pv_up2, pv_up_at, htr, op_tell, qh, ix_nI hj2, show a.1.2.2.2 0 j = 1 by omega, s_t1, s_t2] using hA.trace (s_t2 a.2.2.2.2.2))
                | (refine ⟨by simp only [op_tell]; rw [if_pos qh, ix_nI hj2, if_pos (by omega), e100, e2, nI_mul, nI_add], ?_, ((((frM.rf.up (by decide)).up (by decide)).up (by decide)).up (by decide))⟩
                   simpa [pv_up2, pv_up_at, htr, op_tell, qh, ix_nI hj2, q3, s_t1, s_t2] using hA.trace (s_t1 (s_t2 (31 * a.2.2.2.2.2 + 3))))
          · have q6 : a.1.2.2.2 0 j = 0 := nI_inj (by omega) (by decide) h59
            refine PW_iload3 (pc' := 63) dX7_tell_62 rfl ?_
            refine PW_goto (tgt := 84) dX7_tell_63 rfl ?_
            refine PW_ireturn .int dX7_tell_84 rfl rfl ?_
            have e100 : (100 : Int32) = nI 100 := rfl
            have e2 : (2 : Int32) = nI 2 := rfl
            first
              | (exfalso; omega)
              | (refine ⟨by simp only [op_tell]; rw [if_pos qh, ix_nI hj2, if_neg (by omega), if_neg (by omega)], ?_, ((frM.rf.up (by decide)))⟩
                 simpa [pv_up2, pv_up_at, htr, op_tell, qh, ix_nI hj2, q3, q4, s_t1] using hA.trace (s_t1 a.2.2.2.2.2))
              | (refine ⟨by simp only [op_tell]; rw [if_pos qh, ix_nI hj2, if_neg (by omega), if_pos (by omega), e100, nI_add], ?_, ((frM.rf.up (by decide)).up (by decide))⟩
                 simpa [pv_up2, pv_up_at, htr, op_tell, qh, ix_nI hj2, show a.1.2.2.2 0 j = 1 by omega, s_t1, s_t2] using hA.trace (s_t2 a.2.2.2.2.2))
              | (refine ⟨by simp only [op_tell]; rw [if_pos qh, ix_nI hj2, if_pos (by omega), e100, e2, nI_mul, nI_add], ?_, ((((frM.rf.up (by decide)).up (by decide)).up (by decide)).up (by decide))⟩
                 simpa [pv_up2, pv_up_at, htr, op_tell, qh, ix_nI hj2, q3, s_t1, s_t2] using hA.trace (s_t1 (s_t2 (31 * a.2.2.2.2.2 + 3))))
        · have q5 : a.1.2.2.2 0 j = 2 := nI_inj (by omega) (by decide) h43
          refine PW_aload0 (pc' := 47) dX7_tell_46 rfl ?_
          refine PW_iconst (pc' := 48) dX7_tell_47 rfl (v := 1) (by first | rfl | decide) ?_
          refine PW_callV1v (pc' := 51) dX7_tell_48 rfl oX7_traced lX7_243 rfl rfl rfl (Nat.le_of_ble_eq_true rfl) (c_X7_traced) ?_
          refine PW_aload0 (pc' := 52) dX7_tell_51 rfl ?_
          refine PW_getR (pc' := 55) dX7_tell_52 rfl fX7_16 rfl rfl ?_
          refine PW_iload1 (pc' := 56) dX7_tell_55 rfl ?_
          refine PW_ialdn (pc' := 57) dX7_tell_56 rfl rfl rfl (by omega) ?_
          simp only [pv_up_o (show 32 ≠ 29 by decide)]
          rw [hf2 j hj]
          refine PW_istore3 (pc' := 58) dX7_tell_57 rfl rfl rfl ?_
          refine PW_iload2 (pc' := 59) dX7_tell_58 rfl ?_
          refine PW_if_ne (tgt := 66) (pc' := 62) dX7_tell_59 rfl rfl (fun h59 => ?_) (fun h59 => ?_)
          · have q6 : ¬ a.1.2.2.2 0 j = 0 := fun z => h59 (by rw [z]; rfl)
            refine PW_iload2 (pc' := 67) dX7_tell_66 rfl ?_
            refine PW_iconst (pc' := 68) dX7_tell_67 rfl (v := 1) (by first | rfl | decide) ?_
            refine PW_icmp_ne (tgt := 78) (pc' := 71) dX7_tell_68 rfl rfl (fun h68 => ?_) (fun h68 => ?_)
            · have q7 : ¬ a.1.2.2.2 0 j = 1 := fun z => h68 (by rw [z]; rfl)
              refine PW_iconst (pc' := 79) dX7_tell_78 rfl (v := 2) (by first | rfl | decide) ?_
              refine PW_iload3 (pc' := 80) dX7_tell_79 rfl ?_
              refine PW_imul (pc' := 81) dX7_tell_80 rfl ?_
              refine PW_bipush (pc' := 83) dX7_tell_81 rfl (v := 100) (by first | rfl | decide) ?_
              refine PW_iadd (pc' := 84) dX7_tell_83 rfl ?_
              refine PW_ireturn .int dX7_tell_84 rfl rfl ?_
              have e100 : (100 : Int32) = nI 100 := rfl
              have e2 : (2 : Int32) = nI 2 := rfl
              first
                | (exfalso; omega)
                | (refine ⟨by simp only [op_tell]; rw [if_pos qh, ix_nI hj2, if_neg (by omega), if_neg (by omega)], ?_, ((frM.rf.up (by decide)))⟩
                   simpa [pv_up2, pv_up_at, htr, op_tell, qh, ix_nI hj2, q3, q4, s_t1] using hA.trace (s_t1 a.2.2.2.2.2))
                | (refine ⟨by simp only [op_tell]; rw [if_pos qh, ix_nI hj2, if_neg (by omega), if_pos (by omega), e100, nI_add], ?_, ((frM.rf.up (by decide)).up (by decide))⟩
                   simpa [pv_up2, pv_up_at, htr, op_tell, qh, ix_nI hj2, show a.1.2.2.2 0 j = 1 by omega, s_t1, s_t2] using hA.trace (s_t2 a.2.2.2.2.2))
                | (refine ⟨by simp only [op_tell]; rw [if_pos qh, ix_nI hj2, if_pos (by omega), e100, e2, nI_mul, nI_add], ?_, ((((frM.rf.up (by decide)).up (by decide)).up (by decide)).up (by decide))⟩
                   simpa [pv_up2, pv_up_at, htr, op_tell, qh, ix_nI hj2, q3, s_t1, s_t2] using hA.trace (s_t1 (s_t2 (31 * a.2.2.2.2.2 + 3))))
            · have q7 : a.1.2.2.2 0 j = 1 := nI_inj (by omega) (by decide) h68
              refine PW_iload3 (pc' := 72) dX7_tell_71 rfl ?_
              refine PW_bipush (pc' := 74) dX7_tell_72 rfl (v := 100) (by first | rfl | decide) ?_
              refine PW_iadd (pc' := 75) dX7_tell_74 rfl ?_
              refine PW_goto (tgt := 84) dX7_tell_75 rfl ?_
              refine PW_ireturn .int dX7_tell_84 rfl rfl ?_
              have e100 : (100 : Int32) = nI 100 := rfl
              have e2 : (2 : Int32) = nI 2 := rfl
              first
                | (exfalso; omega)
                | (refine ⟨by simp only [op_tell]; rw [if_pos qh, ix_nI hj2, if_neg (by omega), if_neg (by omega)], ?_, ((frM.rf.up (by decide)))⟩
                   simpa [pv_up2, pv_up_at, htr, op_tell, qh, ix_nI hj2, q3, q4, s_t1] using hA.trace (s_t1 a.2.2.2.2.2))
                | (refine ⟨by simp only [op_tell]; rw [if_pos qh, ix_nI hj2, if_neg (by omega), if_pos (by omega), e100, nI_add], ?_, ((frM.rf.up (by decide)).up (by decide))⟩
                   simpa [pv_up2, pv_up_at, htr, op_tell, qh, ix_nI hj2, show a.1.2.2.2 0 j = 1 by omega, s_t1, s_t2] using hA.trace (s_t2 a.2.2.2.2.2))
                | (refine ⟨by simp only [op_tell]; rw [if_pos qh, ix_nI hj2, if_pos (by omega), e100, e2, nI_mul, nI_add], ?_, ((((frM.rf.up (by decide)).up (by decide)).up (by decide)).up (by decide))⟩
                   simpa [pv_up2, pv_up_at, htr, op_tell, qh, ix_nI hj2, q3, s_t1, s_t2] using hA.trace (s_t1 (s_t2 (31 * a.2.2.2.2.2 + 3))))
          · have q6 : a.1.2.2.2 0 j = 0 := nI_inj (by omega) (by decide) h59
            refine PW_iload3 (pc' := 63) dX7_tell_62 rfl ?_
            refine PW_goto (tgt := 84) dX7_tell_63 rfl ?_
            refine PW_ireturn .int dX7_tell_84 rfl rfl ?_
            have e100 : (100 : Int32) = nI 100 := rfl
            have e2 : (2 : Int32) = nI 2 := rfl
            first
              | (exfalso; omega)
              | (refine ⟨by simp only [op_tell]; rw [if_pos qh, ix_nI hj2, if_neg (by omega), if_neg (by omega)], ?_, ((frM.rf.up (by decide)))⟩
                 simpa [pv_up2, pv_up_at, htr, op_tell, qh, ix_nI hj2, q3, q4, s_t1] using hA.trace (s_t1 a.2.2.2.2.2))
              | (refine ⟨by simp only [op_tell]; rw [if_pos qh, ix_nI hj2, if_neg (by omega), if_pos (by omega), e100, nI_add], ?_, ((frM.rf.up (by decide)).up (by decide))⟩
                 simpa [pv_up2, pv_up_at, htr, op_tell, qh, ix_nI hj2, show a.1.2.2.2 0 j = 1 by omega, s_t1, s_t2] using hA.trace (s_t2 a.2.2.2.2.2))
              | (refine ⟨by simp only [op_tell]; rw [if_pos qh, ix_nI hj2, if_pos (by omega), e100, e2, nI_mul, nI_add], ?_, ((((frM.rf.up (by decide)).up (by decide)).up (by decide)).up (by decide))⟩
                 simpa [pv_up2, pv_up_at, htr, op_tell, qh, ix_nI hj2, q3, s_t1, s_t2] using hA.trace (s_t1 (s_t2 (31 * a.2.2.2.2.2 + 3))))
      · have q4 : ¬ a.1.2.2.2 0 j = 0 := fun z => h28 (by rw [z]; decide)
        refine PW_aload0 (pc' := 32) dX7_tell_31 rfl ?_
        refine PW_iconst (pc' := 33) dX7_tell_32 rfl (v := 2) (by first | rfl | decide) ?_
        refine PW_callV1v (pc' := 36) dX7_tell_33 rfl oX7_traced lX7_243 rfl rfl rfl (Nat.le_of_ble_eq_true rfl) (c_X7_traced) ?_
        refine PW_aload0 (pc' := 37) dX7_tell_36 rfl ?_
        refine PW_iconst (pc' := 38) dX7_tell_37 rfl (v := 1) (by first | rfl | decide) ?_
        refine PW_callV1v (pc' := 41) dX7_tell_38 rfl oX7_traced lX7_243 rfl rfl rfl (Nat.le_of_ble_eq_true rfl) (c_X7_traced) ?_
        refine PW_iload2 (pc' := 42) dX7_tell_41 rfl ?_
        refine PW_iconst (pc' := 43) dX7_tell_42 rfl (v := 2) (by first | rfl | decide) ?_
        refine PW_icmp_ne (tgt := 51) (pc' := 46) dX7_tell_43 rfl rfl (fun h43 => ?_) (fun h43 => ?_)
        · have q5 : ¬ a.1.2.2.2 0 j = 2 := fun z => h43 (by rw [z]; rfl)
          refine PW_aload0 (pc' := 52) dX7_tell_51 rfl ?_
          refine PW_getR (pc' := 55) dX7_tell_52 rfl fX7_16 rfl rfl ?_
          refine PW_iload1 (pc' := 56) dX7_tell_55 rfl ?_
          refine PW_ialdn (pc' := 57) dX7_tell_56 rfl rfl rfl (by omega) ?_
          simp only [pv_up_o (show 32 ≠ 29 by decide)]
          rw [hf2 j hj]
          refine PW_istore3 (pc' := 58) dX7_tell_57 rfl rfl rfl ?_
          refine PW_iload2 (pc' := 59) dX7_tell_58 rfl ?_
          refine PW_if_ne (tgt := 66) (pc' := 62) dX7_tell_59 rfl rfl (fun h59 => ?_) (fun h59 => ?_)
          · have q6 : ¬ a.1.2.2.2 0 j = 0 := fun z => h59 (by rw [z]; rfl)
            refine PW_iload2 (pc' := 67) dX7_tell_66 rfl ?_
            refine PW_iconst (pc' := 68) dX7_tell_67 rfl (v := 1) (by first | rfl | decide) ?_
            refine PW_icmp_ne (tgt := 78) (pc' := 71) dX7_tell_68 rfl rfl (fun h68 => ?_) (fun h68 => ?_)
            · have q7 : ¬ a.1.2.2.2 0 j = 1 := fun z => h68 (by rw [z]; rfl)
              refine PW_iconst (pc' := 79) dX7_tell_78 rfl (v := 2) (by first | rfl | decide) ?_
              refine PW_iload3 (pc' := 80) dX7_tell_79 rfl ?_
              refine PW_imul (pc' := 81) dX7_tell_80 rfl ?_
              refine PW_bipush (pc' := 83) dX7_tell_81 rfl (v := 100) (by first | rfl | decide) ?_
              refine PW_iadd (pc' := 84) dX7_tell_83 rfl ?_
              refine PW_ireturn .int dX7_tell_84 rfl rfl ?_
              have e100 : (100 : Int32) = nI 100 := rfl
              have e2 : (2 : Int32) = nI 2 := rfl
              first
                | (exfalso; omega)
                | (refine ⟨by simp only [op_tell]; rw [if_pos qh, ix_nI hj2, if_neg (by omega), if_neg (by omega)], ?_, ((frM.rf.up (by decide)))⟩
                   simpa [pv_up2, pv_up_at, htr, op_tell, qh, ix_nI hj2, q3, q4, s_t1] using hA.trace (s_t1 a.2.2.2.2.2))
                | (refine ⟨by simp only [op_tell]; rw [if_pos qh, ix_nI hj2, if_neg (by omega), if_pos (by omega), e100, nI_add], ?_, ((frM.rf.up (by decide)).up (by decide))⟩
                   simpa [pv_up2, pv_up_at, htr, op_tell, qh, ix_nI hj2, show a.1.2.2.2 0 j = 1 by omega, s_t1, s_t2] using hA.trace (s_t2 a.2.2.2.2.2))
                | (refine ⟨by simp only [op_tell]; rw [if_pos qh, ix_nI hj2, if_pos (by omega), e100, e2, nI_mul, nI_add], ?_, ((((frM.rf.up (by decide)).up (by decide)).up (by decide)).up (by decide))⟩
                   simpa [pv_up2, pv_up_at, htr, op_tell, qh, ix_nI hj2, q3, s_t1, s_t2] using hA.trace (s_t1 (s_t2 (31 * a.2.2.2.2.2 + 3))))
            · have q7 : a.1.2.2.2 0 j = 1 := nI_inj (by omega) (by decide) h68
              refine PW_iload3 (pc' := 72) dX7_tell_71 rfl ?_
              refine PW_bipush (pc' := 74) dX7_tell_72 rfl (v := 100) (by first | rfl | decide) ?_
              refine PW_iadd (pc' := 75) dX7_tell_74 rfl ?_
              refine PW_goto (tgt := 84) dX7_tell_75 rfl ?_
              refine PW_ireturn .int dX7_tell_84 rfl rfl ?_
              have e100 : (100 : Int32) = nI 100 := rfl
              have e2 : (2 : Int32) = nI 2 := rfl
              first
                | (exfalso; omega)
                | (refine ⟨by simp only [op_tell]; rw [if_pos qh, ix_nI hj2, if_neg (by omega), if_neg (by omega)], ?_, ((frM.rf.up (by decide)))⟩
                   simpa [pv_up2, pv_up_at, htr, op_tell, qh, ix_nI hj2, q3, q4, s_t1] using hA.trace (s_t1 a.2.2.2.2.2))
                | (refine ⟨by simp only [op_tell]; rw [if_pos qh, ix_nI hj2, if_neg (by omega), if_pos (by omega), e100, nI_add], ?_, ((frM.rf.up (by decide)).up (by decide))⟩
                   simpa [pv_up2, pv_up_at, htr, op_tell, qh, ix_nI hj2, show a.1.2.2.2 0 j = 1 by omega, s_t1, s_t2] using hA.trace (s_t2 a.2.2.2.2.2))
                | (refine ⟨by simp only [op_tell]; rw [if_pos qh, ix_nI hj2, if_pos (by omega), e100, e2, nI_mul, nI_add], ?_, ((((frM.rf.up (by decide)).up (by decide)).up (by decide)).up (by decide))⟩
                   simpa [pv_up2, pv_up_at, htr, op_tell, qh, ix_nI hj2, q3, s_t1, s_t2] using hA.trace (s_t1 (s_t2 (31 * a.2.2.2.2.2 + 3))))
          · have q6 : a.1.2.2.2 0 j = 0 := nI_inj (by omega) (by decide) h59
            refine PW_iload3 (pc' := 63) dX7_tell_62 rfl ?_
            refine PW_goto (tgt := 84) dX7_tell_63 rfl ?_
            refine PW_ireturn .int dX7_tell_84 rfl rfl ?_
            have e100 : (100 : Int32) = nI 100 := rfl
            have e2 : (2 : Int32) = nI 2 := rfl
            first
              | (exfalso; omega)
              | (refine ⟨by simp only [op_tell]; rw [if_pos qh, ix_nI hj2, if_neg (by omega), if_neg (by omega)], ?_, ((frM.rf.up (by decide)))⟩
                 simpa [pv_up2, pv_up_at, htr, op_tell, qh, ix_nI hj2, q3, q4, s_t1] using hA.trace (s_t1 a.2.2.2.2.2))
              | (refine ⟨by simp only [op_tell]; rw [if_pos qh, ix_nI hj2, if_neg (by omega), if_pos (by omega), e100, nI_add], ?_, ((frM.rf.up (by decide)).up (by decide))⟩
                 simpa [pv_up2, pv_up_at, htr, op_tell, qh, ix_nI hj2, show a.1.2.2.2 0 j = 1 by omega, s_t1, s_t2] using hA.trace (s_t2 a.2.2.2.2.2))
              | (refine ⟨by simp only [op_tell]; rw [if_pos qh, ix_nI hj2, if_pos (by omega), e100, e2, nI_mul, nI_add], ?_, ((((frM.rf.up (by decide)).up (by decide)).up (by decide)).up (by decide))⟩
                 simpa [pv_up2, pv_up_at, htr, op_tell, qh, ix_nI hj2, q3, s_t1, s_t2] using hA.trace (s_t1 (s_t2 (31 * a.2.2.2.2.2 + 3))))
        · have q5 : a.1.2.2.2 0 j = 2 := nI_inj (by omega) (by decide) h43
          refine PW_aload0 (pc' := 47) dX7_tell_46 rfl ?_
          refine PW_iconst (pc' := 48) dX7_tell_47 rfl (v := 1) (by first | rfl | decide) ?_
          refine PW_callV1v (pc' := 51) dX7_tell_48 rfl oX7_traced lX7_243 rfl rfl rfl (Nat.le_of_ble_eq_true rfl) (c_X7_traced) ?_
          refine PW_aload0 (pc' := 52) dX7_tell_51 rfl ?_
          refine PW_getR (pc' := 55) dX7_tell_52 rfl fX7_16 rfl rfl ?_
          refine PW_iload1 (pc' := 56) dX7_tell_55 rfl ?_
          refine PW_ialdn (pc' := 57) dX7_tell_56 rfl rfl rfl (by omega) ?_
          simp only [pv_up_o (show 32 ≠ 29 by decide)]
          rw [hf2 j hj]
          refine PW_istore3 (pc' := 58) dX7_tell_57 rfl rfl rfl ?_
          refine PW_iload2 (pc' := 59) dX7_tell_58 rfl ?_
          refine PW_if_ne (tgt := 66) (pc' := 62) dX7_tell_59 rfl rfl (fun h59 => ?_) (fun h59 => ?_)
          · have q6 : ¬ a.1.2.2.2 0 j = 0 := fun z => h59 (by rw [z]; rfl)
            refine PW_iload2 (pc' := 67) dX7_tell_66 rfl ?_
            refine PW_iconst (pc' := 68) dX7_tell_67 rfl (v := 1) (by first | rfl | decide) ?_
            refine PW_icmp_ne (tgt := 78) (pc' := 71) dX7_tell_68 rfl rfl (fun h68 => ?_) (fun h68 => ?_)
            · have q7 : ¬ a.1.2.2.2 0 j = 1 := fun z => h68 (by rw [z]; rfl)
              refine PW_iconst (pc' := 79) dX7_tell_78 rfl (v := 2) (by first | rfl | decide) ?_
              refine PW_iload3 (pc' := 80) dX7_tell_79 rfl ?_
              refine PW_imul (pc' := 81) dX7_tell_80 rfl ?_
              refine PW_bipush (pc' := 83) dX7_tell_81 rfl (v := 100) (by first | rfl | decide) ?_
              refine PW_iadd (pc' := 84) dX7_tell_83 rfl ?_
              refine PW_ireturn .int dX7_tell_84 rfl rfl ?_
              have e100 : (100 : Int32) = nI 100 := rfl
              have e2 : (2 : Int32) = nI 2 := rfl
              first
                | (exfalso; omega)
                | (refine ⟨by simp only [op_tell]; rw [if_pos qh, ix_nI hj2, if_neg (by omega), if_neg (by omega)], ?_, ((frM.rf.up (by decide)))⟩
                   simpa [pv_up2, pv_up_at, htr, op_tell, qh, ix_nI hj2, q3, q4, s_t1] using hA.trace (s_t1 a.2.2.2.2.2))
                | (refine ⟨by simp only [op_tell]; rw [if_pos qh, ix_nI hj2, if_neg (by omega), if_pos (by omega), e100, nI_add], ?_, ((frM.rf.up (by decide)).up (by decide))⟩
                   simpa [pv_up2, pv_up_at, htr, op_tell, qh, ix_nI hj2, show a.1.2.2.2 0 j = 1 by omega, s_t1, s_t2] using hA.trace (s_t2 a.2.2.2.2.2))
                | (refine ⟨by simp only [op_tell]; rw [if_pos qh, ix_nI hj2, if_pos (by omega), e100, e2, nI_mul, nI_add], ?_, ((((frM.rf.up (by decide)).up (by decide)).up (by decide)).up (by decide))⟩
                   simpa [pv_up2, pv_up_at, htr, op_tell, qh, ix_nI hj2, q3, s_t1, s_t2] using hA.trace (s_t1 (s_t2 (31 * a.2.2.2.2.2 + 3))))
            · have q7 : a.1.2.2.2 0 j = 1 := nI_inj (by omega) (by decide) h68
              refine PW_iload3 (pc' := 72) dX7_tell_71 rfl ?_
              refine PW_bipush (pc' := 74) dX7_tell_72 rfl (v := 100) (by first | rfl | decide) ?_
              refine PW_iadd (pc' := 75) dX7_tell_74 rfl ?_
              refine PW_goto (tgt := 84) dX7_tell_75 rfl ?_
              refine PW_ireturn .int dX7_tell_84 rfl rfl ?_
              have e100 : (100 : Int32) = nI 100 := rfl
              have e2 : (2 : Int32) = nI 2 := rfl
              first
                | (exfalso; omega)
                | (refine ⟨by simp only [op_tell]; rw [if_pos qh, ix_nI hj2, if_neg (by omega), if_neg (by omega)], ?_, ((frM.rf.up (by decide)))⟩
                   simpa [pv_up2, pv_up_at, htr, op_tell, qh, ix_nI hj2, q3, q4, s_t1] using hA.trace (s_t1 a.2.2.2.2.2))
                | (refine ⟨by simp only [op_tell]; rw [if_pos qh, ix_nI hj2, if_neg (by omega), if_pos (by omega), e100, nI_add], ?_, ((frM.rf.up (by decide)).up (by decide))⟩
                   simpa [pv_up2, pv_up_at, htr, op_tell, qh, ix_nI hj2, show a.1.2.2.2 0 j = 1 by omega, s_t1, s_t2] using hA.trace (s_t2 a.2.2.2.2.2))
                | (refine ⟨by simp only [op_tell]; rw [if_pos qh, ix_nI hj2, if_pos (by omega), e100, e2, nI_mul, nI_add], ?_, ((((frM.rf.up (by decide)).up (by decide)).up (by decide)).up (by decide))⟩
                   simpa [pv_up2, pv_up_at, htr, op_tell, qh, ix_nI hj2, q3, s_t1, s_t2] using hA.trace (s_t1 (s_t2 (31 * a.2.2.2.2.2 + 3))))
          · have q6 : a.1.2.2.2 0 j = 0 := nI_inj (by omega) (by decide) h59
            refine PW_iload3 (pc' := 63) dX7_tell_62 rfl ?_
            refine PW_goto (tgt := 84) dX7_tell_63 rfl ?_
            refine PW_ireturn .int dX7_tell_84 rfl rfl ?_
            have e100 : (100 : Int32) = nI 100 := rfl
            have e2 : (2 : Int32) = nI 2 := rfl
            first
              | (exfalso; omega)
              | (refine ⟨by simp only [op_tell]; rw [if_pos qh, ix_nI hj2, if_neg (by omega), if_neg (by omega)], ?_, ((frM.rf.up (by decide)))⟩
                 simpa [pv_up2, pv_up_at, htr, op_tell, qh, ix_nI hj2, q3, q4, s_t1] using hA.trace (s_t1 a.2.2.2.2.2))
              | (refine ⟨by simp only [op_tell]; rw [if_pos qh, ix_nI hj2, if_neg (by omega), if_pos (by omega), e100, nI_add], ?_, ((frM.rf.up (by decide)).up (by decide))⟩
                 simpa [pv_up2, pv_up_at, htr, op_tell, qh, ix_nI hj2, show a.1.2.2.2 0 j = 1 by omega, s_t1, s_t2] using hA.trace (s_t2 a.2.2.2.2.2))
              | (refine ⟨by simp only [op_tell]; rw [if_pos qh, ix_nI hj2, if_pos (by omega), e100, e2, nI_mul, nI_add], ?_, ((((frM.rf.up (by decide)).up (by decide)).up (by decide)).up (by decide))⟩
                 simpa [pv_up2, pv_up_at, htr, op_tell, qh, ix_nI hj2, q3, s_t1, s_t2] using hA.trace (s_t1 (s_t2 (31 * a.2.2.2.2.2 + 3))))
    · have hk2 := (hok.2.2.2 j hj).1
      have q3 : a.1.2.2.2 0 j = 2 := nI_inj (by omega) (by decide) h19
      refine PW_aload0 (pc' := 23) dX7_tell_22 rfl ?_
      refine PW_iconst (pc' := 24) dX7_tell_23 rfl (v := 3) (by first | rfl | decide) ?_
      refine PW_callV1v (pc' := 27) dX7_tell_24 rfl oX7_traced lX7_243 rfl rfl rfl (Nat.le_of_ble_eq_true rfl) (c_X7_traced) ?_
      refine PW_iload2 (pc' := 28) dX7_tell_27 rfl ?_
      refine PW_if_le (tgt := 36) (pc' := 31) dX7_tell_28 rfl rfl (fun h28 => ?_) (fun h28 => ?_)
      · have q4 : a.1.2.2.2 0 j = 0 := by
          rcases Nat.eq_zero_or_pos (a.1.2.2.2 0 j) with z | z
          · exact z
          · exact absurd h28 (nI_nle z (by omega))
        refine PW_aload0 (pc' := 37) dX7_tell_36 rfl ?_
        refine PW_iconst (pc' := 38) dX7_tell_37 rfl (v := 1) (by first | rfl | decide) ?_
        refine PW_callV1v (pc' := 41) dX7_tell_38 rfl oX7_traced lX7_243 rfl rfl rfl (Nat.le_of_ble_eq_true rfl) (c_X7_traced) ?_
        refine PW_iload2 (pc' := 42) dX7_tell_41 rfl ?_
        refine PW_iconst (pc' := 43) dX7_tell_42 rfl (v := 2) (by first | rfl | decide) ?_
        refine PW_icmp_ne (tgt := 51) (pc' := 46) dX7_tell_43 rfl rfl (fun h43 => ?_) (fun h43 => ?_)
        · have q5 : ¬ a.1.2.2.2 0 j = 2 := fun z => h43 (by rw [z]; rfl)
          refine PW_aload0 (pc' := 52) dX7_tell_51 rfl ?_
          refine PW_getR (pc' := 55) dX7_tell_52 rfl fX7_16 rfl rfl ?_
          refine PW_iload1 (pc' := 56) dX7_tell_55 rfl ?_
          refine PW_ialdn (pc' := 57) dX7_tell_56 rfl rfl rfl (by omega) ?_
          simp only [pv_up_o (show 32 ≠ 29 by decide)]
          rw [hf2 j hj]
          refine PW_istore3 (pc' := 58) dX7_tell_57 rfl rfl rfl ?_
          refine PW_iload2 (pc' := 59) dX7_tell_58 rfl ?_
          refine PW_if_ne (tgt := 66) (pc' := 62) dX7_tell_59 rfl rfl (fun h59 => ?_) (fun h59 => ?_)
          · have q6 : ¬ a.1.2.2.2 0 j = 0 := fun z => h59 (by rw [z]; rfl)
            refine PW_iload2 (pc' := 67) dX7_tell_66 rfl ?_
            refine PW_iconst (pc' := 68) dX7_tell_67 rfl (v := 1) (by first | rfl | decide) ?_
            refine PW_icmp_ne (tgt := 78) (pc' := 71) dX7_tell_68 rfl rfl (fun h68 => ?_) (fun h68 => ?_)
            · have q7 : ¬ a.1.2.2.2 0 j = 1 := fun z => h68 (by rw [z]; rfl)
              refine PW_iconst (pc' := 79) dX7_tell_78 rfl (v := 2) (by first | rfl | decide) ?_
              refine PW_iload3 (pc' := 80) dX7_tell_79 rfl ?_
              refine PW_imul (pc' := 81) dX7_tell_80 rfl ?_
              refine PW_bipush (pc' := 83) dX7_tell_81 rfl (v := 100) (by first | rfl | decide) ?_
              refine PW_iadd (pc' := 84) dX7_tell_83 rfl ?_
              refine PW_ireturn .int dX7_tell_84 rfl rfl ?_
              have e100 : (100 : Int32) = nI 100 := rfl
              have e2 : (2 : Int32) = nI 2 := rfl
              first
                | (exfalso; omega)
                | (refine ⟨by simp only [op_tell]; rw [if_pos qh, ix_nI hj2, if_neg (by omega), if_neg (by omega)], ?_, ((frM.rf.up (by decide)))⟩
                   simpa [pv_up2, pv_up_at, htr, op_tell, qh, ix_nI hj2, q3, q4, s_t1] using hA.trace (s_t1 a.2.2.2.2.2))
                | (refine ⟨by simp only [op_tell]; rw [if_pos qh, ix_nI hj2, if_neg (by omega), if_pos (by omega), e100, nI_add], ?_, ((frM.rf.up (by decide)).up (by decide))⟩
                   simpa [pv_up2, pv_up_at, htr, op_tell, qh, ix_nI hj2, show a.1.2.2.2 0 j = 1 by omega, s_t1, s_t2] using hA.trace (s_t2 a.2.2.2.2.2))
                | (refine ⟨by simp only [op_tell]; rw [if_pos qh, ix_nI hj2, if_pos (by omega), e100, e2, nI_mul, nI_add], ?_, ((((frM.rf.up (by decide)).up (by decide)).up (by decide)).up (by decide))⟩
                   simpa [pv_up2, pv_up_at, htr, op_tell, qh, ix_nI hj2, q3, s_t1, s_t2] using hA.trace (s_t1 (s_t2 (31 * a.2.2.2.2.2 + 3))))
            · have q7 : a.1.2.2.2 0 j = 1 := nI_inj (by omega) (by decide) h68
              refine PW_iload3 (pc' := 72) dX7_tell_71 rfl ?_
              refine PW_bipush (pc' := 74) dX7_tell_72 rfl (v := 100) (by first | rfl | decide) ?_
              refine PW_iadd (pc' := 75) dX7_tell_74 rfl ?_
              refine PW_goto (tgt := 84) dX7_tell_75 rfl ?_
              refine PW_ireturn .int dX7_tell_84 rfl rfl ?_
              have e100 : (100 : Int32) = nI 100 := rfl
              have e2 : (2 : Int32) = nI 2 := rfl
              first
                | (exfalso; omega)
                | (refine ⟨by simp only [op_tell]; rw [if_pos qh, ix_nI hj2, if_neg (by omega), if_neg (by omega)], ?_, ((frM.rf.up (by decide)))⟩
                   simpa [pv_up2, pv_up_at, htr, op_tell, qh, ix_nI hj2, q3, q4, s_t1] using hA.trace (s_t1 a.2.2.2.2.2))
                | (refine ⟨by simp only [op_tell]; rw [if_pos qh, ix_nI hj2, if_neg (by omega), if_pos (by omega), e100, nI_add], ?_, ((frM.rf.up (by decide)).up (by decide))⟩
                   simpa [pv_up2, pv_up_at, htr, op_tell, qh, ix_nI hj2, show a.1.2.2.2 0 j = 1 by omega, s_t1, s_t2] using hA.trace (s_t2 a.2.2.2.2.2))
                | (refine ⟨by simp only [op_tell]; rw [if_pos qh, ix_nI hj2, if_pos (by omega), e100, e2, nI_mul, nI_add], ?_, ((((frM.rf.up (by decide)).up (by decide)).up (by decide)).up (by decide))⟩
                   simpa [pv_up2, pv_up_at, htr, op_tell, qh, ix_nI hj2, q3, s_t1, s_t2] using hA.trace (s_t1 (s_t2 (31 * a.2.2.2.2.2 + 3))))
          · have q6 : a.1.2.2.2 0 j = 0 := nI_inj (by omega) (by decide) h59
            refine PW_iload3 (pc' := 63) dX7_tell_62 rfl ?_
            refine PW_goto (tgt := 84) dX7_tell_63 rfl ?_
            refine PW_ireturn .int dX7_tell_84 rfl rfl ?_
            have e100 : (100 : Int32) = nI 100 := rfl
            have e2 : (2 : Int32) = nI 2 := rfl
            first
              | (exfalso; omega)
              | (refine ⟨by simp only [op_tell]; rw [if_pos qh, ix_nI hj2, if_neg (by omega), if_neg (by omega)], ?_, ((frM.rf.up (by decide)))⟩
                 simpa [pv_up2, pv_up_at, htr, op_tell, qh, ix_nI hj2, q3, q4, s_t1] using hA.trace (s_t1 a.2.2.2.2.2))
              | (refine ⟨by simp only [op_tell]; rw [if_pos qh, ix_nI hj2, if_neg (by omega), if_pos (by omega), e100, nI_add], ?_, ((frM.rf.up (by decide)).up (by decide))⟩
                 simpa [pv_up2, pv_up_at, htr, op_tell, qh, ix_nI hj2, show a.1.2.2.2 0 j = 1 by omega, s_t1, s_t2] using hA.trace (s_t2 a.2.2.2.2.2))
              | (refine ⟨by simp only [op_tell]; rw [if_pos qh, ix_nI hj2, if_pos (by omega), e100, e2, nI_mul, nI_add], ?_, ((((frM.rf.up (by decide)).up (by decide)).up (by decide)).up (by decide))⟩
                 simpa [pv_up2, pv_up_at, htr, op_tell, qh, ix_nI hj2, q3, s_t1, s_t2] using hA.trace (s_t1 (s_t2 (31 * a.2.2.2.2.2 + 3))))
        · have q5 : a.1.2.2.2 0 j = 2 := nI_inj (by omega) (by decide) h43
          refine PW_aload0 (pc' := 47) dX7_tell_46 rfl ?_
          refine PW_iconst (pc' := 48) dX7_tell_47 rfl (v := 1) (by first | rfl | decide) ?_
          refine PW_callV1v (pc' := 51) dX7_tell_48 rfl oX7_traced lX7_243 rfl rfl rfl (Nat.le_of_ble_eq_true rfl) (c_X7_traced) ?_
          refine PW_aload0 (pc' := 52) dX7_tell_51 rfl ?_
          refine PW_getR (pc' := 55) dX7_tell_52 rfl fX7_16 rfl rfl ?_
          refine PW_iload1 (pc' := 56) dX7_tell_55 rfl ?_
          refine PW_ialdn (pc' := 57) dX7_tell_56 rfl rfl rfl (by omega) ?_
          simp only [pv_up_o (show 32 ≠ 29 by decide)]
          rw [hf2 j hj]
          refine PW_istore3 (pc' := 58) dX7_tell_57 rfl rfl rfl ?_
          refine PW_iload2 (pc' := 59) dX7_tell_58 rfl ?_
          refine PW_if_ne (tgt := 66) (pc' := 62) dX7_tell_59 rfl rfl (fun h59 => ?_) (fun h59 => ?_)
          · have q6 : ¬ a.1.2.2.2 0 j = 0 := fun z => h59 (by rw [z]; rfl)
            refine PW_iload2 (pc' := 67) dX7_tell_66 rfl ?_
            refine PW_iconst (pc' := 68) dX7_tell_67 rfl (v := 1) (by first | rfl | decide) ?_
            refine PW_icmp_ne (tgt := 78) (pc' := 71) dX7_tell_68 rfl rfl (fun h68 => ?_) (fun h68 => ?_)
            · have q7 : ¬ a.1.2.2.2 0 j = 1 := fun z => h68 (by rw [z]; rfl)
              refine PW_iconst (pc' := 79) dX7_tell_78 rfl (v := 2) (by first | rfl | decide) ?_
              refine PW_iload3 (pc' := 80) dX7_tell_79 rfl ?_
              refine PW_imul (pc' := 81) dX7_tell_80 rfl ?_
              refine PW_bipush (pc' := 83) dX7_tell_81 rfl (v := 100) (by first | rfl | decide) ?_
              refine PW_iadd (pc' := 84) dX7_tell_83 rfl ?_
              refine PW_ireturn .int dX7_tell_84 rfl rfl ?_
              have e100 : (100 : Int32) = nI 100 := rfl
              have e2 : (2 : Int32) = nI 2 := rfl
              first
                | (exfalso; omega)
                | (refine ⟨by simp only [op_tell]; rw [if_pos qh, ix_nI hj2, if_neg (by omega), if_neg (by omega)], ?_, ((frM.rf.up (by decide)))⟩
                   simpa [pv_up2, pv_up_at, htr, op_tell, qh, ix_nI hj2, q3, q4, s_t1] using hA.trace (s_t1 a.2.2.2.2.2))
                | (refine ⟨by simp only [op_tell]; rw [if_pos qh, ix_nI hj2, if_neg (by omega), if_pos (by omega), e100, nI_add], ?_, ((frM.rf.up (by decide)).up (by decide))⟩
                   simpa [pv_up2, pv_up_at, htr, op_tell, qh, ix_nI hj2, show a.1.2.2.2 0 j = 1 by omega, s_t1, s_t2] using hA.trace (s_t2 a.2.2.2.2.2))
                | (refine ⟨by simp only [op_tell]; rw [if_pos qh, ix_nI hj2, if_pos (by omega), e100, e2, nI_mul, nI_add], ?_, ((((frM.rf.up (by decide)).up (by decide)).up (by decide)).up (by decide))⟩
                   simpa [pv_up2, pv_up_at, htr, op_tell, qh, ix_nI hj2, q3, s_t1, s_t2] using hA.trace (s_t1 (s_t2 (31 * a.2.2.2.2.2 + 3))))
            · have q7 : a.1.2.2.2 0 j = 1 := nI_inj (by omega) (by decide) h68
              refine PW_iload3 (pc' := 72) dX7_tell_71 rfl ?_
              refine PW_bipush (pc' := 74) dX7_tell_72 rfl (v := 100) (by first | rfl | decide) ?_
              refine PW_iadd (pc' := 75) dX7_tell_74 rfl ?_
              refine PW_goto (tgt := 84) dX7_tell_75 rfl ?_
              refine PW_ireturn .int dX7_tell_84 rfl rfl ?_
              have e100 : (100 : Int32) = nI 100 := rfl
              have e2 : (2 : Int32) = nI 2 := rfl
              first
                | (exfalso; omega)
                | (refine ⟨by simp only [op_tell]; rw [if_pos qh, ix_nI hj2, if_neg (by omega), if_neg (by omega)], ?_, ((frM.rf.up (by decide)))⟩
                   simpa [pv_up2, pv_up_at, htr, op_tell, qh, ix_nI hj2, q3, q4, s_t1] using hA.trace (s_t1 a.2.2.2.2.2))
                | (refine ⟨by simp only [op_tell]; rw [if_pos qh, ix_nI hj2, if_neg (by omega), if_pos (by omega), e100, nI_add], ?_, ((frM.rf.up (by decide)).up (by decide))⟩
                   simpa [pv_up2, pv_up_at, htr, op_tell, qh, ix_nI hj2, show a.1.2.2.2 0 j = 1 by omega, s_t1, s_t2] using hA.trace (s_t2 a.2.2.2.2.2))
                | (refine ⟨by simp only [op_tell]; rw [if_pos qh, ix_nI hj2, if_pos (by omega), e100, e2, nI_mul, nI_add], ?_, ((((frM.rf.up (by decide)).up (by decide)).up (by decide)).up (by decide))⟩
                   simpa [pv_up2, pv_up_at, htr, op_tell, qh, ix_nI hj2, q3, s_t1, s_t2] using hA.trace (s_t1 (s_t2 (31 * a.2.2.2.2.2 + 3))))
          · have q6 : a.1.2.2.2 0 j = 0 := nI_inj (by omega) (by decide) h59
            refine PW_iload3 (pc' := 63) dX7_tell_62 rfl ?_
            refine PW_goto (tgt := 84) dX7_tell_63 rfl ?_
            refine PW_ireturn .int dX7_tell_84 rfl rfl ?_
            have e100 : (100 : Int32) = nI 100 := rfl
            have e2 : (2 : Int32) = nI 2 := rfl
            first
              | (exfalso; omega)
              | (refine ⟨by simp only [op_tell]; rw [if_pos qh, ix_nI hj2, if_neg (by omega), if_neg (by omega)], ?_, ((frM.rf.up (by decide)))⟩
                 simpa [pv_up2, pv_up_at, htr, op_tell, qh, ix_nI hj2, q3, q4, s_t1] using hA.trace (s_t1 a.2.2.2.2.2))
              | (refine ⟨by simp only [op_tell]; rw [if_pos qh, ix_nI hj2, if_neg (by omega), if_pos (by omega), e100, nI_add], ?_, ((frM.rf.up (by decide)).up (by decide))⟩
                 simpa [pv_up2, pv_up_at, htr, op_tell, qh, ix_nI hj2, show a.1.2.2.2 0 j = 1 by omega, s_t1, s_t2] using hA.trace (s_t2 a.2.2.2.2.2))
              | (refine ⟨by simp only [op_tell]; rw [if_pos qh, ix_nI hj2, if_pos (by omega), e100, e2, nI_mul, nI_add], ?_, ((((frM.rf.up (by decide)).up (by decide)).up (by decide)).up (by decide))⟩
                 simpa [pv_up2, pv_up_at, htr, op_tell, qh, ix_nI hj2, q3, s_t1, s_t2] using hA.trace (s_t1 (s_t2 (31 * a.2.2.2.2.2 + 3))))
      · have q4 : ¬ a.1.2.2.2 0 j = 0 := fun z => h28 (by rw [z]; decide)
        refine PW_aload0 (pc' := 32) dX7_tell_31 rfl ?_
        refine PW_iconst (pc' := 33) dX7_tell_32 rfl (v := 2) (by first | rfl | decide) ?_
        refine PW_callV1v (pc' := 36) dX7_tell_33 rfl oX7_traced lX7_243 rfl rfl rfl (Nat.le_of_ble_eq_true rfl) (c_X7_traced) ?_
        refine PW_aload0 (pc' := 37) dX7_tell_36 rfl ?_
        refine PW_iconst (pc' := 38) dX7_tell_37 rfl (v := 1) (by first | rfl | decide) ?_
        refine PW_callV1v (pc' := 41) dX7_tell_38 rfl oX7_traced lX7_243 rfl rfl rfl (Nat.le_of_ble_eq_true rfl) (c_X7_traced) ?_
        refine PW_iload2 (pc' := 42) dX7_tell_41 rfl ?_
        refine PW_iconst (pc' := 43) dX7_tell_42 rfl (v := 2) (by first | rfl | decide) ?_
        refine PW_icmp_ne (tgt := 51) (pc' := 46) dX7_tell_43 rfl rfl (fun h43 => ?_) (fun h43 => ?_)
        · have q5 : ¬ a.1.2.2.2 0 j = 2 := fun z => h43 (by rw [z]; rfl)
          refine PW_aload0 (pc' := 52) dX7_tell_51 rfl ?_
          refine PW_getR (pc' := 55) dX7_tell_52 rfl fX7_16 rfl rfl ?_
          refine PW_iload1 (pc' := 56) dX7_tell_55 rfl ?_
          refine PW_ialdn (pc' := 57) dX7_tell_56 rfl rfl rfl (by omega) ?_
          simp only [pv_up_o (show 32 ≠ 29 by decide)]
          rw [hf2 j hj]
          refine PW_istore3 (pc' := 58) dX7_tell_57 rfl rfl rfl ?_
          refine PW_iload2 (pc' := 59) dX7_tell_58 rfl ?_
          refine PW_if_ne (tgt := 66) (pc' := 62) dX7_tell_59 rfl rfl (fun h59 => ?_) (fun h59 => ?_)
          · have q6 : ¬ a.1.2.2.2 0 j = 0 := fun z => h59 (by rw [z]; rfl)
            refine PW_iload2 (pc' := 67) dX7_tell_66 rfl ?_
            refine PW_iconst (pc' := 68) dX7_tell_67 rfl (v := 1) (by first | rfl | decide) ?_
            refine PW_icmp_ne (tgt := 78) (pc' := 71) dX7_tell_68 rfl rfl (fun h68 => ?_) (fun h68 => ?_)
            · have q7 : ¬ a.1.2.2.2 0 j = 1 := fun z => h68 (by rw [z]; rfl)
              refine PW_iconst (pc' := 79) dX7_tell_78 rfl (v := 2) (by first | rfl | decide) ?_
              refine PW_iload3 (pc' := 80) dX7_tell_79 rfl ?_
              refine PW_imul (pc' := 81) dX7_tell_80 rfl ?_
              refine PW_bipush (pc' := 83) dX7_tell_81 rfl (v := 100) (by first | rfl | decide) ?_
              refine PW_iadd (pc' := 84) dX7_tell_83 rfl ?_
              refine PW_ireturn .int dX7_tell_84 rfl rfl ?_
              have e100 : (100 : Int32) = nI 100 := rfl
              have e2 : (2 : Int32) = nI 2 := rfl
              first
                | (exfalso; omega)
                | (refine ⟨by simp only [op_tell]; rw [if_pos qh, ix_nI hj2, if_neg (by omega), if_neg (by omega)], ?_, ((frM.rf.up (by decide)))⟩
                   simpa [pv_up2, pv_up_at, htr, op_tell, qh, ix_nI hj2, q3, q4, s_t1] using hA.trace (s_t1 a.2.2.2.2.2))
                | (refine ⟨by simp only [op_tell]; rw [if_pos qh, ix_nI hj2, if_neg (by omega), if_pos (by omega), e100, nI_add], ?_, ((frM.rf.up (by decide)).up (by decide))⟩
                   simpa [pv_up2, pv_up_at, htr, op_tell, qh, ix_nI hj2, show a.1.2.2.2 0 j = 1 by omega, s_t1, s_t2] using hA.trace (s_t2 a.2.2.2.2.2))
                | (refine ⟨by simp only [op_tell]; rw [if_pos qh, ix_nI hj2, if_pos (by omega), e100, e2, nI_mul, nI_add], ?_, ((((frM.rf.up (by decide)).up (by decide)).up (by decide)).up (by decide))⟩
                   simpa [pv_up2, pv_up_at, htr, op_tell, qh, ix_nI hj2, q3, s_t1, s_t2] using hA.trace (s_t1 (s_t2 (31 * a.2.2.2.2.2 + 3))))
            · have q7 : a.1.2.2.2 0 j = 1 := nI_inj (by omega) (by decide) h68
              refine PW_iload3 (pc' := 72) dX7_tell_71 rfl ?_
              refine PW_bipush (pc' := 74) dX7_tell_72 rfl (v := 100) (by first | rfl | decide) ?_
              refine PW_iadd (pc' := 75) dX7_tell_74 rfl ?_
              refine PW_goto (tgt := 84) dX7_tell_75 rfl ?_
              refine PW_ireturn .int dX7_tell_84 rfl rfl ?_
              have e100 : (100 : Int32) = nI 100 := rfl
              have e2 : (2 : Int32) = nI 2 := rfl
              first
                | (exfalso; omega)
                | (refine ⟨by simp only [op_tell]; rw [if_pos qh, ix_nI hj2, if_neg (by omega), if_neg (by omega)], ?_, ((frM.rf.up (by decide)))⟩
                   simpa [pv_up2, pv_up_at, htr, op_tell, qh, ix_nI hj2, q3, q4, s_t1] using hA.trace (s_t1 a.2.2.2.2.2))
                | (refine ⟨by simp only [op_tell]; rw [if_pos qh, ix_nI hj2, if_neg (by omega), if_pos (by omega), e100, nI_add], ?_, ((frM.rf.up (by decide)).up (by decide))⟩
                   simpa [pv_up2, pv_up_at, htr, op_tell, qh, ix_nI hj2, show a.1.2.2.2 0 j = 1 by omega, s_t1, s_t2] using hA.trace (s_t2 a.2.2.2.2.2))
                | (refine ⟨by simp only [op_tell]; rw [if_pos qh, ix_nI hj2, if_pos (by omega), e100, e2, nI_mul, nI_add], ?_, ((((frM.rf.up (by decide)).up (by decide)).up (by decide)).up (by decide))⟩
                   simpa [pv_up2, pv_up_at, htr, op_tell, qh, ix_nI hj2, q3, s_t1, s_t2] using hA.trace (s_t1 (s_t2 (31 * a.2.2.2.2.2 + 3))))
          · have q6 : a.1.2.2.2 0 j = 0 := nI_inj (by omega) (by decide) h59
            refine PW_iload3 (pc' := 63) dX7_tell_62 rfl ?_
            refine PW_goto (tgt := 84) dX7_tell_63 rfl ?_
            refine PW_ireturn .int dX7_tell_84 rfl rfl ?_
            have e100 : (100 : Int32) = nI 100 := rfl
            have e2 : (2 : Int32) = nI 2 := rfl
            first
              | (exfalso; omega)
              | (refine ⟨by simp only [op_tell]; rw [if_pos qh, ix_nI hj2, if_neg (by omega), if_neg (by omega)], ?_, ((frM.rf.up (by decide)))⟩
                 simpa [pv_up2, pv_up_at, htr, op_tell, qh, ix_nI hj2, q3, q4, s_t1] using hA.trace (s_t1 a.2.2.2.2.2))
              | (refine ⟨by simp only [op_tell]; rw [if_pos qh, ix_nI hj2, if_neg (by omega), if_pos (by omega), e100, nI_add], ?_, ((frM.rf.up (by decide)).up (by decide))⟩
                 simpa [pv_up2, pv_up_at, htr, op_tell, qh, ix_nI hj2, show a.1.2.2.2 0 j = 1 by omega, s_t1, s_t2] using hA.trace (s_t2 a.2.2.2.2.2))
              | (refine ⟨by simp only [op_tell]; rw [if_pos qh, ix_nI hj2, if_pos (by omega), e100, e2, nI_mul, nI_add], ?_, ((((frM.rf.up (by decide)).up (by decide)).up (by decide)).up (by decide))⟩
                 simpa [pv_up2, pv_up_at, htr, op_tell, qh, ix_nI hj2, q3, s_t1, s_t2] using hA.trace (s_t1 (s_t2 (31 * a.2.2.2.2.2 + 3))))
        · have q5 : a.1.2.2.2 0 j = 2 := nI_inj (by omega) (by decide) h43
          refine PW_aload0 (pc' := 47) dX7_tell_46 rfl ?_
          refine PW_iconst (pc' := 48) dX7_tell_47 rfl (v := 1) (by first | rfl | decide) ?_
          refine PW_callV1v (pc' := 51) dX7_tell_48 rfl oX7_traced lX7_243 rfl rfl rfl (Nat.le_of_ble_eq_true rfl) (c_X7_traced) ?_
          refine PW_aload0 (pc' := 52) dX7_tell_51 rfl ?_
          refine PW_getR (pc' := 55) dX7_tell_52 rfl fX7_16 rfl rfl ?_
          refine PW_iload1 (pc' := 56) dX7_tell_55 rfl ?_
          refine PW_ialdn (pc' := 57) dX7_tell_56 rfl rfl rfl (by omega) ?_
          simp only [pv_up_o (show 32 ≠ 29 by decide)]
          rw [hf2 j hj]
          refine PW_istore3 (pc' := 58) dX7_tell_57 rfl rfl rfl ?_
          refine PW_iload2 (pc' := 59) dX7_tell_58 rfl ?_
          refine PW_if_ne (tgt := 66) (pc' := 62) dX7_tell_59 rfl rfl (fun h59 => ?_) (fun h59 => ?_)
          · have q6 : ¬ a.1.2.2.2 0 j = 0 := fun z => h59 (by rw [z]; rfl)
            refine PW_iload2 (pc' := 67) dX7_tell_66 rfl ?_
            refine PW_iconst (pc' := 68) dX7_tell_67 rfl (v := 1) (by first | rfl | decide) ?_
            refine PW_icmp_ne (tgt := 78) (pc' := 71) dX7_tell_68 rfl rfl (fun h68 => ?_) (fun h68 => ?_)
            · have q7 : ¬ a.1.2.2.2 0 j = 1 := fun z => h68 (by rw [z]; rfl)
              refine PW_iconst (pc' := 79) dX7_tell_78 rfl (v := 2) (by first | rfl | decide) ?_
              refine PW_iload3 (pc' := 80) dX7_tell_79 rfl ?_
              refine PW_imul (pc' := 81) dX7_tell_80 rfl ?_
              refine PW_bipush (pc' := 83) dX7_tell_81 rfl (v := 100) (by first | rfl | decide) ?_
              refine PW_iadd (pc' := 84) dX7_tell_83 rfl ?_
              refine PW_ireturn .int dX7_tell_84 rfl rfl ?_
              have e100 : (100 : Int32) = nI 100 := rfl
              have e2 : (2 : Int32) = nI 2 := rfl
              first
                | (exfalso; omega)
                | (refine ⟨by simp only [op_tell]; rw [if_pos qh, ix_nI hj2, if_neg (by omega), if_neg (by omega)], ?_, ((frM.rf.up (by decide)))⟩
                   simpa [pv_up2, pv_up_at, htr, op_tell, qh, ix_nI hj2, q3, q4, s_t1] using hA.trace (s_t1 a.2.2.2.2.2))
                | (refine ⟨by simp only [op_tell]; rw [if_pos qh, ix_nI hj2, if_neg (by omega), if_pos (by omega), e100, nI_add], ?_, ((frM.rf.up (by decide)).up (by decide))⟩
                   simpa [pv_up2, pv_up_at, htr, op_tell, qh, ix_nI hj2, show a.1.2.2.2 0 j = 1 by omega, s_t1, s_t2] using hA.trace (s_t2 a.2.2.2.2.2))
                | (refine ⟨by simp only [op_tell]; rw [if_pos qh, ix_nI hj2, if_pos (by omega), e100, e2, nI_mul, nI_add], ?_, ((((frM.rf.up (by decide)).up (by decide)).up (by decide)).up (by decide))⟩
                   simpa [pv_up2, pv_up_at, htr, op_tell, qh, ix_nI hj2, q3, s_t1, s_t2] using hA.trace (s_t1 (s_t2 (31 * a.2.2.2.2.2 + 3))))
            · have q7 : a.1.2.2.2 0 j = 1 := nI_inj (by omega) (by decide) h68
              refine PW_iload3 (pc' := 72) dX7_tell_71 rfl ?_
              refine PW_bipush (pc' := 74) dX7_tell_72 rfl (v := 100) (by first | rfl | decide) ?_
              refine PW_iadd (pc' := 75) dX7_tell_74 rfl ?_
              refine PW_goto (tgt := 84) dX7_tell_75 rfl ?_
              refine PW_ireturn .int dX7_tell_84 rfl rfl ?_
              have e100 : (100 : Int32) = nI 100 := rfl
              have e2 : (2 : Int32) = nI 2 := rfl
              first
                | (exfalso; omega)
                | (refine ⟨by simp only [op_tell]; rw [if_pos qh, ix_nI hj2, if_neg (by omega), if_neg (by omega)], ?_, ((frM.rf.up (by decide)))⟩
                   simpa [pv_up2, pv_up_at, htr, op_tell, qh, ix_nI hj2, q3, q4, s_t1] using hA.trace (s_t1 a.2.2.2.2.2))
                | (refine ⟨by simp only [op_tell]; rw [if_pos qh, ix_nI hj2, if_neg (by omega), if_pos (by omega), e100, nI_add], ?_, ((frM.rf.up (by decide)).up (by decide))⟩
                   simpa [pv_up2, pv_up_at, htr, op_tell, qh, ix_nI hj2, show a.1.2.2.2 0 j = 1 by omega, s_t1, s_t2] using hA.trace (s_t2 a.2.2.2.2.2))
                | (refine ⟨by simp only [op_tell]; rw [if_pos qh, ix_nI hj2, if_pos (by omega), e100, e2, nI_mul, nI_add], ?_, ((((frM.rf.up (by decide)).up (by decide)).up (by decide)).up (by decide))⟩
                   simpa [pv_up2, pv_up_at, htr, op_tell, qh, ix_nI hj2, q3, s_t1, s_t2] using hA.trace (s_t1 (s_t2 (31 * a.2.2.2.2.2 + 3))))
          · have q6 : a.1.2.2.2 0 j = 0 := nI_inj (by omega) (by decide) h59
            refine PW_iload3 (pc' := 63) dX7_tell_62 rfl ?_
            refine PW_goto (tgt := 84) dX7_tell_63 rfl ?_
            refine PW_ireturn .int dX7_tell_84 rfl rfl ?_
            have e100 : (100 : Int32) = nI 100 := rfl
            have e2 : (2 : Int32) = nI 2 := rfl
            first
              | (exfalso; omega)
              | (refine ⟨by simp only [op_tell]; rw [if_pos qh, ix_nI hj2, if_neg (by omega), if_neg (by omega)], ?_, ((frM.rf.up (by decide)))⟩
                 simpa [pv_up2, pv_up_at, htr, op_tell, qh, ix_nI hj2, q3, q4, s_t1] using hA.trace (s_t1 a.2.2.2.2.2))
              | (refine ⟨by simp only [op_tell]; rw [if_pos qh, ix_nI hj2, if_neg (by omega), if_pos (by omega), e100, nI_add], ?_, ((frM.rf.up (by decide)).up (by decide))⟩
                 simpa [pv_up2, pv_up_at, htr, op_tell, qh, ix_nI hj2, show a.1.2.2.2 0 j = 1 by omega, s_t1, s_t2] using hA.trace (s_t2 a.2.2.2.2.2))
              | (refine ⟨by simp only [op_tell]; rw [if_pos qh, ix_nI hj2, if_pos (by omega), e100, e2, nI_mul, nI_add], ?_, ((((frM.rf.up (by decide)).up (by decide)).up (by decide)).up (by decide))⟩
                 simpa [pv_up2, pv_up_at, htr, op_tell, qh, ix_nI hj2, q3, s_t1, s_t2] using hA.trace (s_t1 (s_t2 (31 * a.2.2.2.2.2 + 3))))
  · have q := bn_t h5
    refine PW_iconst (pc' := 9) dX7_tell_8 rfl (v := -1) (by first | rfl | decide) ?_
    refine PW_ireturn .int dX7_tell_9 rfl rfl ?_
    exact ⟨by simp [op_tell, s_hb, q], by simpa [op_tell, s_hb, q] using hA, frM.rf⟩
set_option maxHeartbeats 4000000 in
theorem c_X7_reading {Γ : pv_G} {d : Nat} {M : pv_M} {a : s_A} {t h : Int32} {w : Bool} (hA : AM M a) : Ct Γ (d + 2) vX7_reading [.ref 29, .int t, .int h, .int (bi w)] M (o_M (op_reading t h w a) M) := by
  obtain ⟨hH, hR, hSh, hfl, htr, hnv⟩ := id hA
  obtain ⟨hok, hc1, hc2, hc3, hf⟩ := id hH
  have hn5 := hok.1
  have hf0 := fun t ht => hf t ht 0 (by decide)
  have hf2 := fun t ht => hf t ht 2 (by decide)
  have hf4 := fun t ht => hf t ht 4 (by decide)
  refine Ct.of oX7_reading.1 rfl (pad := 0) rfl ?_
  show PW Γ (d + 2) vX7_reading 0 [.ref 29, .int t, .int h, .int (bi w)] [] M _
  refine PW_aload0 (pc' := 1) dX7_reading_0 rfl ?_
  refine PW_iload1 (pc' := 2) dX7_reading_1 rfl ?_
  refine PW_callV1f (pc' := 5) dX7_reading_2 rfl oX7_noThing lX7_145 rfl rfl rfl (Nat.le_of_ble_eq_true rfl) (c_X7_noThing hn5 hc1) ?_
  refine PW_if_eq (tgt := 10) (pc' := 8) dX7_reading_5 rfl rfl (fun h5 => ?_) (fun h5 => ?_)
  · have q := bn_f h5
    obtain ⟨j, hj, rfl⟩ := s_hb_of hn5 q
    have hj2 : j < 2 ^ 31 := by omega
    have qh : s_hb a (nI j) = true := q
    refine PW_iload2 (pc' := 11) dX7_reading_10 rfl ?_
    refine PW_i2l (pc' := 12) dX7_reading_11 rfl ?_
    refine PW_lconst (pc' := 13) dX7_reading_12 rfl (v := 0) (by first | rfl | decide) ?_
    refine PW_ldc2 (pc' := 16) dX7_reading_13 rfl qX7_208 ?_
    refine PW_callS3f (pc' := 19) dX7_reading_16 rfl oX7_in lX7_87 (Nat.le_of_ble_eq_true rfl) (c_X7_inr (a := 0) (b := 5) rfl rfl) ?_
    refine PW_if_ne (tgt := 25) (pc' := 22) dX7_reading_19 rfl rfl (fun h19 => ?_) (fun h19 => ?_)
    · have q2 := bi_t h19
      obtain ⟨u, hu, rfl⟩ := s_rng_of (n := 5) q2
      have hu2 : u < 2 ^ 31 := by omega
      refine PW_aload0 (pc' := 26) dX7_reading_25 rfl ?_
      refine PW_getI (pc' := 29) dX7_reading_26 rfl fX7_142 rfl rfl ?_
      rw [hR.1]
      obtain ⟨r1, r2, r3⟩ := id hR
      refine PW_bipush (pc' := 31) dX7_reading_29 rfl (v := nI 8) (by first | rfl | decide) ?_
      refine PW_icmp_ne (tgt := 37) (pc' := 34) dX7_reading_31 rfl rfl (fun h31 => ?_) (fun h31 => ?_)
      · have h8 : a.2.1.1 < 8 := by
          rcases Nat.lt_or_ge a.2.1.1 8 with z | z
          · exact z
          · exact absurd (by rw [show a.2.1.1 = 8 by omega]) h31
        refine PW_aload0 (pc' := 38) dX7_reading_37 rfl ?_
        refine PW_getR (pc' := 41) dX7_reading_38 rfl fX7_49 rfl rfl ?_
        refine PW_aload0 (pc' := 42) dX7_reading_41 rfl ?_
        refine PW_getI (pc' := 45) dX7_reading_42 rfl fX7_142 rfl rfl ?_
        rw [r1]
        refine PW_iload1 (pc' := 46) dX7_reading_45 rfl ?_
        refine PW_iastn (pc' := 47) dX7_reading_46 rfl rfl rfl (by omega) ?_
        refine PW_aload0 (pc' := 48) dX7_reading_47 rfl ?_
        refine PW_getR (pc' := 51) dX7_reading_48 rfl fX7_52 rfl rfl ?_
        refine PW_aload0 (pc' := 52) dX7_reading_51 rfl ?_
        refine PW_getI (pc' := 55) dX7_reading_52 rfl fX7_142 rfl rfl ?_
        rw [show (pv_up M 43 a.2.1.1 (nI j)) 29 25 = nI a.2.1.1 from r1]
        refine PW_iload2 (pc' := 56) dX7_reading_55 rfl ?_
        refine PW_iastn (pc' := 57) dX7_reading_56 rfl rfl rfl (by omega) ?_
        refine PW_aload0 (pc' := 58) dX7_reading_57 rfl ?_
        refine PW_getR (pc' := 61) dX7_reading_58 rfl fX7_55 rfl rfl ?_
        refine PW_aload0 (pc' := 62) dX7_reading_61 rfl ?_
        refine PW_getI (pc' := 65) dX7_reading_62 rfl fX7_142 rfl rfl ?_
        rw [show (pv_up (pv_up M 43 a.2.1.1 (nI j)) 44 a.2.1.1 (nI u)) 29 25 = nI a.2.1.1 from r1]
        refine PW_iload3 (pc' := 66) dX7_reading_65 rfl ?_
        refine PW_zastn (pc' := 67) dX7_reading_66 rfl rfl rfl (by omega) (by first | rfl | exact vp_nar_bool _) ?_
        refine PW_aload0 (pc' := 68) dX7_reading_67 rfl ?_
        refine PW_dupR (pc' := 69) dX7_reading_68 rfl ?_
        refine PW_getI (pc' := 72) dX7_reading_69 rfl fX7_142 rfl rfl ?_
        rw [show (pv_up (pv_up (pv_up M 43 a.2.1.1 (nI j)) 44 a.2.1.1 (nI u)) 45 a.2.1.1 (bi w)) 29 25 = nI a.2.1.1 from r1]
        refine PW_iconst (pc' := 73) dX7_reading_72 rfl (v := 1) (by first | rfl | decide) ?_
        refine PW_iadd (pc' := 74) dX7_reading_73 rfl ?_
        rw [nI_1]
        refine PW_putI (pc' := 77) dX7_reading_74 rfl fX7_142 w6_25 rfl rfl ?_
        refine PW_aload0 (pc' := 78) dX7_reading_77 rfl ?_
        refine PW_getI (pc' := 81) dX7_reading_78 rfl fX7_142 rfl rfl ?_
        rw [pv_up_at, if_pos ⟨rfl, rfl⟩]
        refine PW_iconst (pc' := 82) dX7_reading_81 rfl (v := 1) (by first | rfl | decide) ?_
        refine PW_isub (pc' := 83) dX7_reading_82 rfl ?_
        refine PW_ireturn .int dX7_reading_83 rfl rfl ?_
        rw [nI_pred]
        refine ⟨by simp [op_reading, s_hb, q, q2, h8], ?_, ((((frM.rf.up (by decide)).up (by decide)).up (by decide)).up (by decide))⟩
        have := hA.rd (M' := pv_up (pv_up (pv_up (pv_up M 43 a.2.1.1 (nI j)) 44 a.2.1.1 (nI u)) 45 a.2.1.1 (bi w)) 29 25 (nI (a.2.1.1 + 1))) (r := (a.2.1.1 + 1, fun i => if i = a.2.1.1 then j else a.2.1.2.1 i, fun i => if i = a.2.1.1 then u else a.2.1.2.2.1 i, fun i => if i = a.2.1.1 then w else a.2.1.2.2.2 i)) ⟨by simp [pv_up_at], by show a.2.1.1 + 1 ≤ 8; omega, fun i hi => ?_⟩ (fun p hp => ?_) (fun x hx => ?_)
        · simpa [op_reading, s_hb, q, q2, h8, ix_nI hj2, ix_nI hu2] using this
        · have hi : i < a.2.1.1 + 1 := hi
          by_cases hq : i = a.2.1.1
          · subst hq
            refine ⟨⟨?_, ?_⟩, ⟨?_, ?_⟩, ?_⟩
            · simp [pv_up_at]
            · simpa using hj
            · simp [pv_up_at]
            · simp; omega
            · simp [pv_up_at]
          · obtain ⟨⟨g1, g2⟩, ⟨g3, g4⟩, g5⟩ := r3 i (by omega)
            refine ⟨⟨?_, ?_⟩, ⟨?_, ?_⟩, ?_⟩
            · simpa [pv_up_at, hq] using g1
            · simpa [hq] using g2
            · simpa [pv_up_at, hq] using g3
            · simpa [hq] using g4
            · simpa [pv_up_at, hq] using g5
        · simp at hp
          rw [pv_up_o (by omega), pv_up_o (by omega), pv_up_o (by omega), pv_up_o (by omega)]
        · rw [pv_up_at, if_neg (fun z => hx z.2), pv_up_o (by decide), pv_up_o (by decide), pv_up_o (by decide)]
      · have h8 : ¬ a.2.1.1 < 8 := by have := nI_inj (a := a.2.1.1) (b := 8) (by omega) (by decide) h31; omega
        refine PW_bipush (pc' := 36) dX7_reading_34 rfl (v := -4) (by first | rfl | decide) ?_
        refine PW_ireturn .int dX7_reading_36 rfl rfl ?_
        exact ⟨by simp [op_reading, s_hb, q, q2, h8], by simpa [op_reading, s_hb, q, q2, h8] using hA, frM.rf⟩
    · have q2 := bi_f h19
      refine PW_bipush (pc' := 24) dX7_reading_22 rfl (v := -2) (by first | rfl | decide) ?_
      refine PW_ireturn .int dX7_reading_24 rfl rfl ?_
      exact ⟨by simp [op_reading, s_hb, q, q2], by simpa [op_reading, s_hb, q, q2] using hA, frM.rf⟩
  · have q := bn_t h5
    refine PW_iconst (pc' := 9) dX7_reading_8 rfl (v := -1) (by first | rfl | decide) ?_
    refine PW_ireturn .int dX7_reading_9 rfl rfl ?_
    exact ⟨by simp [op_reading, s_hb, q], by simpa [op_reading, s_hb, q] using hA, frM.rf⟩
set_option maxHeartbeats 4000000 in
theorem c_X7_back {Γ : pv_G} {d : Nat} {M : pv_M} {a : s_A} {k : Int32} (hA : AM M a) : Ct Γ (d + 1) vX7_back [.ref 29, .int k] M (o_M (op_back k a) M) := by
  obtain ⟨hH, hR, hSh, hfl, htr, hnv⟩ := id hA
  obtain ⟨hok, hc1, hc2, hc3, hf⟩ := id hH
  have hn5 := hok.1
  have hf0 := fun t ht => hf t ht 0 (by decide)
  have hf2 := fun t ht => hf t ht 2 (by decide)
  have hf4 := fun t ht => hf t ht 4 (by decide)
  refine Ct.of oX7_back.1 rfl (pad := 0) rfl ?_
  show PW Γ (d + 1) vX7_back 0 [.ref 29, .int k] [] M _
  refine PW_iload1 (pc' := 1) dX7_back_0 rfl ?_
  refine PW_i2l (pc' := 2) dX7_back_1 rfl ?_
  refine PW_lconst (pc' := 3) dX7_back_2 rfl (v := 0) (by first | rfl | decide) ?_
  refine PW_aload0 (pc' := 4) dX7_back_3 rfl ?_
  refine PW_getI (pc' := 7) dX7_back_4 rfl fX7_142 rfl rfl ?_
  rw [hR.1]
  refine PW_i2l (pc' := 8) dX7_back_7 rfl ?_
  refine PW_callS3f (pc' := 11) dX7_back_8 rfl oX7_in lX7_87 (Nat.le_of_ble_eq_true rfl) (c_X7_inr (a := 0) (b := a.2.1.1) rfl (v_cnt0 _ (by have := hR.2.1; omega))) ?_
  refine PW_if_ne (tgt := 17) (pc' := 14) dX7_back_11 rfl rfl (fun h11 => ?_) (fun h11 => ?_)
  · have q := bi_t h11
    obtain ⟨j, hj, rfl⟩ := s_rng_of (n := a.2.1.1) q
    have hr8 := hR.2.1
    have hj2 : j < 2 ^ 31 := by omega
    have e : nI a.2.1.1 - nI j = nI (a.2.1.1 - j) := by
      rw [show nI a.2.1.1 = nI (a.2.1.1 - j) + nI j by rw [nI_add]; congr 1; omega]
      exact Int32.add_sub_cancel _ _
    refine PW_aload0 (pc' := 18) dX7_back_17 rfl ?_
    refine PW_dupR (pc' := 19) dX7_back_18 rfl ?_
    refine PW_getI (pc' := 22) dX7_back_19 rfl fX7_142 rfl rfl ?_
    rw [show M 29 25 = nI a.2.1.1 from hR.1]
    refine PW_iload1 (pc' := 23) dX7_back_22 rfl ?_
    refine PW_isub (pc' := 24) dX7_back_23 rfl ?_
    rw [show nI a.2.1.1 - nI j = nI (a.2.1.1 - j) from e]
    refine PW_putI (pc' := 27) dX7_back_24 rfl fX7_142 w6_25 rfl rfl ?_
    refine PW_aload0 (pc' := 28) dX7_back_27 rfl ?_
    refine PW_getI (pc' := 31) dX7_back_28 rfl fX7_142 rfl rfl ?_
    refine PW_ireturn .int dX7_back_31 rfl rfl ?_
    rw [pv_up_at, if_pos ⟨rfl, rfl⟩]
    refine ⟨by simp [op_back, q, ix_nI hj2], ?_, frM.rf.up (by decide)⟩
    obtain ⟨r1, r2, r3⟩ := id hR
    have := hA.rd (M' := pv_up M 29 25 (nI (a.2.1.1 - j))) (r := (a.2.1.1 - j, a.2.1.2.1, a.2.1.2.2.1, a.2.1.2.2.2)) ⟨by simp [pv_up_at], by show a.2.1.1 - j ≤ 8; omega, fun i hi => by have hi : i < a.2.1.1 - j := hi; simpa [pv_up_at] using r3 i (by omega)⟩ (fun p hp => pv_up_o (fun z => hp (by rw [z]; decide))) (fun x hx => by rw [pv_up_at, if_neg (fun z => hx z.2)])
    simpa [op_back, q, ix_nI hj2] using this
  · have q := bi_f h11
    refine PW_bipush (pc' := 16) dX7_back_14 rfl (v := -2) (by first | rfl | decide) ?_
    refine PW_ireturn .int dX7_back_16 rfl rfl ?_
    exact ⟨by simp [op_back, q], by simpa [op_back, q] using hA, frM.rf⟩
