/-! the reference: used by a told round -/
theorem s_pc_or (x A B : Nat) : ∀ n, (∀ y, y < n → ¬ (A.testBit y = true ∧ B.testBit y = true)) → s_pc (x &&& (A ||| B)) n = s_pc (x &&& A) n + s_pc (x &&& B) n
  | 0, _ => rfl
  | n + 1, h => by
    have ih := s_pc_or x A B n (fun y hy => h y (by omega))
    have hn := h n (by omega)
    simp only [s_pc, Nat.testBit_and, Nat.testBit_or]
    revert hn
    cases x.testBit n <;> cases A.testBit n <;> cases B.testBit n <;> simp <;> omega
theorem s_pop_or {x A B : Nat} (hx : x < 64) (hd : ∀ y, y < 6 → ¬ (A.testBit y = true ∧ B.testBit y = true)) : s_pop (x &&& (A ||| B)) = s_pop (x &&& A) + s_pop (x &&& B) := by
  rw [s_pop_pc _ (s_and_lt hx), s_pop_pc _ (s_and_lt hx), s_pop_pc _ (s_and_lt hx)]
  exact s_pc_or x A B 6 hd
theorem s_hic_bit {H : s_H} {r : Nat → Option Nat} {t : Nat} (hok : s_ok H) (ht : t < H.1) {y : Nat} (hy : y < 6) : ∀ k, k ≤ 6 → (s_hic H r t k).testBit y = true → ∃ h, h < k ∧ r h = some t ∧ y < h + H.2.2.2 3 t
  | 0, _, hb => by simp [s_hic] at hb
  | k + 1, hk, hb => by
    simp only [s_hic] at hb
    have hl := (hok.2.2.2 t ht).2.2.2.1
    by_cases hr : r k = some t
    · rw [if_pos hr, Nat.testBit_or, Bool.or_eq_true] at hb
      rcases hb with hb | hb
      · obtain ⟨h, h1, h2⟩ := s_hic_bit hok ht hy k (by omega) hb
        exact ⟨h, by omega, h2⟩
      · rw [s_span_bit _ (by omega) _ (by omega) _ hy, Bool.and_eq_true, decide_eq_true_eq, decide_eq_true_eq] at hb
        exact ⟨k, by omega, hr, hb.2⟩
    · rw [if_neg hr] at hb
      obtain ⟨h, h1, h2⟩ := s_hic_bit hok ht hy k (by omega) hb
      exact ⟨h, by omega, h2⟩
/-- what the others miss -/
def s_oth (H : s_H) (r : Nat → Option Nat) (t : Nat) : Nat → Nat
  | 0 => 0
  | k + 1 => s_oth H r t k + (match r k with
    | none => 0
    | some y => if y = t then 0 else s_miss1 H y k)
theorem s_miss_use {H : s_H} {r : Nat → Option Nat} {t x : Nat} (hok : s_ok H) (ht : t < H.1) (hx : x < 64) : ∀ k, k ≤ 6 → s_wrn H none r k = none → s_miss (s_use H t x) r k = s_oth H r t k + s_pop (x &&& s_hic H r t k)
  | 0, _, _ => by
    have e : s_pop 0 = 0 := by decide
    simp [s_miss, s_oth, s_hic, e]
  | k + 1, hk, hw => by
    obtain ⟨w1, w2⟩ := s_wrn_pre hw
    have ih := s_miss_use (r := r) hok ht hx k (by omega) w1
    have hl := (hok.2.2.2 t ht).2.2.2.1
    have e3 : ∀ y, (s_use H t x).2.2.2 3 y = H.2.2.2 3 y := fun y => by simp [s_use]
    simp only [s_miss, s_oth, s_hic, ih]
    cases hr : r k with
    | none =>
      rw [if_neg (by simp)]
      simp only []
      omega
    | some y =>
      simp only []
      by_cases hyt : y = t
      · subst hyt
        rw [if_pos rfl, if_pos rfl, s_pop_or hx]
        · have : s_miss1 (s_use H y x) y k = s_pop (x &&& s_span (H.2.2.2 3 y) k) := by
            simp only [s_miss1, e3]
            simp [s_use]
          rw [this]
          omega
        · rintro z hz ⟨b1, b2⟩
          obtain ⟨h, h1, h2, h3⟩ := s_hic_bit hok ht hz k (by omega) b1
          rw [s_span_bit _ (by omega) _ (by omega) _ hz, Bool.and_eq_true, decide_eq_true_eq, decide_eq_true_eq] at b2
          have b3 := (w2 y hr).1
          have b4 := (s_cs_bit H r k y k).mpr ⟨h, h1, h2, by omega⟩
          rw [b4] at b3
          cases b3
      · rw [if_neg hyt, if_neg (fun z => hyt (Option.some.inj z))]
        have : s_miss1 (s_use H t x) y k = s_miss1 H y k := by
          simp only [s_miss1, e3]
          simp [s_use, hyt]
        rw [this]
        omega
theorem s_miss_base {H : s_H} {r : Nat → Option Nat} {t x : Nat} (hok : s_ok H) (ht : t < H.1) (hx : x < 64) (hw : s_wrong H r 6 = none) : nI (s_miss (s_use H t x) r 6) = s_base H r t + nI (s_pop (x &&& s_hic H r t 6)) := by
  have hw2 : s_wrn H none r 6 = none := by rw [s_wrn_none]; exact hw
  have e1 := s_miss_use (r := r) hok ht (hok.2.2.2 t ht).2.2.2.2 6 (by decide) hw2
  rw [s_use_self] at e1
  rw [s_miss_use hok ht hx 6 (by decide) hw2, s_base, e1, ← nI_add, ← nI_add, Int32.add_sub_cancel]
set_option maxHeartbeats 4000000 in
theorem l_X7_used {Γ : pv_G} {d t : Nat} {a : s_A} {k l i v : Int32} {M0 M1 : pv_M} {x6 : Int32} (ht : t < a.1.1) (hz : 0 ≤ v_sb k l i v a) (hA1 : AM M1 (a_flt a (a_hear k l i (s_rng v 0 999) a).2)) (hF1 : frM M0 M1) (hrow : s_row M1 40 6 a.1.1 (s_rw a (ix k) (ix i))) (hqh : s_hb a (nI t) = true) : ∀ (m j : Nat) (M : pv_M), j + m = 64 → frS (pv_up M1 34 t (M 34 t)) M → M 40 = M1 40 →
    PW Γ (d + 4) vX7_used 48 [.ref 29, .int (nI t), .int k, .int l, .int i, .int v, .int x6, .int (M1 34 t), .int (nI (s_cnt (s_base a.1 (s_rw a (ix k) (ix i)) t) (s_hic a.1 (s_rw a (ix k) (ix i)) t 6) v j)), .int (nI j)] [] M (o_M (op_used (nI t) k l i v a) M0) := by
  obtain ⟨ho0, hw⟩ := sb_nn hz
  have hok : s_ok a.1 := hA1.1.1
  have hn5 := hok.1
  have ht5 : t < 5 := Nat.lt_of_lt_of_le ht hn5
  intro m
  induction m using Nat.strongRecOn with
  | ind m ih =>
    intro j M hjm hF h40
    refine PW_iload9 (pc' := 50) dX7_used_48 rfl ?_
    refine PW_bipush (pc' := 52) dX7_used_50 rfl (v := nI 64) (by first | rfl | decide) ?_
    refine PW_icmp_ge (tgt := 93) (pc' := 55) dX7_used_52 rfl rfl (fun h52 => ?_) (fun h52 => ?_)
    · have hj : j = 64 := by have := s_bge (by omega) (by omega) h52; omega
      subst hj
      refine PW_aload0 (pc' := 94) dX7_used_93 rfl ?_
      refine PW_getR (pc' := 97) dX7_used_94 rfl fX7_22 rfl rfl ?_
      refine PW_iload1 (pc' := 98) dX7_used_97 rfl ?_
      refine PW_iload7 (pc' := 100) dX7_used_98 rfl ?_
      refine PW_iastn (pc' := 101) dX7_used_100 rfl rfl rfl (show t < 5 by omega) ?_
      refine PW_iload8 (pc' := 103) dX7_used_101 rfl ?_
      refine PW_ireturn .int dX7_used_103 rfl rfl ?_
      have hA2 := hA1.scr (frS_back hF)
      refine ⟨?_, ?_, hF1.tr (frS_back hF).frM⟩ <;> simp only [op_used] <;> rw [if_pos hqh]
      · rw [if_pos ho0, hw, if_neg (by decide), ix_nI (by omega)]
      · exact hA2
    · have hj : j < 64 := s_bnd (by omega) (by omega) h52
      have hFj : frS (pv_up M1 34 t (nI j)) (pv_up M 34 t (nI j)) := frS_set hF
      have hHj : HM (pv_up M 34 t (nI j)) (s_use a.1 t j) := (HM.use (H := a.1) hA1.1 ht hj).scr hFj
      have hrj : s_row (pv_up M 34 t (nI j)) 40 6 (s_use a.1 t j).1 (s_rw a (ix k) (ix i)) := by
        intro x hx
        rw [pv_up_o (by decide), h40]
        exact hrow x hx
      have hnj : pv_up M 34 t (nI j) 29 9 = s_rI none := by
        rw [hFj.2 9 (by decide), pv_up_o (by decide)]
        exact hA1.2.2.2.2.2
      refine PW_aload0 (pc' := 56) dX7_used_55 rfl ?_
      refine PW_getR (pc' := 59) dX7_used_56 rfl fX7_22 rfl rfl ?_
      refine PW_iload1 (pc' := 60) dX7_used_59 rfl ?_
      refine PW_iload9 (pc' := 62) dX7_used_60 rfl ?_
      refine PW_iastn (pc' := 63) dX7_used_62 rfl rfl rfl (show t < 5 by omega) ?_
      refine PW_aload0 (pc' := 64) dX7_used_63 rfl ?_
      refine PW_callV0r (pc' := 67) dX7_used_64 rfl oX7_goRound lX7_188 rfl rfl rfl (Nat.le_of_ble_eq_true rfl) (c_X7_goRound (H := s_use a.1 t j) (nv := none) hHj hrj hnj (fun t ht => by cases ht)) (fun M2 hM2 => ?_)
      obtain ⟨g1, g2, g3, g4⟩ := go_of (H := s_use a.1 t j) hHj.1 hrj hM2
      have hwj : s_wrong (s_use a.1 t j) (s_rw a (ix k) (ix i)) 6 = none := by rw [s_wrong_of (H := a.1) (fun y => by simp [s_use])]; exact hw
      have g5 := (g4 hwj).2.1
      rw [s_miss_base hok ht (by omega) hw] at g5
      have e2 : M2 34 t = nI j := by rw [g1.1 34 (by decide), pv_up_at, if_pos ⟨rfl, rfl⟩]
      refine PW_popI (pc' := 68) dX7_used_67 rfl ?_
      refine PW_iload8 (pc' := 70) dX7_used_68 rfl ?_
      refine PW_aload0 (pc' := 71) dX7_used_70 rfl ?_
      refine PW_getI (pc' := 74) dX7_used_71 rfl fX7_166 rfl rfl ?_
      rw [g5]
      refine PW_iload5 (pc' := 76) dX7_used_74 rfl ?_
      refine PW_icmp_ne (tgt := 83) (pc' := 79) dX7_used_76 rfl rfl (fun h76 => ?_) (fun h76 => ?_)
      · have e : s_cnt (s_base a.1 (s_rw a (ix k) (ix i)) t) (s_hic a.1 (s_rw a (ix k) (ix i)) t 6) v (j + 1) = s_cnt (s_base a.1 (s_rw a (ix k) (ix i)) t) (s_hic a.1 (s_rw a (ix k) (ix i)) t 6) v j := by simp [s_cnt, h76]
        refine PW_iconst (pc' := 84) dX7_used_83 rfl (v := nI 0) (by first | rfl | decide) ?_
        refine PW_iadd (pc' := 85) dX7_used_84 rfl ?_
        rw [nI_add]
        refine PW_istore8 (pc' := 87) dX7_used_85 rfl rfl rfl ?_
        refine PW_iinc9 (pc' := 90) dX7_used_87 rfl rfl rfl nI_inc ?_
        refine PW_goto (tgt := 48) dX7_used_90 rfl ?_
        have hgo := ih (m - 1) (by omega) (j + 1) M2 (by omega) (by rw [e2]; exact hFj.tr g1) (by rw [g2, pv_up_o (by decide), h40])
        rw [e] at hgo
        exact hgo
      · have e : s_cnt (s_base a.1 (s_rw a (ix k) (ix i)) t) (s_hic a.1 (s_rw a (ix k) (ix i)) t 6) v (j + 1) = s_cnt (s_base a.1 (s_rw a (ix k) (ix i)) t) (s_hic a.1 (s_rw a (ix k) (ix i)) t 6) v j + 1 := by simp [s_cnt, h76]
        refine PW_iconst (pc' := 80) dX7_used_79 rfl (v := nI 1) (by first | rfl | decide) ?_
        refine PW_goto (tgt := 84) dX7_used_80 rfl ?_
        refine PW_iadd (pc' := 85) dX7_used_84 rfl ?_
        rw [nI_add]
        refine PW_istore8 (pc' := 87) dX7_used_85 rfl rfl rfl ?_
        refine PW_iinc9 (pc' := 90) dX7_used_87 rfl rfl rfl nI_inc ?_
        refine PW_goto (tgt := 48) dX7_used_90 rfl ?_
        have hgo := ih (m - 1) (by omega) (j + 1) M2 (by omega) (by rw [e2]; exact hFj.tr g1) (by rw [g2, pv_up_o (by decide), h40])
        rw [e] at hgo
        exact hgo
set_option maxHeartbeats 4000000 in
theorem c_X7_used {Γ : pv_G} {d : Nat} {M : pv_M} {a : s_A} {t k l i v : Int32} (hA : AM M a) : Ct Γ (d + 4) vX7_used [.ref 29, .int t, .int k, .int l, .int i, .int v] M (o_M (op_used t k l i v a) M) := by
  obtain ⟨hH, hR, hSh, hfl, htr, hnv⟩ := id hA
  obtain ⟨hok, hc1, hc2, hc3, hf⟩ := id hH
  have hn5 := hok.1
  have hf0 := fun t ht => hf t ht 0 (by decide)
  have hf2 := fun t ht => hf t ht 2 (by decide)
  have hf4 := fun t ht => hf t ht 4 (by decide)
  refine Ct.of oX7_used.1 rfl (pad := 4) rfl ?_
  show PW Γ (d + 4) vX7_used 0 [.ref 29, .int t, .int k, .int l, .int i, .int v, .null, .null, .null, .null] [] M _
  refine PW_aload0 (pc' := 1) dX7_used_0 rfl ?_
  refine PW_iload1 (pc' := 2) dX7_used_1 rfl ?_
  refine PW_callV1f (pc' := 5) dX7_used_2 rfl oX7_noThing lX7_145 rfl rfl rfl (Nat.le_of_ble_eq_true rfl) (c_X7_noThing hn5 hc1) ?_
  refine PW_if_eq (tgt := 14) (pc' := 8) dX7_used_5 rfl rfl (fun h5 => ?_) (fun h5 => ?_)
  · have q := bn_f h5
    obtain ⟨j, hj, rfl⟩ := s_hb_of hn5 q
    have hj2 : j < 2 ^ 31 := by omega
    have qh : s_hb a (nI j) = true := q
    refine PW_aload0 (pc' := 15) dX7_used_14 rfl ?_
    refine PW_iload2 (pc' := 16) dX7_used_15 rfl ?_
    refine PW_iload3 (pc' := 17) dX7_used_16 rfl ?_
    refine PW_iload4 (pc' := 19) dX7_used_17 rfl ?_
    refine PW_iload5 (pc' := 21) dX7_used_19 rfl ?_
    refine PW_callV4r (pc' := 24) dX7_used_21 rfl oX7_seenBarred lX7_223 rfl rfl rfl (Nat.le_of_ble_eq_true rfl) (c_X7_seenBarred hA) (fun M1 hM1 => ?_)
    obtain ⟨hA1, hF1, hrw⟩ := hM1
    refine PW_istore6 (pc' := 26) dX7_used_24 rfl rfl rfl ?_
    refine PW_iload6 (pc' := 28) dX7_used_26 rfl ?_
    refine PW_if_ge (tgt := 34) (pc' := 31) dX7_used_28 rfl rfl (fun h28 => ?_) (fun h28 => ?_)
    · refine PW_aload0 (pc' := 35) dX7_used_34 rfl ?_
      refine PW_getR (pc' := 38) dX7_used_35 rfl fX7_22 rfl rfl ?_
      refine PW_iload1 (pc' := 39) dX7_used_38 rfl ?_
      refine PW_ialdn (pc' := 40) dX7_used_39 rfl rfl rfl (show j < 5 by omega) ?_
      refine PW_istore7 (pc' := 42) dX7_used_40 rfl rfl rfl ?_
      refine PW_iconst (pc' := 43) dX7_used_42 rfl (v := nI (s_cnt (s_base a.1 (s_rw a (ix k) (ix i)) j) (s_hic a.1 (s_rw a (ix k) (ix i)) j 6) v 0)) (by first | rfl | decide) ?_
      refine PW_istore8 (pc' := 45) dX7_used_43 rfl rfl rfl ?_
      refine PW_iconst (pc' := 46) dX7_used_45 rfl (v := nI 0) (by first | rfl | decide) ?_
      refine PW_istore9 (pc' := 48) dX7_used_46 rfl rfl rfl ?_
      refine l_X7_used hj h28 hA1 hF1 (hrw (sb_nn h28).1) qh 64 0 M1 (by omega) ?_ rfl
      exact ⟨fun q hq => by
        funext y
        rw [pv_up_at]
        split
        · rename_i z; rw [z.1, z.2]
        · rfl, fun q hq => by
        rw [pv_up_at]
        split
        · rename_i z; exact absurd z.1 (by decide)
        · rfl⟩
    · refine PW_iload6 (pc' := 33) dX7_used_31 rfl ?_
      refine PW_ireturn .int dX7_used_33 rfl rfl ?_
      refine ⟨?_, ?_, hF1⟩ <;> simp only [op_used] <;> rw [if_pos qh]
      · rw [sb_no h28]
      · exact hA1
  · have q := bn_t h5
    refine PW_aload0 (pc' := 9) dX7_used_8 rfl ?_
    refine PW_iconst (pc' := 10) dX7_used_9 rfl (v := -1) (by first | rfl | decide) ?_
    refine PW_callV1f (pc' := 13) dX7_used_10 rfl oX7_refused lX7_124 rfl rfl rfl (Nat.le_of_ble_eq_true rfl) (c_X7_refused) ?_
    refine PW_ireturn .int dX7_used_13 rfl rfl ?_
    have qh : s_hb a t = false := q
    exact ⟨by simp [op_used, qh], by simpa [op_used, qh] using hA.fault 0, frM.rf.up (by decide)⟩
