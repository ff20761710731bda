/-! the class: small calls -/
def ix (t : Int32) : Nat := t.toNatClampNeg
theorem ix_nI {j : Nat} (h : j < 2 ^ 31) : ix (nI j) = j := nI_clamp h
theorem s_hb_of {n : Nat} (hn : n ≤ 5) {t : Int32} (h : s_rng t 0 ((n : Int) - 1) = true) : ∃ j, j < n ∧ t = nI j := by
  rw [← s_hb_has hn] at h
  exact s_has_of hn h
theorem s_hb_nI {n j : Nat} (hn : n ≤ 5) (hj : j < n) : s_rng (nI j) 0 ((n : Int) - 1) = true := by
  rw [← s_hb_has hn]
  exact s_has_nI hn hj
theorem c_X0_hasb {Γ : pv_G} {d : Nat} {M : pv_M} {n : Nat} {t : Int32} (hn : n ≤ 5) (hc : M 10 1 = nI n) : Ct Γ d vX0_has [.ref 10, .int t] M (pv_fn (some (.int (bi (s_rng t 0 ((n : Int) - 1))))) M) := by
  rw [← s_hb_has hn]
  exact c_X0_has hc
def op_ofThing (t w : Int32) (a : s_A) : s_O := (if s_hb a t = true then (if w = 0 then nI (a.1.2.2.2 0 (ix t)) else if w = 1 then nI (a.1.2.2.2 1 (ix t)) else if w = 2 then nI (a.1.2.2.2 2 (ix t)) else if w = 3 then nI (a.1.2.2.2 3 (ix t)) else if w = 4 then nI (a.1.2.2.2 4 (ix t)) else if w = 5 then nI (s_val a.1 (ix t)) else -2) else -1, a)
def op_penalty (v : Int32) (a : s_A) : s_O := if s_rng v 0 9 = true then (if a.1.1 = 0 then (-3, a) else (nI a.1.2.1, a_hs a (a.1.1, ix v, a.1.2.2.1, a.1.2.2.2))) else (-2, a)
def op_law (v : Int32) (a : s_A) : s_O := if s_rng v 0 3 = true then (if a.1.1 = 0 then (-3, a) else (nI a.1.2.2.1, a_hs a (a.1.1, a.1.2.1, ix v, a.1.2.2.2))) else (-2, a)
/-- thing t has other uses -/
def s_use (H : s_H) (t u : Nat) : s_H := (H.1, H.2.1, H.2.2.1, fun f x => if f = 4 ∧ x = t then u else H.2.2.2 f x)
def op_use (t v : Int32) (a : s_A) : s_O := if s_hb a t = true then (if s_rng v 0 63 = true then (nI (a.1.2.2.2 4 (ix t)), a_hs a (s_use a.1 (ix t) (ix v))) else (-2, a)) else (-1, a)
def op_many (w : Int32) (a : s_A) : s_O := (if w = 0 then nI a.1.1 else if w = 1 then nI a.1.2.1 else if w = 2 then nI a.1.2.2.1 else if w = 3 then nI a.2.1.1 else -2, a)
def op_back (k : Int32) (a : s_A) : s_O := if s_rng k 0 a.2.1.1 = true then (nI (a.2.1.1 - ix k), a_rd a (a.2.1.1 - ix k, a.2.1.2.1, a.2.1.2.2.1, a.2.1.2.2.2)) else (-2, a)
def op_reading (t h : Int32) (w : Bool) (a : s_A) : s_O := if s_hb a t = true then (if s_rng h 0 5 = true then (if a.2.1.1 < 8 then (nI a.2.1.1, a_rd a (a.2.1.1 + 1, fun i => if i = a.2.1.1 then ix t else a.2.1.2.1 i, fun i => if i = a.2.1.1 then ix h else a.2.1.2.2.1 i, fun i => if i = a.2.1.1 then w else a.2.1.2.2.2 i)) else (-4, a)) else (-2, a)) else (-1, a)
def op_fault (a : s_A) : s_O := (a.2.2.2.2.1, a)
def op_trace (a : s_A) : s_O := (a.2.2.2.2.2, a)
def op_as (t k : Int32) (a : s_A) : s_O := if s_hb a t = true then (if s_rng k 0 2 = true then (if ix k ≤ a.1.2.2.2 0 (ix t) then (1, a_flt a 0) else (-12, a_flt a 2)) else (-2, a_flt a 0)) else (-1, a_flt a 0)
def op_label (t : Int32) (a : s_A) : s_O := if s_hb a t = true then (if a.1.2.2.2 0 (ix t) = 2 then (70, a_trc a (31 * a.2.2.2.2.2 + 5)) else (t, a_trc a (31 * a.2.2.2.2.2 + 4))) else (-1, a)
def s_t1 (t : Int32) : Int32 := 31 * t + 1
def s_t2 (t : Int32) : Int32 := s_t1 (31 * t + 2)
def op_tell (t : Int32) (a : s_A) : s_O := if s_hb a t = true then
  (if a.1.2.2.2 0 (ix t) = 2 then (nI (2 * a.1.2.2.2 2 (ix t) + 100), a_trc a (s_t1 (s_t2 (31 * a.2.2.2.2.2 + 3)))) else if a.1.2.2.2 0 (ix t) = 1 then (nI (a.1.2.2.2 2 (ix t) + 100), a_trc a (s_t2 a.2.2.2.2.2)) else (nI (a.1.2.2.2 2 (ix t)), a_trc a (s_t1 a.2.2.2.2.2))) else (-1, a)
theorem HX.pen {M : pv_M} {H : s_H} (h : HX M H) {v : Nat} (hv : v ≤ 9) : HX (pv_up M 10 2 (nI v)) (H.1, v, H.2.2.1, H.2.2.2) := by
  obtain ⟨⟨o1, o2, o3, o4⟩, a, b, c, e⟩ := h
  exact ⟨⟨o1, hv, o3, o4⟩, by simpa [pv_up_at] using a, by simp [pv_up_at], by simpa [pv_up_at] using c, fun t ht f hf => by rw [pv_up_o (by omega)]; exact e t ht f hf⟩
theorem HX.law {M : pv_M} {H : s_H} (h : HX M H) {v : Nat} (hv : v ≤ 3) : HX (pv_up M 10 3 (nI v)) (H.1, H.2.1, v, H.2.2.2) := by
  obtain ⟨⟨o1, o2, o3, o4⟩, a, b, c, e⟩ := h
  exact ⟨⟨o1, o2, hv, o4⟩, by simpa [pv_up_at] using a, by simpa [pv_up_at] using b, by simp [pv_up_at], fun t ht f hf => by rw [pv_up_o (by omega)]; exact e t ht f hf⟩
theorem HX.use {M : pv_M} {H : s_H} (h : HX M H) {j u : Nat} (hj : j < H.1) (hu : u < 64) : HX (pv_up M (12 + j) 4 (nI u)) (s_use H j u) := by
  obtain ⟨⟨o1, o2, o3, o4⟩, a, b, c, e⟩ := h
  refine ⟨⟨o1, o2, o3, fun t ht => ?_⟩, ?_, ?_, ?_, fun t ht f hf => ?_⟩
  · obtain ⟨g1, g2, g3, g4, g5⟩ := o4 t ht
    refine ⟨by simpa [s_use] using g1, by simpa [s_use] using g2, by simpa [s_use] using g3, by simpa [s_use] using g4, ?_⟩
    simp only [s_use]
    split
    · exact hu
    · exact g5
  · rw [pv_up_o (by omega)]; exact a
  · rw [pv_up_o (by omega)]; exact b
  · rw [pv_up_o (by omega)]; exact c
  · have ht : t < H.1 := ht
    rw [pv_up_at]
    by_cases hq : t = j ∧ f = 4
    · rw [if_pos (by omega)]
      simp [s_use, hq]
    · rw [if_neg (by omega), e t ht f hf]
      have : ¬ (f = 4 ∧ t = j) := fun z => hq ⟨z.2, z.1⟩
      simp only [s_use, if_neg this]
theorem AX.hs {M M' : pv_M} {a : s_A} {H : s_H} (h : AX M a) (hH : HX M' H) (hn : H.1 = a.1.1) (hf : fr s_12 M M') : AX M' (a_hs a H) := by
  obtain ⟨h1, h2, h3, h4, h5⟩ := h
  refine ⟨hH, by simp only [a_hs]; rw [hn]; exact h2.fr hf (by decide), fun k hk => ?_, by rw [hf 0 (by decide)]; exact h4, by rw [hf 0 (by decide)]; exact h5⟩
  have e1 : 2 + k ∉ s_12 := by
    match k, hk with
    | 0, _ => decide
    | 1, _ => decide
    | 2, _ => decide
    | 3, _ => decide
  unfold s_sh
  rw [hf _ e1, hf _ (s_12_no hk)]
  exact h3 k hk
theorem AX.rd {M M' : pv_M} {a : s_A} {r : s_R} (h : AX M a) (hR : RX M' a.1.1 r) (hf : fr [17, 18, 19, 20] M M') : AX M' (a_rd a r) := by
  obtain ⟨h1, h2, h3, h4, h5⟩ := h
  refine ⟨h1.fr hf (by decide) (by decide), hR, fun k hk => ?_, by rw [hf 0 (by decide)]; exact h4, by rw [hf 0 (by decide)]; exact h5⟩
  unfold s_sh
  rw [hf (2 + k) (by simp; omega), hf (6 + k) (by simp; omega)]
  exact h3 k hk
set_option maxHeartbeats 4000000 in
theorem c_X6_ofThing {Γ : pv_G} {d : Nat} {M : pv_M} {a : s_A} {t w : Int32} (hA : AX M a) : Ct Γ (d + 1) vX6_ofThing [.ref 0, .int t, .int w] M (o_X (op_ofThing t w a) M) := by
  obtain ⟨hH, hR, hSh, hfl, htr⟩ := id hA
  obtain ⟨hok, hc1, hc2, hc3, hf⟩ := id hH
  have hn5 := hok.1
  refine Ct.of oX6_ofThing.1 rfl (pad := 1) rfl ?_
  show PW Γ (d + 1) vX6_ofThing 0 [.ref 0, .int t, .int w, .null] [] M _
  refine PW_aload0 (pc' := 1) dX6_ofThing_0 rfl ?_
  refine PW_getR (pc' := 4) dX6_ofThing_1 rfl fX6_21 rfl rfl ?_
  refine PW_iload1 (pc' := 5) dX6_ofThing_4 rfl ?_
  refine PW_callV1f (pc' := 8) dX6_ofThing_5 rfl oX0_has lX6_79 rfl rfl rfl (Nat.le_of_ble_eq_true rfl) (c_X0_hasb hn5 hc1) ?_
  refine PW_if_ne (tgt := 13) (pc' := 11) dX6_ofThing_8 rfl rfl (fun h8 => ?_) (fun h8 => ?_)
  · have q := bi_t h8
    obtain ⟨j, hj, rfl⟩ := s_hb_of hn5 q
    refine PW_aload0 (pc' := 14) dX6_ofThing_13 rfl ?_
    refine PW_getR (pc' := 17) dX6_ofThing_14 rfl fX6_21 rfl rfl ?_
    refine PW_getR (pc' := 20) dX6_ofThing_17 rfl fX6_82 rfl rfl ?_
    refine PW_iload1 (pc' := 21) dX6_ofThing_20 rfl ?_
    refine PW_aald3 (pc' := 22) dX6_ofThing_21 rfl (by omega) ?_
    refine PW_astore3 (pc' := 23) dX6_ofThing_22 rfl rfl rfl ?_
    refine PW_iload2 (pc' := 24) dX6_ofThing_23 rfl ?_
    by_cases e24_0 : w = 0
    · subst e24_0
      refine PW_tin (tgt := 64) dX6_ofThing_24 (by decide) (by decide) (by rfl) rfl ?_
      refine PW_aload3 (pc' := 65) dX6_ofThing_64 rfl ?_
      refine PW_getI (pc' := 68) dX6_ofThing_65 rfl fX6_86 (pv_lay_thing (by omega)) rfl ?_
      refine PW_ireturn .int dX6_ofThing_68 rfl rfl ?_
      rw [hf j hj 0 (by decide)]
      exact ⟨by simp [op_ofThing, s_hb, q, ix_nI (show j < 2 ^ 31 by omega)], hA, frX.rf⟩
    by_cases e24_1 : w = 1
    · subst e24_1
      refine PW_tin (tgt := 69) dX6_ofThing_24 (by decide) (by decide) (by rfl) rfl ?_
      refine PW_aload3 (pc' := 70) dX6_ofThing_69 rfl ?_
      refine PW_getI (pc' := 73) dX6_ofThing_70 rfl fX6_91 (pv_lay_thing (by omega)) rfl ?_
      refine PW_ireturn .int dX6_ofThing_73 rfl rfl ?_
      rw [hf j hj 1 (by decide)]
      exact ⟨by simp [op_ofThing, s_hb, q, ix_nI (show j < 2 ^ 31 by omega)], hA, frX.rf⟩
    by_cases e24_2 : w = 2
    · subst e24_2
      refine PW_tin (tgt := 74) dX6_ofThing_24 (by decide) (by decide) (by rfl) rfl ?_
      refine PW_aload3 (pc' := 75) dX6_ofThing_74 rfl ?_
      refine PW_getI (pc' := 78) dX6_ofThing_75 rfl fX6_94 (pv_lay_thing (by omega)) rfl ?_
      refine PW_ireturn .int dX6_ofThing_78 rfl rfl ?_
      rw [hf j hj 2 (by decide)]
      exact ⟨by simp [op_ofThing, s_hb, q, ix_nI (show j < 2 ^ 31 by omega)], hA, frX.rf⟩
    by_cases e24_3 : w = 3
    · subst e24_3
      refine PW_tin (tgt := 79) dX6_ofThing_24 (by decide) (by decide) (by rfl) rfl ?_
      refine PW_aload3 (pc' := 80) dX6_ofThing_79 rfl ?_
      refine PW_getI (pc' := 83) dX6_ofThing_80 rfl fX6_97 (pv_lay_thing (by omega)) rfl ?_
      refine PW_ireturn .int dX6_ofThing_83 rfl rfl ?_
      rw [hf j hj 3 (by decide)]
      exact ⟨by simp [op_ofThing, s_hb, q, ix_nI (show j < 2 ^ 31 by omega)], hA, frX.rf⟩
    by_cases e24_4 : w = 4
    · subst e24_4
      refine PW_tin (tgt := 84) dX6_ofThing_24 (by decide) (by decide) (by rfl) rfl ?_
      refine PW_aload3 (pc' := 85) dX6_ofThing_84 rfl ?_
      refine PW_getI (pc' := 88) dX6_ofThing_85 rfl fX6_100 (pv_lay_thing (by omega)) rfl ?_
      refine PW_ireturn .int dX6_ofThing_88 rfl rfl ?_
      rw [hf j hj 4 (by decide)]
      exact ⟨by simp [op_ofThing, s_hb, q, ix_nI (show j < 2 ^ 31 by omega)], hA, frX.rf⟩
    by_cases e24_5 : w = 5
    · subst e24_5
      refine PW_tin (tgt := 89) dX6_ofThing_24 (by decide) (by decide) (by rfl) rfl ?_
      refine PW_aload3 (pc' := 90) dX6_ofThing_89 rfl ?_
      refine PW_callV0f (pc' := 93) dX6_ofThing_90 rfl oX5_value lX6_103 (pv_lay_thing (by omega)) rfl rfl (Nat.le_of_ble_eq_true rfl) (c_X5_value hj hH) ?_
      refine PW_ireturn .int dX6_ofThing_93 rfl rfl ?_
      exact ⟨by simp [op_ofThing, s_hb, q, ix_nI (show j < 2 ^ 31 by omega)], hA, frX.rf⟩
    refine PW_tout (tgt := 94) dX6_ofThing_24 (ts_out5 e24_0 e24_1 e24_2 e24_3 e24_4 e24_5) rfl ?_
    refine PW_bipush (pc' := 96) dX6_ofThing_94 rfl (v := -2) (by first | rfl | decide) ?_
    refine PW_ireturn .int dX6_ofThing_96 rfl rfl ?_
    exact ⟨by simp [op_ofThing, s_hb, q, e24_0, e24_1, e24_2, e24_3, e24_4, e24_5], hA, frX.rf⟩
  · have q := bi_f h8
    refine PW_iconst (pc' := 12) dX6_ofThing_11 rfl (v := -1) (by first | rfl | decide) ?_
    refine PW_ireturn .int dX6_ofThing_12 rfl rfl ?_
    exact ⟨by simp [op_ofThing, s_hb, q], hA, frX.rf⟩
set_option maxHeartbeats 4000000 in
theorem c_X6_penalty {Γ : pv_G} {d : Nat} {M : pv_M} {a : s_A} {v : Int32} (hA : AX M a) : Ct Γ (d + 1) vX6_penalty [.ref 0, .int v] M (o_X (op_penalty v a) M) := by
  obtain ⟨hH, hR, hSh, hfl, htr⟩ := id hA
  obtain ⟨hok, hc1, hc2, hc3, hf⟩ := id hH
  have hn5 := hok.1
  refine Ct.of oX6_penalty.1 rfl (pad := 1) rfl ?_
  show PW Γ (d + 1) vX6_penalty 0 [.ref 0, .int v, .null] [] M _
  refine PW_iload1 (pc' := 1) dX6_penalty_0 rfl ?_
  refine PW_if_lt (tgt := 10) (pc' := 4) dX6_penalty_1 rfl rfl (fun h1 => ?_) (fun h1 => ?_)
  · have q : s_rng v 0 9 = false := by
      rw [z_lt] at h1
      simp only [s_rng, Bool.and_eq_false_iff, decide_eq_false_iff_not]
      omega
    refine PW_bipush (pc' := 12) dX6_penalty_10 rfl (v := -2) (by first | rfl | decide) ?_
    refine PW_ireturn .int dX6_penalty_12 rfl rfl ?_
    exact ⟨by simp [op_penalty, q], by simpa [op_penalty, q] using hA, frX.rf⟩
  · refine PW_iload1 (pc' := 5) dX6_penalty_4 rfl ?_
    refine PW_bipush (pc' := 7) dX6_penalty_5 rfl (v := nI 9) (by first | rfl | decide) ?_
    refine PW_icmp_le (tgt := 13) (pc' := 10) dX6_penalty_7 rfl rfl (fun h7 => ?_) (fun h7 => ?_)
    · simp only [Int32.lt_iff_toInt_lt, Int32.le_iff_toInt_le, nI_toInt (show 9 < 2 ^ 31 by decide)] at h7
      have q : s_rng v 0 9 = true := by
        rw [z_lt] at h1
        simp only [s_rng, Bool.and_eq_true, decide_eq_true_eq]
        omega
      obtain ⟨j, hj, rfl⟩ := s_rng_of (n := 9) q
      refine PW_aload0 (pc' := 14) dX6_penalty_13 rfl ?_
      refine PW_getR (pc' := 17) dX6_penalty_14 rfl fX6_21 rfl rfl ?_
      refine PW_callV0f (pc' := 20) dX6_penalty_17 rfl oX0_stands lX6_107 rfl rfl rfl (Nat.le_of_ble_eq_true rfl) (c_X0_stands hn5 hc1) ?_
      refine PW_if_ne (tgt := 26) (pc' := 23) dX6_penalty_20 rfl rfl (fun h20 => ?_) (fun h20 => ?_)
      · have hp := bi_t h20
        have hp : a.1.1 ≠ 0 := by
          simp only [decide_eq_true_eq] at hp
          omega
        refine PW_aload0 (pc' := 27) dX6_penalty_26 rfl ?_
        refine PW_getR (pc' := 30) dX6_penalty_27 rfl fX6_21 rfl rfl ?_
        refine PW_getI (pc' := 33) dX6_penalty_30 rfl fX6_111 rfl rfl ?_
        refine PW_istore2 (pc' := 34) dX6_penalty_33 rfl rfl rfl ?_
        refine PW_aload0 (pc' := 35) dX6_penalty_34 rfl ?_
        refine PW_getR (pc' := 38) dX6_penalty_35 rfl fX6_21 rfl rfl ?_
        refine PW_iload1 (pc' := 39) dX6_penalty_38 rfl ?_
        refine PW_putI (pc' := 42) dX6_penalty_39 rfl fX6_111 w0_2 rfl rfl ?_
        refine PW_iload2 (pc' := 43) dX6_penalty_42 rfl ?_
        refine PW_ireturn .int dX6_penalty_43 rfl rfl ?_
        rw [hc2]
        refine ⟨by simp [op_penalty, q, hp], ?_, frX.rf.up (by decide)⟩
        have := hA.hs (hH.pen hj) rfl (fr.up fr.rf (by decide))
        simpa [op_penalty, q, hp, ix_nI (show j < 2 ^ 31 by omega)] using this
      · have hp := bi_f h20
        have hp : a.1.1 = 0 := by
          simp only [decide_eq_false_iff_not] at hp
          omega
        refine PW_bipush (pc' := 25) dX6_penalty_23 rfl (v := -3) (by first | rfl | decide) ?_
        refine PW_ireturn .int dX6_penalty_25 rfl rfl ?_
        exact ⟨by simp [op_penalty, q, hp], by simpa [op_penalty, q, hp] using hA, frX.rf⟩
    · simp only [Int32.lt_iff_toInt_lt, Int32.le_iff_toInt_le, nI_toInt (show 9 < 2 ^ 31 by decide)] at h7
      have q : s_rng v 0 9 = false := by
        rw [z_lt] at h1
        simp only [s_rng, Bool.and_eq_false_iff, decide_eq_false_iff_not]
        omega
      refine PW_bipush (pc' := 12) dX6_penalty_10 rfl (v := -2) (by first | rfl | decide) ?_
      refine PW_ireturn .int dX6_penalty_12 rfl rfl ?_
      exact ⟨by simp [op_penalty, q], by simpa [op_penalty, q] using hA, frX.rf⟩
set_option maxHeartbeats 4000000 in
theorem c_X6_law {Γ : pv_G} {d : Nat} {M : pv_M} {a : s_A} {v : Int32} (hA : AX M a) : Ct Γ (d + 1) vX6_law [.ref 0, .int v] M (o_X (op_law v a) M) := by
  obtain ⟨hH, hR, hSh, hfl, htr⟩ := id hA
  obtain ⟨hok, hc1, hc2, hc3, hf⟩ := id hH
  have hn5 := hok.1
  refine Ct.of oX6_law.1 rfl (pad := 1) rfl ?_
  show PW Γ (d + 1) vX6_law 0 [.ref 0, .int v, .null] [] M _
  refine PW_iload1 (pc' := 1) dX6_law_0 rfl ?_
  refine PW_if_lt (tgt := 9) (pc' := 4) dX6_law_1 rfl rfl (fun h1 => ?_) (fun h1 => ?_)
  · have q : s_rng v 0 3 = false := by
      rw [z_lt] at h1
      simp only [s_rng, Bool.and_eq_false_iff, decide_eq_false_iff_not]
      omega
    refine PW_bipush (pc' := 11) dX6_law_9 rfl (v := -2) (by first | rfl | decide) ?_
    refine PW_ireturn .int dX6_law_11 rfl rfl ?_
    exact ⟨by simp [op_law, q], by simpa [op_law, q] using hA, frX.rf⟩
  · refine PW_iload1 (pc' := 5) dX6_law_4 rfl ?_
    refine PW_iconst (pc' := 6) dX6_law_5 rfl (v := nI 4) (by first | rfl | decide) ?_
    refine PW_icmp_lt (tgt := 12) (pc' := 9) dX6_law_6 rfl rfl (fun h6 => ?_) (fun h6 => ?_)
    · simp only [Int32.lt_iff_toInt_lt, Int32.le_iff_toInt_le, nI_toInt (show 4 < 2 ^ 31 by decide)] at h6
      have q : s_rng v 0 3 = true := by
        rw [z_lt] at h1
        simp only [s_rng, Bool.and_eq_true, decide_eq_true_eq]
        omega
      obtain ⟨j, hj, rfl⟩ := s_rng_of (n := 3) q
      refine PW_aload0 (pc' := 13) dX6_law_12 rfl ?_
      refine PW_getR (pc' := 16) dX6_law_13 rfl fX6_21 rfl rfl ?_
      refine PW_callV0f (pc' := 19) dX6_law_16 rfl oX0_stands lX6_107 rfl rfl rfl (Nat.le_of_ble_eq_true rfl) (c_X0_stands hn5 hc1) ?_
      refine PW_if_ne (tgt := 25) (pc' := 22) dX6_law_19 rfl rfl (fun h19 => ?_) (fun h19 => ?_)
      · have hp := bi_t h19
        have hp : a.1.1 ≠ 0 := by
          simp only [decide_eq_true_eq] at hp
          omega
        refine PW_aload0 (pc' := 26) dX6_law_25 rfl ?_
        refine PW_getR (pc' := 29) dX6_law_26 rfl fX6_21 rfl rfl ?_
        refine PW_getI (pc' := 32) dX6_law_29 rfl fX6_114 rfl rfl ?_
        refine PW_istore2 (pc' := 33) dX6_law_32 rfl rfl rfl ?_
        refine PW_aload0 (pc' := 34) dX6_law_33 rfl ?_
        refine PW_getR (pc' := 37) dX6_law_34 rfl fX6_21 rfl rfl ?_
        refine PW_iload1 (pc' := 38) dX6_law_37 rfl ?_
        refine PW_putI (pc' := 41) dX6_law_38 rfl fX6_114 w0_3 rfl rfl ?_
        refine PW_iload2 (pc' := 42) dX6_law_41 rfl ?_
        refine PW_ireturn .int dX6_law_42 rfl rfl ?_
        rw [hc3]
        refine ⟨by simp [op_law, q, hp], ?_, frX.rf.up (by decide)⟩
        have := hA.hs (hH.law hj) rfl (fr.up fr.rf (by decide))
        simpa [op_law, q, hp, ix_nI (show j < 2 ^ 31 by omega)] using this
      · have hp := bi_f h19
        have hp : a.1.1 = 0 := by
          simp only [decide_eq_false_iff_not] at hp
          omega
        refine PW_bipush (pc' := 24) dX6_law_22 rfl (v := -3) (by first | rfl | decide) ?_
        refine PW_ireturn .int dX6_law_24 rfl rfl ?_
        exact ⟨by simp [op_law, q, hp], by simpa [op_law, q, hp] using hA, frX.rf⟩
    · simp only [Int32.lt_iff_toInt_lt, Int32.le_iff_toInt_le, nI_toInt (show 4 < 2 ^ 31 by decide)] at h6
      have q : s_rng v 0 3 = false := by
        rw [z_lt] at h1
        simp only [s_rng, Bool.and_eq_false_iff, decide_eq_false_iff_not]
        omega
      refine PW_bipush (pc' := 11) dX6_law_9 rfl (v := -2) (by first | rfl | decide) ?_
      refine PW_ireturn .int dX6_law_11 rfl rfl ?_
      exact ⟨by simp [op_law, q], by simpa [op_law, q] using hA, frX.rf⟩
set_option maxHeartbeats 4000000 in
theorem c_X6_use {Γ : pv_G} {d : Nat} {M : pv_M} {a : s_A} {t v : Int32} (hA : AX M a) : Ct Γ (d + 1) vX6_use [.ref 0, .int t, .int v] M (o_X (op_use t v a) M) := by
  obtain ⟨hH, hR, hSh, hfl, htr⟩ := id hA
  obtain ⟨hok, hc1, hc2, hc3, hf⟩ := id hH
  have hn5 := hok.1
  refine Ct.of oX6_use.1 rfl (pad := 1) rfl ?_
  show PW Γ (d + 1) vX6_use 0 [.ref 0, .int t, .int v, .null] [] M _
  refine PW_aload0 (pc' := 1) dX6_use_0 rfl ?_
  refine PW_getR (pc' := 4) dX6_use_1 rfl fX6_21 rfl rfl ?_
  refine PW_iload1 (pc' := 5) dX6_use_4 rfl ?_
  refine PW_callV1f (pc' := 8) dX6_use_5 rfl oX0_has lX6_79 rfl rfl rfl (Nat.le_of_ble_eq_true rfl) (c_X0_hasb hn5 hc1) ?_
  refine PW_if_ne (tgt := 13) (pc' := 11) dX6_use_8 rfl rfl (fun h8 => ?_) (fun h8 => ?_)
  · have q := bi_t h8
    obtain ⟨j, hj, rfl⟩ := s_hb_of hn5 q
    refine PW_iload2 (pc' := 14) dX6_use_13 rfl ?_
    refine PW_if_lt (tgt := 23) (pc' := 17) dX6_use_14 rfl rfl (fun h14 => ?_) (fun h14 => ?_)
    · have q2 : s_rng v 0 63 = false := by
        rw [z_lt] at h14
        simp only [s_rng, Bool.and_eq_false_iff, decide_eq_false_iff_not]
        omega
      refine PW_bipush (pc' := 25) dX6_use_23 rfl (v := -2) (by first | rfl | decide) ?_
      refine PW_ireturn .int dX6_use_25 rfl rfl ?_
      exact ⟨by simp [op_use, s_hb, q, q2], by simpa [op_use, s_hb, q, q2] using hA, frX.rf⟩
    · refine PW_iload2 (pc' := 18) dX6_use_17 rfl ?_
      refine PW_bipush (pc' := 20) dX6_use_18 rfl (v := nI 64) (by first | rfl | decide) ?_
      refine PW_icmp_lt (tgt := 26) (pc' := 23) dX6_use_20 rfl rfl (fun h20 => ?_) (fun h20 => ?_)
      · have h20 : ¬ nI 64 ≤ v := Int32.not_le.mpr h20
        rw [z_ge (by decide)] at h20
        have q2 : s_rng v 0 63 = true := by
          rw [z_lt] at h14
          simp only [s_rng, Bool.and_eq_true, decide_eq_true_eq]
          omega
        obtain ⟨u, hu, rfl⟩ := s_rng_of (n := 63) q2
        refine PW_aload0 (pc' := 27) dX6_use_26 rfl ?_
        refine PW_getR (pc' := 30) dX6_use_27 rfl fX6_21 rfl rfl ?_
        refine PW_getR (pc' := 33) dX6_use_30 rfl fX6_82 rfl rfl ?_
        refine PW_iload1 (pc' := 34) dX6_use_33 rfl ?_
        refine PW_aald3 (pc' := 35) dX6_use_34 rfl (by omega) ?_
        refine PW_getI (pc' := 38) dX6_use_35 rfl fX6_100 (pv_lay_thing (by omega)) rfl ?_
        refine PW_istore3 (pc' := 39) dX6_use_38 rfl rfl rfl ?_
        refine PW_aload0 (pc' := 40) dX6_use_39 rfl ?_
        refine PW_getR (pc' := 43) dX6_use_40 rfl fX6_21 rfl rfl ?_
        refine PW_getR (pc' := 46) dX6_use_43 rfl fX6_82 rfl rfl ?_
        refine PW_iload1 (pc' := 47) dX6_use_46 rfl ?_
        refine PW_aald3 (pc' := 48) dX6_use_47 rfl (by omega) ?_
        refine PW_iload2 (pc' := 49) dX6_use_48 rfl ?_
        refine PW_putI (pc' := 52) dX6_use_49 rfl fX6_100 w4_4 (pv_lay_thing (by omega)) rfl ?_
        refine PW_iload3 (pc' := 53) dX6_use_52 rfl ?_
        refine PW_ireturn .int dX6_use_53 rfl rfl ?_
        rw [hf j hj 4 (by decide)]
        have hj2 : j < 2 ^ 31 := by omega
        have hu2 : u < 2 ^ 31 := by omega
        refine ⟨by simp [op_use, s_hb, q, q2, ix_nI hj2], ?_, frX.rf.up (by omega)⟩
        have := hA.hs (hH.use hj (show u < 64 by omega)) rfl (fr.up fr.rf (s_12_in (by omega)))
        simpa [op_use, s_hb, q, q2, ix_nI hj2, ix_nI hu2] using this
      · have h20 : nI 64 ≤ v := Int32.not_lt.mp h20
        rw [z_ge (by decide)] at h20
        have q2 : s_rng v 0 63 = false := by
          rw [z_lt] at h14
          simp only [s_rng, Bool.and_eq_false_iff, decide_eq_false_iff_not]
          omega
        refine PW_bipush (pc' := 25) dX6_use_23 rfl (v := -2) (by first | rfl | decide) ?_
        refine PW_ireturn .int dX6_use_25 rfl rfl ?_
        exact ⟨by simp [op_use, s_hb, q, q2], by simpa [op_use, s_hb, q, q2] using hA, frX.rf⟩
  · have q := bi_f h8
    refine PW_iconst (pc' := 12) dX6_use_11 rfl (v := -1) (by first | rfl | decide) ?_
    refine PW_ireturn .int dX6_use_12 rfl rfl ?_
    exact ⟨by simp [op_use, s_hb, q], by simpa [op_use, s_hb, q] using hA, frX.rf⟩
set_option maxHeartbeats 4000000 in
theorem c_X6_many {Γ : pv_G} {d : Nat} {M : pv_M} {a : s_A} {w : Int32} (hA : AX M a) : Ct Γ d vX6_many [.ref 0, .int w] M (o_X (op_many w a) M) := by
  obtain ⟨hH, hR, hSh, hfl, htr⟩ := id hA
  obtain ⟨hok, hc1, hc2, hc3, hf⟩ := id hH
  have hn5 := hok.1
  refine Ct.of oX6_many.1 rfl (pad := 0) rfl ?_
  show PW Γ d vX6_many 0 [.ref 0, .int w] [] M _
  refine PW_iload1 (pc' := 1) dX6_many_0 rfl ?_
  by_cases e1_0 : w = 0
  · subst e1_0
    refine PW_tin (tgt := 32) dX6_many_1 (by decide) (by decide) (by rfl) rfl ?_
    refine PW_aload0 (pc' := 33) dX6_many_32 rfl ?_
    refine PW_getR (pc' := 36) dX6_many_33 rfl fX6_21 rfl rfl ?_
    refine PW_getI (pc' := 39) dX6_many_36 rfl fX6_78 rfl rfl ?_
    refine PW_ireturn .int dX6_many_39 rfl rfl ?_
    rw [hc1]
    exact ⟨by simp [op_many], hA, frX.rf⟩
  by_cases e1_1 : w = 1
  · subst e1_1
    refine PW_tin (tgt := 40) dX6_many_1 (by decide) (by decide) (by rfl) rfl ?_
    refine PW_aload0 (pc' := 41) dX6_many_40 rfl ?_
    refine PW_getR (pc' := 44) dX6_many_41 rfl fX6_21 rfl rfl ?_
    refine PW_getI (pc' := 47) dX6_many_44 rfl fX6_111 rfl rfl ?_
    refine PW_ireturn .int dX6_many_47 rfl rfl ?_
    rw [hc2]
    exact ⟨by simp [op_many], hA, frX.rf⟩
  by_cases e1_2 : w = 2
  · subst e1_2
    refine PW_tin (tgt := 48) dX6_many_1 (by decide) (by decide) (by rfl) rfl ?_
    refine PW_aload0 (pc' := 49) dX6_many_48 rfl ?_
    refine PW_getR (pc' := 52) dX6_many_49 rfl fX6_21 rfl rfl ?_
    refine PW_getI (pc' := 55) dX6_many_52 rfl fX6_114 rfl rfl ?_
    refine PW_ireturn .int dX6_many_55 rfl rfl ?_
    rw [hc3]
    exact ⟨by simp [op_many], hA, frX.rf⟩
  by_cases e1_3 : w = 3
  · subst e1_3
    refine PW_tin (tgt := 56) dX6_many_1 (by decide) (by decide) (by rfl) rfl ?_
    refine PW_aload0 (pc' := 57) dX6_many_56 rfl ?_
    refine PW_getR (pc' := 60) dX6_many_57 rfl fX6_28 rfl rfl ?_
    refine PW_getI (pc' := 63) dX6_many_60 rfl fX6_75 rfl rfl ?_
    refine PW_ireturn .int dX6_many_63 rfl rfl ?_
    rw [hR.1]
    exact ⟨by simp [op_many], hA, frX.rf⟩
  refine PW_tout (tgt := 64) dX6_many_1 (ts_out3 e1_0 e1_1 e1_2 e1_3) rfl ?_
  refine PW_bipush (pc' := 66) dX6_many_64 rfl (v := -2) (by first | rfl | decide) ?_
  refine PW_ireturn .int dX6_many_66 rfl rfl ?_
  exact ⟨by simp [op_many, e1_0, e1_1, e1_2, e1_3], hA, frX.rf⟩
set_option maxHeartbeats 4000000 in
theorem c_X6_fault {Γ : pv_G} {d : Nat} {M : pv_M} {a : s_A}  (hA : AX M a) : Ct Γ d vX6_fault [.ref 0] M (o_X (op_fault  a) M) := by
  obtain ⟨hH, hR, hSh, hfl, htr⟩ := id hA
  obtain ⟨hok, hc1, hc2, hc3, hf⟩ := id hH
  have hn5 := hok.1
  refine Ct.of oX6_fault.1 rfl (pad := 0) rfl ?_
  show PW Γ d vX6_fault 0 [.ref 0] [] M _
  refine PW_aload0 (pc' := 1) dX6_fault_0 rfl ?_
  refine PW_getI (pc' := 4) dX6_fault_1 rfl fX6_43 rfl rfl ?_
  refine PW_ireturn .int dX6_fault_4 rfl rfl ?_
  rw [hfl]
  exact ⟨rfl, hA, frX.rf⟩
set_option maxHeartbeats 4000000 in
theorem c_X6_trace {Γ : pv_G} {d : Nat} {M : pv_M} {a : s_A}  (hA : AX M a) : Ct Γ d vX6_trace [.ref 0] M (o_X (op_trace  a) M) := by
  obtain ⟨hH, hR, hSh, hfl, htr⟩ := id hA
  obtain ⟨hok, hc1, hc2, hc3, hf⟩ := id hH
  have hn5 := hok.1
  refine Ct.of oX6_trace.1 rfl (pad := 0) rfl ?_
  show PW Γ d vX6_trace 0 [.ref 0] [] M _
  refine PW_aload0 (pc' := 1) dX6_trace_0 rfl ?_
  refine PW_getI (pc' := 4) dX6_trace_1 rfl fX6_234 rfl rfl ?_
  refine PW_ireturn .int dX6_trace_4 rfl rfl ?_
  rw [htr]
  exact ⟨rfl, hA, frX.rf⟩
