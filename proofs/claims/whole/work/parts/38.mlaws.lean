/-! the reference: laws by a told round; missed uses as one thing has other uses -/
theorem s_cs_of {H H' : s_H} (hl : ∀ t, H'.2.2.2 3 t = H.2.2.2 3 t) (r : Nat → Option Nat) (at_ : Nat) : ∀ k, s_cs H' r at_ k = s_cs H r at_ k
  | 0 => rfl
  | k + 1 => by
    simp only [s_cs, hl, s_cs_of hl r at_ k]
theorem s_wrong_of {H H' : s_H} (hl : ∀ t, H'.2.2.2 3 t = H.2.2.2 3 t) (r : Nat → Option Nat) : ∀ k, s_wrong H' r k = s_wrong H r k
  | 0 => rfl
  | k + 1 => by
    simp only [s_wrong, s_cs_of hl, s_wrong_of hl r k]
def s_lw (H : s_H) (w : Nat) : s_H := (H.1, H.2.1, w, H.2.2.2)
theorem s_take_lw (H : s_H) (w lw : Nat) (r : Nat → Option Nat) : ∀ k, s_take (s_lw H w) lw r k = s_take H lw r k
  | 0 => rfl
  | k + 1 => by
    have e : ∀ t c, s_gain (s_lw H w) lw t k c = s_gain H lw t k c := fun t c => rfl
    simp only [s_take, s_take_lw H w lw r k, e, s_cs_of (H := H) (H' := s_lw H w) (fun _ => rfl)]
theorem a_hear_neg (k l i : Int32) (ok : Bool) (a : s_A) : (a_hear k l i ok a).1 = 0 ∨ ¬ 0 ≤ (a_hear k l i ok a).1 := by
  unfold a_hear
  by_cases h1 : s_rng k 0 3 = true
  · rw [if_pos h1]
    by_cases h2 : s_rng l 0 2 = true ∧ ok = true
    · rw [if_pos h2]
      by_cases h3 : a.1.1 = 0
      · rw [if_pos h3]; exact Or.inr (by decide)
      · rw [if_neg h3]
        by_cases h4 : s_foc (a.2.2.1 (ix k)) l i 6 = 0
        · rw [if_pos h4]
          by_cases h5 : s_good a (ix k) (ix i) = true
          · rw [if_pos h5]; exact Or.inl rfl
          · rw [if_neg h5]; exact Or.inr (by decide)
        · rw [if_neg h4]
          have := (v_bar_neg _ (s_foc_le (a.2.2.1 (ix k)) l i 6) h4).1
          rw [v_bar, if_neg h4] at this
          exact Or.inr this
    · rw [if_neg h2]; exact Or.inr (by decide)
  · rw [if_neg h1]; exact Or.inr (by decide)
theorem s_wans_neg {H : s_H} {r : Nat → Option Nat} (h : (s_wrong H r 6).isSome = true) : ¬ 0 ≤ s_wans (s_wrong H r 6) := by
  cases hz : s_wrong H r 6 with
  | none => rw [hz] at h; cases h
  | some x =>
    have hx := s_wrong_lt 6 hz
    have : ∀ x, x < 6 → ¬ (0 : Int32) ≤ -100 - nI x := by decide +kernel
    exact this x hx
theorem sb_nn {k l i v : Int32} {a : s_A} (h : 0 ≤ v_sb k l i v a) : (a_hear k l i (s_rng v 0 999) a).1 = 0 ∧ s_wrong a.1 (s_rw a (ix k) (ix i)) 6 = none := by
  unfold v_sb at h
  by_cases h1 : (a_hear k l i (s_rng v 0 999) a).1 = 0
  · rw [if_pos h1] at h
    by_cases h2 : (s_wrong a.1 (s_rw a (ix k) (ix i)) 6).isSome = true
    · rw [if_pos h2] at h
      exact absurd h (s_wans_neg h2)
    · refine ⟨h1, ?_⟩
      cases hz : s_wrong a.1 (s_rw a (ix k) (ix i)) 6 with
      | none => rfl
      | some x => rw [hz] at h2; exact absurd rfl h2
  · rw [if_neg h1] at h
    rcases a_hear_neg k l i (s_rng v 0 999) a with z | z
    · exact absurd z h1
    · exact absurd h z
theorem sb_no {k l i v : Int32} {a : s_A} (h : ¬ 0 ≤ v_sb k l i v a) (y : Int32) : (if (a_hear k l i (s_rng v 0 999) a).1 = 0 then (if (s_wrong a.1 (s_rw a (ix k) (ix i)) 6).isSome = true then s_wans (s_wrong a.1 (s_rw a (ix k) (ix i)) 6) else y) else (a_hear k l i (s_rng v 0 999) a).1) = v_sb k l i v a := by
  unfold v_sb at h ⊢
  by_cases h1 : (a_hear k l i (s_rng v 0 999) a).1 = 0
  · rw [if_pos h1] at h ⊢
    rw [if_pos h1]
    by_cases h2 : (s_wrong a.1 (s_rw a (ix k) (ix i)) 6).isSome = true
    · rw [if_pos h2, if_pos h2]
    · rw [if_neg h2] at h
      exact absurd (by decide) h
  · rw [if_neg h1, if_neg h1]
theorem frS_set {M1 M : pv_M} {x y : Int32} {p k : Nat} (h : frS (pv_up M1 p k x) M) : frS (pv_up M1 p k y) (pv_up M p k y) := by
  obtain ⟨h1, h2⟩ := h
  have e : ∀ q j, pv_up M1 p k x q j = M q j → pv_up M1 p k y q j = pv_up M p k y q j := by
    intro q j
    simp only [pv_up_at]
    split
    · exact fun _ => rfl
    · exact id
  exact ⟨fun q hq => funext fun j => (e q j (by rw [h1 q hq])).symm, fun q hq => (e 29 q (h2 q hq).symm).symm⟩
theorem frS_back {M1 M : pv_M} {x : Int32} {p k : Nat} (h : frS (pv_up M1 p k x) M) : frS M1 (pv_up M p k (M1 p k)) := by
  obtain ⟨h1, h2⟩ := h
  have e : ∀ q j, pv_up M1 p k x q j = M q j → M1 q j = pv_up M p k (M1 p k) q j := by
    intro q j
    simp only [pv_up_at]
    split
    · rename_i z
      intro _
      rw [z.1, z.2]
    · exact id
  exact ⟨fun q hq => funext fun j => (e q j (by rw [h1 q hq])).symm, fun q hq => (e 29 q (h2 q hq).symm).symm⟩
set_option maxHeartbeats 4000000 in
theorem l_X7_laws {Γ : pv_G} {d : Nat} {a : s_A} {k l i v : Int32} {M0 M1 : pv_M} {x5 : Int32} (hz : 0 ≤ v_sb k l i v a) (hA1 : AM M1 (a_flt a (a_hear k l i (s_rng v 0 999) a).2)) (hF1 : frM M0 M1) (hrow : s_row M1 40 6 a.1.1 (s_rw a (ix k) (ix i))) : ∀ (m j : Nat) (M : pv_M), j + m = 4 → frS (pv_up M1 29 2 (M 29 2)) M → M 40 = M1 40 →
    PW Γ (d + 4) vX7_laws 31 [.ref 29, .int k, .int l, .int i, .int v, .int x5, .int (M1 29 2), .int (nI (s_lawm a.1 (s_rw a (ix k) (ix i)) v j)), .int (nI j)] [] M (o_M (op_laws k l i v a) M0) := by
  obtain ⟨ho0, hw⟩ := sb_nn hz
  intro m
  induction m using Nat.strongRecOn with
  | ind m ih =>
    intro j M hjm hF h40
    refine PW_iload8 (pc' := 33) dX7_laws_31 rfl ?_
    refine PW_iconst (pc' := 34) dX7_laws_33 rfl (v := nI 4) (by first | rfl | decide) ?_
    refine PW_icmp_ge (tgt := 76) (pc' := 37) dX7_laws_34 rfl rfl (fun h34 => ?_) (fun h34 => ?_)
    · have hj : j = 4 := by have := s_bge (by omega) (by omega) h34; omega
      subst hj
      refine PW_aload0 (pc' := 77) dX7_laws_76 rfl ?_
      refine PW_iload6 (pc' := 79) dX7_laws_77 rfl ?_
      refine PW_putI (pc' := 82) dX7_laws_79 rfl fX7_139 w6_2 rfl rfl ?_
      refine PW_iload7 (pc' := 84) dX7_laws_82 rfl ?_
      refine PW_ireturn .int dX7_laws_84 rfl rfl ?_
      refine ⟨?_, hA1.scr (frS_back hF), hF1.tr (frS_back hF).frM⟩
      simp only [op_laws]
      rw [if_pos ho0, hw, if_neg (by decide)]
    · have hj : j < 4 := s_bnd (by omega) (by omega) h34
      have hFj : frS (pv_up M1 29 2 (nI j)) (pv_up M 29 2 (nI j)) := frS_set hF
      have hHj : HM (pv_up M 29 2 (nI j)) (s_lw a.1 j) := (HM.law (H := a.1) hA1.1 (show j ≤ 3 by omega)).scr hFj
      have hrj : s_row (pv_up M 29 2 (nI j)) 40 6 (s_lw a.1 j).1 (s_rw a (ix k) (ix i)) := by
        intro x hx
        rw [pv_up_o (by decide), h40]
        exact hrow x hx
      have hnj : pv_up M 29 2 (nI j) 29 9 = s_rI none := by
        rw [hFj.2 9 (by decide), pv_up_at, if_neg (by decide)]
        exact hA1.2.2.2.2.2
      refine PW_aload0 (pc' := 38) dX7_laws_37 rfl ?_
      refine PW_iload8 (pc' := 40) dX7_laws_38 rfl ?_
      refine PW_putI (pc' := 43) dX7_laws_40 rfl fX7_139 w6_2 rfl rfl ?_
      refine PW_aload0 (pc' := 44) dX7_laws_43 rfl ?_
      refine PW_callV0r (pc' := 47) dX7_laws_44 rfl oX7_goRound lX7_188 rfl rfl rfl (Nat.le_of_ble_eq_true rfl) (c_X7_goRound (H := s_lw a.1 j) (nv := none) hHj hrj hnj (fun t ht => by cases ht)) (fun M2 hM2 => ?_)
      obtain ⟨g1, g2, g3, g4⟩ := go_of (H := s_lw a.1 j) hHj.1 hrj hM2
      have hwj : s_wrong (s_lw a.1 j) (s_rw a (ix k) (ix i)) 6 = none := by rw [s_wrong_of (fun _ => rfl)]; exact hw
      have g5 := (g4 hwj).1
      rw [s_take_lw] at g5
      have g5 : M2 29 22 = nI (s_take a.1 j (s_rw a (ix k) (ix i)) 6) := g5
      have e2 : M2 29 2 = nI j := by rw [g1.2 2 (by decide), pv_up_at, if_pos ⟨rfl, rfl⟩]
      have hsl := s_lawm_lt a.1 (s_rw a (ix k) (ix i)) v j (by omega)
      refine PW_popI (pc' := 48) dX7_laws_47 rfl ?_
      refine PW_iload7 (pc' := 50) dX7_laws_48 rfl ?_
      refine PW_aload0 (pc' := 51) dX7_laws_50 rfl ?_
      refine PW_getI (pc' := 54) dX7_laws_51 rfl fX7_163 rfl rfl ?_
      rw [g5]
      refine PW_iload4 (pc' := 56) dX7_laws_54 rfl ?_
      refine PW_icmp_ne (tgt := 66) (pc' := 59) dX7_laws_56 rfl rfl (fun h56 => ?_) (fun h56 => ?_)
      · have e : s_lawm a.1 (s_rw a (ix k) (ix i)) v (j + 1) = s_lawm a.1 (s_rw a (ix k) (ix i)) v j := by simp [s_lawm, h56]
        refine PW_iconst (pc' := 67) dX7_laws_66 rfl (v := 0) (by first | rfl | decide) ?_
        refine PW_ior (pc' := 68) dX7_laws_67 rfl ?_
        refine PW_istore7 (pc' := 70) dX7_laws_68 rfl rfl rfl ?_
        refine PW_iinc8 (pc' := 73) dX7_laws_70 rfl rfl rfl nI_inc ?_
        refine PW_goto (tgt := 31) dX7_laws_73 rfl ?_
        have hgo := ih (m - 1) (by omega) (j + 1) M2 (by omega) (by rw [e2]; exact hFj.tr g1) (by rw [g2, pv_up_o (by decide), h40])
        rw [e] at hgo
        first
          | (rw [bt_or0 _ hsl]; exact hgo)
          | (rw [(bt_or _ hsl j (by omega)).1]; exact hgo)
      · have e : s_lawm a.1 (s_rw a (ix k) (ix i)) v (j + 1) = s_lawm a.1 (s_rw a (ix k) (ix i)) v j ||| 2 ^ j := by simp [s_lawm, h56]
        refine PW_iconst (pc' := 60) dX7_laws_59 rfl (v := 1) (by first | rfl | decide) ?_
        refine PW_iload8 (pc' := 62) dX7_laws_60 rfl ?_
        refine PW_ishl (pc' := 63) dX7_laws_62 rfl ?_
        refine PW_goto (tgt := 67) dX7_laws_63 rfl ?_
        refine PW_ior (pc' := 68) dX7_laws_67 rfl ?_
        refine PW_istore7 (pc' := 70) dX7_laws_68 rfl rfl rfl ?_
        refine PW_iinc8 (pc' := 73) dX7_laws_70 rfl rfl rfl nI_inc ?_
        refine PW_goto (tgt := 31) dX7_laws_73 rfl ?_
        have hgo := ih (m - 1) (by omega) (j + 1) M2 (by omega) (by rw [e2]; exact hFj.tr g1) (by rw [g2, pv_up_o (by decide), h40])
        rw [e] at hgo
        first
          | (rw [bt_or0 _ hsl]; exact hgo)
          | (rw [(bt_or _ hsl j (by omega)).1]; exact hgo)
set_option maxHeartbeats 4000000 in
theorem c_X7_laws {Γ : pv_G} {d : Nat} {M : pv_M} {a : s_A} {k l i v : Int32} (hA : AM M a) : Ct Γ (d + 4) vX7_laws [.ref 29, .int k, .int l, .int i, .int v] M (o_M (op_laws k l i v a) M) := by
  obtain ⟨hH, hR, hSh, hfl, htr, hnv⟩ := id hA
  obtain ⟨hok, hc1, hc2, hc3, hf⟩ := id hH
  have hn5 := hok.1
  have hf0 := fun t ht => hf t ht 0 (by decide)
  have hf2 := fun t ht => hf t ht 2 (by decide)
  have hf4 := fun t ht => hf t ht 4 (by decide)
  refine Ct.of oX7_laws.1 rfl (pad := 4) rfl ?_
  show PW Γ (d + 4) vX7_laws 0 [.ref 29, .int k, .int l, .int i, .int v, .null, .null, .null, .null] [] M _
  refine PW_aload0 (pc' := 1) dX7_laws_0 rfl ?_
  refine PW_iload1 (pc' := 2) dX7_laws_1 rfl ?_
  refine PW_iload2 (pc' := 3) dX7_laws_2 rfl ?_
  refine PW_iload3 (pc' := 4) dX7_laws_3 rfl ?_
  refine PW_iload4 (pc' := 6) dX7_laws_4 rfl ?_
  refine PW_callV4r (pc' := 9) dX7_laws_6 rfl oX7_seenBarred lX7_223 rfl rfl rfl (Nat.le_of_ble_eq_true rfl) (c_X7_seenBarred hA) (fun M1 hM1 => ?_)
  obtain ⟨hA1, hF1, hrw⟩ := hM1
  refine PW_istore5 (pc' := 11) dX7_laws_9 rfl rfl rfl ?_
  refine PW_iload5 (pc' := 13) dX7_laws_11 rfl ?_
  refine PW_if_ge (tgt := 19) (pc' := 16) dX7_laws_13 rfl rfl (fun h13 => ?_) (fun h13 => ?_)
  · refine PW_aload0 (pc' := 20) dX7_laws_19 rfl ?_
    refine PW_getI (pc' := 23) dX7_laws_20 rfl fX7_139 rfl rfl ?_
    refine PW_istore6 (pc' := 25) dX7_laws_23 rfl rfl rfl ?_
    refine PW_iconst (pc' := 26) dX7_laws_25 rfl (v := nI (s_lawm a.1 (s_rw a (ix k) (ix i)) v 0)) (by first | rfl | decide) ?_
    refine PW_istore7 (pc' := 28) dX7_laws_26 rfl rfl rfl ?_
    refine PW_iconst (pc' := 29) dX7_laws_28 rfl (v := nI 0) (by first | rfl | decide) ?_
    refine PW_istore8 (pc' := 31) dX7_laws_29 rfl rfl rfl ?_
    refine l_X7_laws h13 hA1 hF1 (hrw (sb_nn h13).1) 4 0 M1 (by omega) ?_ rfl
    exact ⟨fun q hq => by
      rw [pv_up_o (fun z => hq (by rw [z]; decide))], fun q hq => by
      rw [pv_up_at]
      split
      · rename_i z; rw [z.2]
      · rfl⟩
  · refine PW_iload5 (pc' := 18) dX7_laws_16 rfl ?_
    refine PW_ireturn .int dX7_laws_18 rfl rfl ?_
    refine ⟨?_, hA1, hF1⟩
    simp only [op_laws]
    rw [sb_no h13]
