/-! the reference: one round: cases, takings, missed -/
theorem bt_or0 : ∀ m, m < 64 → nI m ||| 0 = nI m := by decide +kernel
set_option maxHeartbeats 4000000 in
theorem l_X7_casesOf {Γ : pv_G} {d h n : Nat} {M : pv_M} {tl : Nat → Nat} (hn : n ≤ 5) (hh : h < 6) (hc : M 29 3 = nI n) (ht : ∀ t, t < 5 → M 42 t = iI ((tl t : Int) - 1) ∧ tl t ≤ 20) : ∀ (m j : Nat), j + m = n →
    PW Γ d vX7_casesOf 4 [.ref 29, .int (nI h), .int (nI (s_set (fun t => decide (h < tl t)) j)), .int (nI j)] [] M (pv_fn (some (.int (nI (s_set (fun t => decide (h < tl t)) n)))) M) := by
  intro m
  induction m using Nat.strongRecOn with
  | ind m ih =>
    intro j hjm
    have hlt := s_set_lt (fun t => decide (h < tl t)) j (by omega)
    refine PW_iload3 (pc' := 5) dX7_casesOf_4 rfl ?_
    refine PW_aload0 (pc' := 6) dX7_casesOf_5 rfl ?_
    refine PW_getI (pc' := 9) dX7_casesOf_6 rfl fX7_84 rfl rfl ?_
    rw [hc]
    refine PW_icmp_ge (tgt := 38) (pc' := 12) dX7_casesOf_9 rfl rfl (fun h9 => ?_) (fun h9 => ?_)
    · have hj : j = n := by have := s_bge (by omega) (by omega) h9; omega
      subst hj
      refine PW_iload2 (pc' := 39) dX7_casesOf_38 rfl ?_
      refine PW_ireturn .int dX7_casesOf_39 rfl rfl ?_
      exact ⟨rfl, rfl⟩
    · have hj : j < n := s_bnd (by omega) (by omega) h9
      have hb := (ht j (by omega)).2
      refine PW_iload2 (pc' := 13) dX7_casesOf_12 rfl ?_
      refine PW_aload0 (pc' := 14) dX7_casesOf_13 rfl ?_
      refine PW_getR (pc' := 17) dX7_casesOf_14 rfl fX7_46 rfl rfl ?_
      refine PW_iload3 (pc' := 18) dX7_casesOf_17 rfl ?_
      refine PW_ialdn (pc' := 19) dX7_casesOf_18 rfl rfl rfl (by omega) ?_
      rw [(ht j (by omega)).1]
      refine PW_iload1 (pc' := 20) dX7_casesOf_19 rfl ?_
      refine PW_icmp_lt (tgt := 29) (pc' := 23) dX7_casesOf_20 rfl rfl (fun h20 => ?_) (fun h20 => ?_)
      · rw [iI_nat (by omega), Int32.lt_iff_toInt_lt, iI_toInt (by omega) (by omega), iI_toInt (by omega) (by omega)] at h20
        have e : s_set (fun t => decide (h < tl t)) (j + 1) = s_set (fun t => decide (h < tl t)) j := by
          simp only [s_set]
          rw [if_neg (by simp only [decide_eq_true_eq]; omega)]
        refine PW_iconst (pc' := 30) dX7_casesOf_29 rfl (v := 0) (by first | rfl | decide) ?_
        refine PW_ior (pc' := 31) dX7_casesOf_30 rfl ?_
        refine PW_istore2 (pc' := 32) dX7_casesOf_31 rfl rfl rfl ?_
        refine PW_iinc3 (pc' := 35) dX7_casesOf_32 rfl rfl rfl nI_inc ?_
        refine PW_goto (tgt := 4) dX7_casesOf_35 rfl ?_
        have hgo := ih (m - 1) (by omega) (j + 1) (by omega)
        rw [e] at hgo
        first
          | (rw [bt_or0 _ hlt]; exact hgo)
          | (rw [(bt_or _ hlt j (by omega)).1]; exact hgo)
      · rw [iI_nat (by omega), Int32.lt_iff_toInt_lt, iI_toInt (by omega) (by omega), iI_toInt (by omega) (by omega)] at h20
        have e : s_set (fun t => decide (h < tl t)) (j + 1) = s_set (fun t => decide (h < tl t)) j ||| 2 ^ j := by
          simp only [s_set]
          rw [if_pos (by simp only [decide_eq_true_eq]; omega)]
        refine PW_iconst (pc' := 24) dX7_casesOf_23 rfl (v := 1) (by first | rfl | decide) ?_
        refine PW_iload3 (pc' := 25) dX7_casesOf_24 rfl ?_
        refine PW_ishl (pc' := 26) dX7_casesOf_25 rfl ?_
        refine PW_goto (tgt := 30) dX7_casesOf_26 rfl ?_
        refine PW_ior (pc' := 31) dX7_casesOf_30 rfl ?_
        refine PW_istore2 (pc' := 32) dX7_casesOf_31 rfl rfl rfl ?_
        refine PW_iinc3 (pc' := 35) dX7_casesOf_32 rfl rfl rfl nI_inc ?_
        refine PW_goto (tgt := 4) dX7_casesOf_35 rfl ?_
        have hgo := ih (m - 1) (by omega) (j + 1) (by omega)
        rw [e] at hgo
        first
          | (rw [bt_or0 _ hlt]; exact hgo)
          | (rw [(bt_or _ hlt j (by omega)).1]; exact hgo)
set_option maxHeartbeats 4000000 in
theorem c_X7_casesOf {Γ : pv_G} {d : Nat} {M : pv_M} {h n : Nat} {tl : Nat → Nat} (hn : n ≤ 5) (hh : h < 6) (hc : M 29 3 = nI n) (ht : ∀ t, t < 5 → M 42 t = iI ((tl t : Int) - 1) ∧ tl t ≤ 20) : Ct Γ d vX7_casesOf [.ref 29, .int (nI h)] M (pv_fn (some (.int (nI (s_set (fun t => decide (h < tl t)) n)))) M) := by
  refine Ct.of oX7_casesOf.1 rfl (pad := 2) rfl ?_
  show PW Γ d vX7_casesOf 0 [.ref 29, .int (nI h), .null, .null] [] M _
  refine PW_iconst (pc' := 1) dX7_casesOf_0 rfl (v := nI (s_set (fun t => decide (h < tl t)) 0)) (by first | rfl | decide) ?_
  refine PW_istore2 (pc' := 2) dX7_casesOf_1 rfl rfl rfl ?_
  refine PW_iconst (pc' := 3) dX7_casesOf_2 rfl (v := nI 0) (by first | rfl | decide) ?_
  refine PW_istore3 (pc' := 4) dX7_casesOf_3 rfl rfl rfl ?_
  exact l_X7_casesOf hn hh hc ht n 0 (by omega)
set_option maxHeartbeats 4000000 in
theorem l_X7_missedIn {Γ : pv_G} {d h cs : Nat} {M : pv_M} {H : s_H} (hH : HM M H) (hh : h < 6) (hcs : cs < 64) (h41 : M 41 h = nI cs) : ∀ (m j : Nat), j + m = H.1 →
    PW Γ (d + 1) vX7_missedIn 4 [.ref 29, .int (nI h), .int (nI (s_mi H cs h j)), .int (nI j)] [] M (pv_fn (some (.int (nI (s_mi H cs h H.1)))) M) := by
  obtain ⟨hok, hc1, hc2, hc3, hf⟩ := id hH
  have hn5 := hok.1
  have hf4 : ∀ t, t < H.1 → M 34 t = nI (H.2.2.2 4 t) := fun t ht => hf t ht 4 (by decide)
  intro m
  induction m using Nat.strongRecOn with
  | ind m ih =>
    intro j hjm
    refine PW_iload3 (pc' := 5) dX7_missedIn_4 rfl ?_
    refine PW_aload0 (pc' := 6) dX7_missedIn_5 rfl ?_
    refine PW_getI (pc' := 9) dX7_missedIn_6 rfl fX7_84 rfl rfl ?_
    rw [hc1]
    refine PW_icmp_ge (tgt := 52) (pc' := 12) dX7_missedIn_9 rfl rfl (fun h9 => ?_) (fun h9 => ?_)
    · have hj : j = H.1 := by have := s_bge (by omega) (by omega) h9; omega
      subst hj
      refine PW_iload2 (pc' := 53) dX7_missedIn_52 rfl ?_
      refine PW_ireturn .int dX7_missedIn_53 rfl rfl ?_
      exact ⟨rfl, rfl⟩
    · have hj : j < H.1 := s_bnd (by omega) (by omega) h9
      refine PW_iload2 (pc' := 13) dX7_missedIn_12 rfl ?_
      refine PW_aload0 (pc' := 14) dX7_missedIn_13 rfl ?_
      refine PW_getR (pc' := 17) dX7_missedIn_14 rfl fX7_43 rfl rfl ?_
      refine PW_iload1 (pc' := 18) dX7_missedIn_17 rfl ?_
      refine PW_ialdn (pc' := 19) dX7_missedIn_18 rfl rfl rfl (by omega) ?_
      rw [h41]
      refine PW_iload3 (pc' := 20) dX7_missedIn_19 rfl ?_
      refine PW_callS2f (pc' := 23) dX7_missedIn_20 rfl oX7_isIn lX7_157 (Nat.le_of_ble_eq_true rfl) (c_X7_isIn hcs (by omega)) ?_
      refine PW_if_eq (tgt := 43) (pc' := 26) dX7_missedIn_23 rfl rfl (fun h23 => ?_) (fun h23 => ?_)
      · have e : s_mi H cs h (j + 1) = s_mi H cs h j := by
          simp only [s_mi]
          rw [if_neg (fun z => by rw [bi_f h23] at z; cases z.1)]
        refine PW_iconst (pc' := 44) dX7_missedIn_43 rfl (v := nI 0) (by first | rfl | decide) ?_
        refine PW_iadd (pc' := 45) dX7_missedIn_44 rfl ?_
        rw [nI_add]
        refine PW_istore2 (pc' := 46) dX7_missedIn_45 rfl rfl rfl ?_
        refine PW_iinc3 (pc' := 49) dX7_missedIn_46 rfl rfl rfl nI_inc ?_
        refine PW_goto (tgt := 4) dX7_missedIn_49 rfl ?_
        have hgo := ih (m - 1) (by omega) (j + 1) (by omega)
        rw [e] at hgo
        exact hgo
      · have q1 := bi_t h23
        refine PW_aload0 (pc' := 27) dX7_missedIn_26 rfl ?_
        refine PW_getR (pc' := 30) dX7_missedIn_27 rfl fX7_22 rfl rfl ?_
        refine PW_iload3 (pc' := 31) dX7_missedIn_30 rfl ?_
        refine PW_ialdn (pc' := 32) dX7_missedIn_31 rfl rfl rfl (by omega) ?_
        rw [hf4 j hj]
        refine PW_iload1 (pc' := 33) dX7_missedIn_32 rfl ?_
        refine PW_callS2f (pc' := 36) dX7_missedIn_33 rfl oX7_isIn lX7_157 (Nat.le_of_ble_eq_true rfl) (c_X7_isIn ((hok.2.2.2 j hj).2.2.2.2) hh) ?_
        refine PW_if_eq (tgt := 43) (pc' := 39) dX7_missedIn_36 rfl rfl (fun h36 => ?_) (fun h36 => ?_)
        · have e : s_mi H cs h (j + 1) = s_mi H cs h j := by
            simp only [s_mi]
            rw [if_neg (fun z => by rw [bi_f h36] at z; cases z.2)]
          refine PW_iconst (pc' := 44) dX7_missedIn_43 rfl (v := nI 0) (by first | rfl | decide) ?_
          refine PW_iadd (pc' := 45) dX7_missedIn_44 rfl ?_
          rw [nI_add]
          refine PW_istore2 (pc' := 46) dX7_missedIn_45 rfl rfl rfl ?_
          refine PW_iinc3 (pc' := 49) dX7_missedIn_46 rfl rfl rfl nI_inc ?_
          refine PW_goto (tgt := 4) dX7_missedIn_49 rfl ?_
          have hgo := ih (m - 1) (by omega) (j + 1) (by omega)
          rw [e] at hgo
          exact hgo
        · have e : s_mi H cs h (j + 1) = s_mi H cs h j + 1 := by
            simp only [s_mi]
            rw [if_pos ⟨q1, bi_t h36⟩]
          refine PW_iconst (pc' := 40) dX7_missedIn_39 rfl (v := nI 1) (by first | rfl | decide) ?_
          refine PW_goto (tgt := 44) dX7_missedIn_40 rfl ?_
          refine PW_iadd (pc' := 45) dX7_missedIn_44 rfl ?_
          rw [nI_add]
          refine PW_istore2 (pc' := 46) dX7_missedIn_45 rfl rfl rfl ?_
          refine PW_iinc3 (pc' := 49) dX7_missedIn_46 rfl rfl rfl nI_inc ?_
          refine PW_goto (tgt := 4) dX7_missedIn_49 rfl ?_
          have hgo := ih (m - 1) (by omega) (j + 1) (by omega)
          rw [e] at hgo
          exact hgo
set_option maxHeartbeats 4000000 in
theorem c_X7_missedIn {Γ : pv_G} {d : Nat} {M : pv_M} {h cs : Nat} {H : s_H} (hH : HM M H) (hh : h < 6) (hcs : cs < 64) (h41 : M 41 h = nI cs) : Ct Γ (d + 1) vX7_missedIn [.ref 29, .int (nI h)] M (pv_fn (some (.int (nI (s_mi H cs h H.1)))) M) := by
  refine Ct.of oX7_missedIn.1 rfl (pad := 2) rfl ?_
  show PW Γ (d + 1) vX7_missedIn 0 [.ref 29, .int (nI h), .null, .null] [] M _
  refine PW_iconst (pc' := 1) dX7_missedIn_0 rfl (v := nI (s_mi H cs h 0)) (by first | rfl | decide) ?_
  refine PW_istore2 (pc' := 2) dX7_missedIn_1 rfl rfl rfl ?_
  refine PW_iconst (pc' := 3) dX7_missedIn_2 rfl (v := nI 0) (by first | rfl | decide) ?_
  refine PW_istore3 (pc' := 4) dX7_missedIn_3 rfl rfl rfl ?_
  exact l_X7_missedIn hH hh hcs h41 H.1 0 (by omega)
def s_lf (H : s_H) (t cs x : Nat) : Bool := decide (x = t) || (decide (H.2.2.2 1 x ≠ H.2.2.2 1 t) || cs.testBit x)
def s_lp (H : s_H) (t cs j : Nat) : Bool := (List.range j).all (s_lf H t cs)
theorem s_lp_succ (H : s_H) (t cs j : Nat) : s_lp H t cs (j + 1) = (s_lp H t cs j && s_lf H t cs j) := by
  simp [s_lp, List.range_succ, List.all_append]
theorem s_lp_n (H : s_H) (t cs : Nat) : s_lp H t cs H.1 = s_last H t cs := rfl
set_option maxHeartbeats 4000000 in
theorem l_X7_takingOf2 {Γ : pv_G} {d t h cs : Nat} {M : pv_M} {H : s_H} {x4 : Value} (ht : t < H.1) (hH : HM M H) (hh : h < 6) : PW Γ (d + 1) vX7_takingOf 66 [.ref 29, .int (nI t), .int (nI h), .int (bi (s_last H t cs)), x4] [] M (pv_fn (some (.int (nI (s_gain H H.2.2.1 t h cs)))) M) := by
  obtain ⟨hok, hc1, hc2, hc3, hf⟩ := id hH
  have hn5 := hok.1
  have hlw := hok.2.2.1
  have hf4 : M 34 t = nI (H.2.2.2 4 t) := hf t ht 4 (by decide)
  have hu := (hok.2.2.2 t ht).2.2.2.2
  refine PW_aload0 (pc' := 67) dX7_takingOf_66 rfl ?_
  refine PW_iload1 (pc' := 68) dX7_takingOf_67 rfl ?_
  refine PW_callV1f (pc' := 71) dX7_takingOf_68 rfl oX7_valueOf lX7_148 rfl rfl rfl (Nat.le_of_ble_eq_true rfl) (c_X7_valueOf ht hH) ?_
  refine PW_aload0 (pc' := 72) dX7_takingOf_71 rfl ?_
  refine PW_getI (pc' := 75) dX7_takingOf_72 rfl fX7_139 rfl rfl ?_
  rw [hc3]
  refine PW_iconst (pc' := 76) dX7_takingOf_75 rfl (v := nI 0) (by first | rfl | decide) ?_
  refine PW_callS2f (pc' := 79) dX7_takingOf_76 rfl oX7_isIn lX7_157 (Nat.le_of_ble_eq_true rfl) (c_X7_isIn (show H.2.2.1 < 64 by omega) (by decide)) ?_
  refine PW_if_eq (tgt := 99) (pc' := 82) dX7_takingOf_79 rfl rfl (fun h79 => ?_) (fun h79 => ?_)
  · have q1 := bi_f h79
    have ea : (if H.2.2.1.testBit 0 && (H.2.2.2 4 t).testBit h then 2 else 1) = 1 := by rw [q1]; rfl
    refine PW_iconst (pc' := 100) dX7_takingOf_99 rfl (v := nI 1) (by first | rfl | decide) ?_
    refine PW_imul (pc' := 101) dX7_takingOf_100 rfl ?_
    rw [nI_mul]
    refine PW_istore4 (pc' := 103) dX7_takingOf_101 rfl rfl rfl ?_
    refine PW_iload4 (pc' := 105) dX7_takingOf_103 rfl ?_
    refine PW_aload0 (pc' := 106) dX7_takingOf_105 rfl ?_
    refine PW_getI (pc' := 109) dX7_takingOf_106 rfl fX7_139 rfl rfl ?_
    rw [hc3]
    refine PW_iconst (pc' := 110) dX7_takingOf_109 rfl (v := nI 1) (by first | rfl | decide) ?_
    refine PW_callS2f (pc' := 113) dX7_takingOf_110 rfl oX7_isIn lX7_157 (Nat.le_of_ble_eq_true rfl) (c_X7_isIn (show H.2.2.1 < 64 by omega) (by decide)) ?_
    refine PW_if_eq (tgt := 124) (pc' := 116) dX7_takingOf_113 rfl rfl (fun h113 => ?_) (fun h113 => ?_)
    · have eb : (if H.2.2.1.testBit 1 && s_last H t cs then 5 else 0) = 0 := by rw [bi_f h113]; rfl
      refine PW_iconst (pc' := 125) dX7_takingOf_124 rfl (v := nI 0) (by first | rfl | decide) ?_
      refine PW_iadd (pc' := 126) dX7_takingOf_125 rfl ?_
      rw [nI_add]
      refine PW_ireturn .int dX7_takingOf_126 rfl rfl ?_
      refine ⟨?_, rfl⟩
      rw [s_gain, ea, eb]
    · have q2 := bi_t h113
      refine PW_iload3 (pc' := 117) dX7_takingOf_116 rfl ?_
      refine PW_if_eq (tgt := 124) (pc' := 120) dX7_takingOf_117 rfl rfl (fun h117 => ?_) (fun h117 => ?_)
      · have eb : (if H.2.2.1.testBit 1 && s_last H t cs then 5 else 0) = 0 := by rw [q2, bi_f h117]; rfl
        refine PW_iconst (pc' := 125) dX7_takingOf_124 rfl (v := nI 0) (by first | rfl | decide) ?_
        refine PW_iadd (pc' := 126) dX7_takingOf_125 rfl ?_
        rw [nI_add]
        refine PW_ireturn .int dX7_takingOf_126 rfl rfl ?_
        refine ⟨?_, rfl⟩
        rw [s_gain, ea, eb]
      · have eb : (if H.2.2.1.testBit 1 && s_last H t cs then 5 else 0) = 5 := by rw [q2, bi_t h117]; rfl
        refine PW_iconst (pc' := 121) dX7_takingOf_120 rfl (v := nI 5) (by first | rfl | decide) ?_
        refine PW_goto (tgt := 125) dX7_takingOf_121 rfl ?_
        refine PW_iadd (pc' := 126) dX7_takingOf_125 rfl ?_
        rw [nI_add]
        refine PW_ireturn .int dX7_takingOf_126 rfl rfl ?_
        refine ⟨?_, rfl⟩
        rw [s_gain, ea, eb]
  · have q1 := bi_t h79
    refine PW_aload0 (pc' := 83) dX7_takingOf_82 rfl ?_
    refine PW_getR (pc' := 86) dX7_takingOf_83 rfl fX7_22 rfl rfl ?_
    refine PW_iload1 (pc' := 87) dX7_takingOf_86 rfl ?_
    refine PW_ialdn (pc' := 88) dX7_takingOf_87 rfl rfl rfl (by omega) ?_
    rw [hf4]
    refine PW_iload2 (pc' := 89) dX7_takingOf_88 rfl ?_
    refine PW_callS2f (pc' := 92) dX7_takingOf_89 rfl oX7_isIn lX7_157 (Nat.le_of_ble_eq_true rfl) (c_X7_isIn hu hh) ?_
    refine PW_if_eq (tgt := 99) (pc' := 95) dX7_takingOf_92 rfl rfl (fun h92 => ?_) (fun h92 => ?_)
    · have ea : (if H.2.2.1.testBit 0 && (H.2.2.2 4 t).testBit h then 2 else 1) = 1 := by rw [q1, bi_f h92]; rfl
      refine PW_iconst (pc' := 100) dX7_takingOf_99 rfl (v := nI 1) (by first | rfl | decide) ?_
      refine PW_imul (pc' := 101) dX7_takingOf_100 rfl ?_
      rw [nI_mul]
      refine PW_istore4 (pc' := 103) dX7_takingOf_101 rfl rfl rfl ?_
      refine PW_iload4 (pc' := 105) dX7_takingOf_103 rfl ?_
      refine PW_aload0 (pc' := 106) dX7_takingOf_105 rfl ?_
      refine PW_getI (pc' := 109) dX7_takingOf_106 rfl fX7_139 rfl rfl ?_
      rw [hc3]
      refine PW_iconst (pc' := 110) dX7_takingOf_109 rfl (v := nI 1) (by first | rfl | decide) ?_
      refine PW_callS2f (pc' := 113) dX7_takingOf_110 rfl oX7_isIn lX7_157 (Nat.le_of_ble_eq_true rfl) (c_X7_isIn (show H.2.2.1 < 64 by omega) (by decide)) ?_
      refine PW_if_eq (tgt := 124) (pc' := 116) dX7_takingOf_113 rfl rfl (fun h113 => ?_) (fun h113 => ?_)
      · have eb : (if H.2.2.1.testBit 1 && s_last H t cs then 5 else 0) = 0 := by rw [bi_f h113]; rfl
        refine PW_iconst (pc' := 125) dX7_takingOf_124 rfl (v := nI 0) (by first | rfl | decide) ?_
        refine PW_iadd (pc' := 126) dX7_takingOf_125 rfl ?_
        rw [nI_add]
        refine PW_ireturn .int dX7_takingOf_126 rfl rfl ?_
        refine ⟨?_, rfl⟩
        rw [s_gain, ea, eb]
      · have q2 := bi_t h113
        refine PW_iload3 (pc' := 117) dX7_takingOf_116 rfl ?_
        refine PW_if_eq (tgt := 124) (pc' := 120) dX7_takingOf_117 rfl rfl (fun h117 => ?_) (fun h117 => ?_)
        · have eb : (if H.2.2.1.testBit 1 && s_last H t cs then 5 else 0) = 0 := by rw [q2, bi_f h117]; rfl
          refine PW_iconst (pc' := 125) dX7_takingOf_124 rfl (v := nI 0) (by first | rfl | decide) ?_
          refine PW_iadd (pc' := 126) dX7_takingOf_125 rfl ?_
          rw [nI_add]
          refine PW_ireturn .int dX7_takingOf_126 rfl rfl ?_
          refine ⟨?_, rfl⟩
          rw [s_gain, ea, eb]
        · have eb : (if H.2.2.1.testBit 1 && s_last H t cs then 5 else 0) = 5 := by rw [q2, bi_t h117]; rfl
          refine PW_iconst (pc' := 121) dX7_takingOf_120 rfl (v := nI 5) (by first | rfl | decide) ?_
          refine PW_goto (tgt := 125) dX7_takingOf_121 rfl ?_
          refine PW_iadd (pc' := 126) dX7_takingOf_125 rfl ?_
          rw [nI_add]
          refine PW_ireturn .int dX7_takingOf_126 rfl rfl ?_
          refine ⟨?_, rfl⟩
          rw [s_gain, ea, eb]
    · have ea : (if H.2.2.1.testBit 0 && (H.2.2.2 4 t).testBit h then 2 else 1) = 2 := by rw [q1, bi_t h92]; rfl
      refine PW_iconst (pc' := 96) dX7_takingOf_95 rfl (v := nI 2) (by first | rfl | decide) ?_
      refine PW_goto (tgt := 100) dX7_takingOf_96 rfl ?_
      refine PW_imul (pc' := 101) dX7_takingOf_100 rfl ?_
      rw [nI_mul]
      refine PW_istore4 (pc' := 103) dX7_takingOf_101 rfl rfl rfl ?_
      refine PW_iload4 (pc' := 105) dX7_takingOf_103 rfl ?_
      refine PW_aload0 (pc' := 106) dX7_takingOf_105 rfl ?_
      refine PW_getI (pc' := 109) dX7_takingOf_106 rfl fX7_139 rfl rfl ?_
      rw [hc3]
      refine PW_iconst (pc' := 110) dX7_takingOf_109 rfl (v := nI 1) (by first | rfl | decide) ?_
      refine PW_callS2f (pc' := 113) dX7_takingOf_110 rfl oX7_isIn lX7_157 (Nat.le_of_ble_eq_true rfl) (c_X7_isIn (show H.2.2.1 < 64 by omega) (by decide)) ?_
      refine PW_if_eq (tgt := 124) (pc' := 116) dX7_takingOf_113 rfl rfl (fun h113 => ?_) (fun h113 => ?_)
      · have eb : (if H.2.2.1.testBit 1 && s_last H t cs then 5 else 0) = 0 := by rw [bi_f h113]; rfl
        refine PW_iconst (pc' := 125) dX7_takingOf_124 rfl (v := nI 0) (by first | rfl | decide) ?_
        refine PW_iadd (pc' := 126) dX7_takingOf_125 rfl ?_
        rw [nI_add]
        refine PW_ireturn .int dX7_takingOf_126 rfl rfl ?_
        refine ⟨?_, rfl⟩
        rw [s_gain, ea, eb]
      · have q2 := bi_t h113
        refine PW_iload3 (pc' := 117) dX7_takingOf_116 rfl ?_
        refine PW_if_eq (tgt := 124) (pc' := 120) dX7_takingOf_117 rfl rfl (fun h117 => ?_) (fun h117 => ?_)
        · have eb : (if H.2.2.1.testBit 1 && s_last H t cs then 5 else 0) = 0 := by rw [q2, bi_f h117]; rfl
          refine PW_iconst (pc' := 125) dX7_takingOf_124 rfl (v := nI 0) (by first | rfl | decide) ?_
          refine PW_iadd (pc' := 126) dX7_takingOf_125 rfl ?_
          rw [nI_add]
          refine PW_ireturn .int dX7_takingOf_126 rfl rfl ?_
          refine ⟨?_, rfl⟩
          rw [s_gain, ea, eb]
        · have eb : (if H.2.2.1.testBit 1 && s_last H t cs then 5 else 0) = 5 := by rw [q2, bi_t h117]; rfl
          refine PW_iconst (pc' := 121) dX7_takingOf_120 rfl (v := nI 5) (by first | rfl | decide) ?_
          refine PW_goto (tgt := 125) dX7_takingOf_121 rfl ?_
          refine PW_iadd (pc' := 126) dX7_takingOf_125 rfl ?_
          rw [nI_add]
          refine PW_ireturn .int dX7_takingOf_126 rfl rfl ?_
          refine ⟨?_, rfl⟩
          rw [s_gain, ea, eb]
set_option maxHeartbeats 4000000 in
theorem l_X7_takingOf {Γ : pv_G} {d t h cs : Nat} {M : pv_M} {H : s_H} (ht : t < H.1) (hH : HM M H) (hh : h < 6) (hcs : cs < 64) (h41 : M 41 h = nI cs) : ∀ (m j : Nat), j + m = H.1 →
    PW Γ (d + 1) vX7_takingOf 5 [.ref 29, .int (nI t), .int (nI h), .int (bi (s_lp H t cs j)), .int (nI j)] [] M (pv_fn (some (.int (nI (s_gain H H.2.2.1 t h cs)))) M) := by
  obtain ⟨hok, hc1, hc2, hc3, hf⟩ := id hH
  have hn5 := hok.1
  have hf1 : ∀ t, t < H.1 → M 31 t = nI (H.2.2.2 1 t) := fun t ht => hf t ht 1 (by decide)
  have hs3 : ∀ t, t < H.1 → H.2.2.2 1 t ≤ 3 := fun t ht => (hok.2.2.2 t ht).2.1
  intro m
  induction m using Nat.strongRecOn with
  | ind m ih =>
    intro j hjm
    refine PW_iload4 (pc' := 7) dX7_takingOf_5 rfl ?_
    refine PW_aload0 (pc' := 8) dX7_takingOf_7 rfl ?_
    refine PW_getI (pc' := 11) dX7_takingOf_8 rfl fX7_84 rfl rfl ?_
    rw [hc1]
    refine PW_icmp_ge (tgt := 66) (pc' := 14) dX7_takingOf_11 rfl rfl (fun h11 => ?_) (fun h11 => ?_)
    · have hj : j = H.1 := by have := s_bge (by omega) (by omega) h11; omega
      subst hj
      rw [s_lp_n]
      exact l_X7_takingOf2 ht hH hh
    · have hj : j < H.1 := s_bnd (by omega) (by omega) h11
      have b1 := hs3 j hj
      have b2 := hs3 t ht
      refine PW_iload3 (pc' := 15) dX7_takingOf_14 rfl ?_
      refine PW_if_eq (tgt := 58) (pc' := 18) dX7_takingOf_15 rfl rfl (fun h15 => ?_) (fun h15 => ?_)
      · have e : s_lp H t cs (j + 1) = false := by rw [s_lp_succ, bi_f h15]; rfl
        refine PW_iconst (pc' := 59) dX7_takingOf_58 rfl (v := 0) (by first | rfl | decide) ?_
        refine PW_istore3 (pc' := 60) dX7_takingOf_59 rfl rfl rfl ?_
        refine PW_iinc4 (pc' := 63) dX7_takingOf_60 rfl rfl rfl nI_inc ?_
        refine PW_goto (tgt := 5) dX7_takingOf_63 rfl ?_
        have hgo := ih (m - 1) (by omega) (j + 1) (by omega)
        rw [e] at hgo
        exact hgo
      · have q0 := bi_t h15
        refine PW_iload4 (pc' := 20) dX7_takingOf_18 rfl ?_
        refine PW_iload1 (pc' := 21) dX7_takingOf_20 rfl ?_
        refine PW_icmp_eq (tgt := 54) (pc' := 24) dX7_takingOf_21 rfl rfl (fun h21 => ?_) (fun h21 => ?_)
        · have e : s_lp H t cs (j + 1) = true := by rw [s_lp_succ, q0, s_lf, decide_eq_true (nI_inj (by omega) (by omega) h21)]; rfl
          refine PW_iconst (pc' := 55) dX7_takingOf_54 rfl (v := 1) (by first | rfl | decide) ?_
          refine PW_goto (tgt := 59) dX7_takingOf_55 rfl ?_
          refine PW_istore3 (pc' := 60) dX7_takingOf_59 rfl rfl rfl ?_
          refine PW_iinc4 (pc' := 63) dX7_takingOf_60 rfl rfl rfl nI_inc ?_
          refine PW_goto (tgt := 5) dX7_takingOf_63 rfl ?_
          have hgo := ih (m - 1) (by omega) (j + 1) (by omega)
          rw [e] at hgo
          exact hgo
        · have q1 : ¬ j = t := fun z => h21 (by rw [z])
          refine PW_aload0 (pc' := 25) dX7_takingOf_24 rfl ?_
          refine PW_getR (pc' := 28) dX7_takingOf_25 rfl fX7_13 rfl rfl ?_
          refine PW_iload4 (pc' := 30) dX7_takingOf_28 rfl ?_
          refine PW_ialdn (pc' := 31) dX7_takingOf_30 rfl rfl rfl (by omega) ?_
          rw [hf1 j hj]
          refine PW_aload0 (pc' := 32) dX7_takingOf_31 rfl ?_
          refine PW_getR (pc' := 35) dX7_takingOf_32 rfl fX7_13 rfl rfl ?_
          refine PW_iload1 (pc' := 36) dX7_takingOf_35 rfl ?_
          refine PW_ialdn (pc' := 37) dX7_takingOf_36 rfl rfl rfl (by omega) ?_
          rw [hf1 t ht]
          refine PW_icmp_ne (tgt := 54) (pc' := 40) dX7_takingOf_37 rfl rfl (fun h37 => ?_) (fun h37 => ?_)
          · have e : s_lp H t cs (j + 1) = true := by rw [s_lp_succ, q0, s_lf, decide_eq_false q1, decide_eq_true (p := H.2.2.2 1 j ≠ H.2.2.2 1 t) (fun z => h37 (by rw [z]))]; rfl
            refine PW_iconst (pc' := 55) dX7_takingOf_54 rfl (v := 1) (by first | rfl | decide) ?_
            refine PW_goto (tgt := 59) dX7_takingOf_55 rfl ?_
            refine PW_istore3 (pc' := 60) dX7_takingOf_59 rfl rfl rfl ?_
            refine PW_iinc4 (pc' := 63) dX7_takingOf_60 rfl rfl rfl nI_inc ?_
            refine PW_goto (tgt := 5) dX7_takingOf_63 rfl ?_
            have hgo := ih (m - 1) (by omega) (j + 1) (by omega)
            rw [e] at hgo
            exact hgo
          · have q2 : ¬ H.2.2.2 1 j ≠ H.2.2.2 1 t := fun z => z (nI_inj (by omega) (by omega) h37)
            refine PW_aload0 (pc' := 41) dX7_takingOf_40 rfl ?_
            refine PW_getR (pc' := 44) dX7_takingOf_41 rfl fX7_43 rfl rfl ?_
            refine PW_iload2 (pc' := 45) dX7_takingOf_44 rfl ?_
            refine PW_ialdn (pc' := 46) dX7_takingOf_45 rfl rfl rfl (by omega) ?_
            rw [h41]
            refine PW_iload4 (pc' := 48) dX7_takingOf_46 rfl ?_
            refine PW_callS2f (pc' := 51) dX7_takingOf_48 rfl oX7_isIn lX7_157 (Nat.le_of_ble_eq_true rfl) (c_X7_isIn hcs (by omega)) ?_
            refine PW_if_eq (tgt := 58) (pc' := 54) dX7_takingOf_51 rfl rfl (fun h51 => ?_) (fun h51 => ?_)
            · have e : s_lp H t cs (j + 1) = false := by rw [s_lp_succ, q0, s_lf, decide_eq_false q1, decide_eq_false q2, bi_f h51]; rfl
              refine PW_iconst (pc' := 59) dX7_takingOf_58 rfl (v := 0) (by first | rfl | decide) ?_
              refine PW_istore3 (pc' := 60) dX7_takingOf_59 rfl rfl rfl ?_
              refine PW_iinc4 (pc' := 63) dX7_takingOf_60 rfl rfl rfl nI_inc ?_
              refine PW_goto (tgt := 5) dX7_takingOf_63 rfl ?_
              have hgo := ih (m - 1) (by omega) (j + 1) (by omega)
              rw [e] at hgo
              exact hgo
            · have e : s_lp H t cs (j + 1) = true := by rw [s_lp_succ, q0, s_lf, decide_eq_false q1, decide_eq_false q2, bi_t h51]; rfl
              refine PW_iconst (pc' := 55) dX7_takingOf_54 rfl (v := 1) (by first | rfl | decide) ?_
              refine PW_goto (tgt := 59) dX7_takingOf_55 rfl ?_
              refine PW_istore3 (pc' := 60) dX7_takingOf_59 rfl rfl rfl ?_
              refine PW_iinc4 (pc' := 63) dX7_takingOf_60 rfl rfl rfl nI_inc ?_
              refine PW_goto (tgt := 5) dX7_takingOf_63 rfl ?_
              have hgo := ih (m - 1) (by omega) (j + 1) (by omega)
              rw [e] at hgo
              exact hgo
set_option maxHeartbeats 4000000 in
theorem c_X7_takingOf {Γ : pv_G} {d : Nat} {M : pv_M} {t h cs : Nat} {H : s_H} (ht : t < H.1) (hH : HM M H) (hh : h < 6) (hcs : cs < 64) (h41 : M 41 h = nI cs) : Ct Γ (d + 1) vX7_takingOf [.ref 29, .int (nI t), .int (nI h)] M (pv_fn (some (.int (nI (s_gain H H.2.2.1 t h cs)))) M) := by
  refine Ct.of oX7_takingOf.1 rfl (pad := 2) rfl ?_
  show PW Γ (d + 1) vX7_takingOf 0 [.ref 29, .int (nI t), .int (nI h), .null, .null] [] M _
  refine PW_iconst (pc' := 1) dX7_takingOf_0 rfl (v := bi (s_lp H t cs 0)) (by first | rfl | decide) ?_
  refine PW_istore3 (pc' := 2) dX7_takingOf_1 rfl rfl rfl ?_
  refine PW_iconst (pc' := 3) dX7_takingOf_2 rfl (v := nI 0) (by first | rfl | decide) ?_
  refine PW_istore4 (pc' := 5) dX7_takingOf_3 rfl rfl rfl ?_
  exact l_X7_takingOf ht hH hh hcs h41 H.1 0 (by omega)
