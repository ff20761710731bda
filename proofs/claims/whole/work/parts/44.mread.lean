/-! the reference: rounds by the readings -/
/-- round r is right, and agrees with the first i readings -/
def s_so (H : s_H) (rd : s_R) (r : Nat → Option Nat) : Nat → Bool
  | 0 => (s_wrong H r 6).isNone
  | i + 1 => s_so H rd r i && ((s_cs H r (rd.2.2.1 i) (rd.2.2.1 i + 1)).testBit (rd.2.1 i) == rd.2.2.2 i)
theorem bi_inj {a b : Bool} : bi a = bi b ↔ a = b := by
  cases a <;> cases b <;> decide
theorem s_so_0 {H : s_H} {rd : s_R} {r : Nat → Option Nat} : ∀ i, s_so H rd r i = true → s_wrong H r 6 = none
  | 0, h => by
    simp only [s_so] at h
    cases hz : s_wrong H r 6 with
    | none => rfl
    | some x => rw [hz] at h; cases h
  | i + 1, h => by
    simp only [s_so, Bool.and_eq_true] at h
    exact s_so_0 i h.1
set_option maxHeartbeats 4000000 in
theorem l_X7_isSo {Γ : pv_G} {d : Nat} {H : s_H} {rd : s_R} {r : Nat → Option Nat} {M : pv_M} {Q : pv_Q} {x1 : Int32} (hok : s_ok H) (hr : ∀ h, h < 6 → ∀ t, r h = some t → t < H.1) (hR : RM M H.1 rd) (h41 : s_wrong H r 6 = none → ∀ x, x < 6 → M 41 x = nI (s_cs H r x (x + 1))) (hQ : Q (some (.int (bi (s_so H rd r rd.1)))) M) : ∀ (m i : Nat), i + m = rd.1 →
    PW Γ (d + 3) vX7_isSo 12 [.ref 29, .int x1, .int (bi (s_so H rd r i)), .int (nI i)] [] M Q := by
  obtain ⟨hr1, hr8, hr2⟩ := hR
  have hn5 := hok.1
  intro m
  induction m using Nat.strongRecOn with
  | ind m ih =>
    intro i him
    refine PW_iload3 (pc' := 13) dX7_isSo_12 rfl ?_
    refine PW_aload0 (pc' := 14) dX7_isSo_13 rfl ?_
    refine PW_getI (pc' := 17) dX7_isSo_14 rfl fX7_142 rfl rfl ?_
    rw [hr1]
    refine PW_icmp_ge (tgt := 65) (pc' := 20) dX7_isSo_17 rfl rfl (fun h17 => ?_) (fun h17 => ?_)
    · have hi : i = rd.1 := by have := s_bge (by omega) (by omega) h17; omega
      subst hi
      refine PW_iload2 (pc' := 66) dX7_isSo_65 rfl ?_
      refine PW_ireturn .boolean dX7_isSo_66 rfl (by first | rfl | exact bi_nar _) ?_
      exact hQ
    · have hi : i < rd.1 := s_bnd (by omega) (by omega) h17
      obtain ⟨w1, w2, w3⟩ := hr2 i hi
      have w12 := w1.2
      have w22 := w2.2
      refine PW_iload2 (pc' := 21) dX7_isSo_20 rfl ?_
      refine PW_if_eq (tgt := 57) (pc' := 24) dX7_isSo_21 rfl rfl (fun h21 => ?_) (fun h21 => ?_)
      · have q0 := bi_f h21
        have e : s_so H rd r (i + 1) = false := by rw [s_so, q0]; rfl
        refine PW_iconst (pc' := 58) dX7_isSo_57 rfl (v := 0) (by first | rfl | decide) ?_
        refine PW_istore2 (pc' := 59) dX7_isSo_58 rfl rfl rfl ?_
        refine PW_iinc3 (pc' := 62) dX7_isSo_59 rfl rfl rfl nI_inc ?_
        refine PW_goto (tgt := 12) dX7_isSo_62 rfl ?_
        have hgo := ih (m - 1) (by omega) (i + 1) (by omega)
        rw [e] at hgo
        exact hgo
      · have q0 := bi_t h21
        refine PW_aload0 (pc' := 25) dX7_isSo_24 rfl ?_
        refine PW_getR (pc' := 28) dX7_isSo_25 rfl fX7_43 rfl rfl ?_
        refine PW_aload0 (pc' := 29) dX7_isSo_28 rfl ?_
        refine PW_getR (pc' := 32) dX7_isSo_29 rfl fX7_52 rfl rfl ?_
        refine PW_iload3 (pc' := 33) dX7_isSo_32 rfl ?_
        refine PW_ialdn (pc' := 34) dX7_isSo_33 rfl rfl rfl (show i < 8 by omega) ?_
        rw [w2.1]
        refine PW_ialdn (pc' := 35) dX7_isSo_34 rfl rfl rfl w2.2 ?_
        refine PW_aload0 (pc' := 36) dX7_isSo_35 rfl ?_
        refine PW_getR (pc' := 39) dX7_isSo_36 rfl fX7_49 rfl rfl ?_
        refine PW_iload3 (pc' := 40) dX7_isSo_39 rfl ?_
        refine PW_ialdn (pc' := 41) dX7_isSo_40 rfl rfl rfl (show i < 8 by omega) ?_
        rw [h41 (s_so_0 i q0) _ w2.2, w1.1]
        refine PW_callS2f (pc' := 44) dX7_isSo_41 rfl oX7_isIn lX7_157 (Nat.le_of_ble_eq_true rfl) (c_X7_isIn (s_cs_lt hn5 _ (fun h hh => hr h (by omega))) (show rd.2.1 i < 6 by omega)) ?_
        refine PW_aload0 (pc' := 45) dX7_isSo_44 rfl ?_
        refine PW_getR (pc' := 48) dX7_isSo_45 rfl fX7_55 rfl rfl ?_
        refine PW_iload3 (pc' := 49) dX7_isSo_48 rfl ?_
        refine PW_zaldn (pc' := 50) dX7_isSo_49 rfl rfl rfl (show i < 8 by omega) ?_
        rw [w3]
        refine PW_icmp_ne (tgt := 57) (pc' := 53) dX7_isSo_50 rfl rfl (fun h50 => ?_) (fun h50 => ?_)
        · rw [bi_inj] at h50
          have e : s_so H rd r (i + 1) = false := by
            rw [s_so, q0, Bool.true_and]
            exact beq_false_of_ne h50
          refine PW_iconst (pc' := 58) dX7_isSo_57 rfl (v := 0) (by first | rfl | decide) ?_
          refine PW_istore2 (pc' := 59) dX7_isSo_58 rfl rfl rfl ?_
          refine PW_iinc3 (pc' := 62) dX7_isSo_59 rfl rfl rfl nI_inc ?_
          refine PW_goto (tgt := 12) dX7_isSo_62 rfl ?_
          have hgo := ih (m - 1) (by omega) (i + 1) (by omega)
          rw [e] at hgo
          exact hgo
        · rw [bi_inj] at h50
          have e : s_so H rd r (i + 1) = true := by
            rw [s_so, q0, Bool.true_and, h50]
            exact beq_self_eq_true _
          refine PW_iconst (pc' := 54) dX7_isSo_53 rfl (v := 1) (by first | rfl | decide) ?_
          refine PW_goto (tgt := 58) dX7_isSo_54 rfl ?_
          refine PW_istore2 (pc' := 59) dX7_isSo_58 rfl rfl rfl ?_
          refine PW_iinc3 (pc' := 62) dX7_isSo_59 rfl rfl rfl nI_inc ?_
          refine PW_goto (tgt := 12) dX7_isSo_62 rfl ?_
          have hgo := ih (m - 1) (by omega) (i + 1) (by omega)
          rw [e] at hgo
          exact hgo
set_option maxHeartbeats 4000000 in
theorem c_X7_isSo {Γ : pv_G} {d : Nat} {M : pv_M} {a : s_A} {n : Nat} (hA : AM M a) (hn : n < (a.1.1 + 1) ^ 6) : Ct Γ (d + 3) vX7_isSo [.ref 29, .int (nI n)] M (fun r M' => r = some (.int (bi (s_so a.1 a.2.1 (s_rn a.1.1 n) a.2.1.1))) ∧ (frS M M' ∧ s_row M' 40 6 a.1.1 (s_rn a.1.1 n))) := by
  obtain ⟨hH, hR, hSh, hfl, htr, hnv⟩ := id hA
  obtain ⟨hok, hc1, hc2, hc3, hf⟩ := id hH
  have hn5 := hok.1
  have hf0 := fun t ht => hf t ht 0 (by decide)
  have hf2 := fun t ht => hf t ht 2 (by decide)
  have hf4 := fun t ht => hf t ht 4 (by decide)
  refine Ct.of oX7_isSo.1 rfl (pad := 2) rfl ?_
  show PW Γ (d + 3) vX7_isSo 0 [.ref 29, .int (nI n), .null, .null] [] M _
  refine PW_aload0 (pc' := 1) dX7_isSo_0 rfl ?_
  refine PW_iload1 (pc' := 2) dX7_isSo_1 rfl ?_
  refine PW_callV1w (pc' := 5) dX7_isSo_2 rfl oX7_layRow lX7_199 rfl rfl rfl (Nat.le_of_ble_eq_true rfl) (c_X7_layRow hn5 hn hc1) (fun M1 hM1 => ?_)
  have hF1 : frS M M1 := ⟨fun q hq => hM1.1 q (fun z => hq (by rw [z]; decide)), fun q hq => by rw [hM1.1 29 (by decide)]⟩
  have hA1 : AM M1 a := hA.scr hF1
  refine PW_aload0 (pc' := 6) dX7_isSo_5 rfl ?_
  refine PW_callV0r (pc' := 9) dX7_isSo_6 rfl oX7_goRound lX7_188 rfl rfl rfl (Nat.le_of_ble_eq_true rfl) (c_X7_goRound (H := a.1) (nv := none) hA1.1 hM1.2 hA1.2.2.2.2.2 (fun t ht => by cases ht)) (fun M2 hM2 => ?_)
  obtain ⟨g1, g2, g3, g4⟩ := go_of (H := a.1) hok hM1.2 hM2
  rw [s_wrn_none]
  have hA2 : AM M2 a := hA1.scr g1
  refine PW_istore2 (pc' := 10) dX7_isSo_9 rfl rfl rfl ?_
  refine PW_iconst (pc' := 11) dX7_isSo_10 rfl (v := nI 0) (by first | rfl | decide) ?_
  refine PW_istore3 (pc' := 12) dX7_isSo_11 rfl rfl rfl ?_
  refine l_X7_isSo (r := s_rn a.1.1 n) hok (fun h hh t ht => s_rn_lt ht) hA2.2.1 (fun z => (g4 z).2.2) ⟨rfl, hF1.tr g1, fun x hx => ?_⟩ a.2.1.1 0 (Nat.zero_add _)
  rw [g2]
  exact hM1.2 x hx
/-- the first n rounds: how many agree, and the first one -/
def s_rds (H : s_H) (rd : s_R) : Nat → Nat × Option Nat
  | 0 => (0, none)
  | n + 1 => if s_so H rd (s_rn H.1 n) rd.1 = true then ((s_rds H rd n).1 + 1, match (s_rds H rd n).2 with | some j => some j | none => some n) else s_rds H rd n
theorem s_rds_bd (H : s_H) (rd : s_R) : ∀ n, (s_rds H rd n).1 ≤ n ∧ ∀ j, (s_rds H rd n).2 = some j → j < n
  | 0 => ⟨Nat.le_refl _, fun j h => by cases h⟩
  | n + 1 => by
    obtain ⟨ih1, ih2⟩ := s_rds_bd H rd n
    simp only [s_rds]
    split
    · refine ⟨by simp; omega, fun j h => ?_⟩
      cases hz : (s_rds H rd n).2 with
      | none => rw [hz] at h; cases h; omega
      | some y => rw [hz] at h; cases h; have := ih2 _ hz; omega
    · exact ⟨by omega, fun j h => by have := ih2 j h; omega⟩
/-- what is in hour h of those of the first n rounds that agree -/
def s_sre (H : s_H) (rd : s_R) (h : Nat) : Nat → Nat
  | 0 => 0
  | n + 1 => if s_so H rd (s_rn H.1 n) rd.1 = true then s_sre H rd h n ||| 2 ^ ((s_rn H.1 n h).getD 5) else s_sre H rd h n
theorem s_sre_lt {H : s_H} (hn5 : H.1 ≤ 5) (rd : s_R) (h : Nat) : ∀ n, s_sre H rd h n < 64
  | 0 => by simp [s_sre]
  | n + 1 => by
    have ih := s_sre_lt hn5 rd h n
    simp only [s_sre]
    split
    · refine (bt_or _ ih _ ?_).2
      cases hz : s_rn H.1 n h with
      | none => decide
      | some t => have := s_rn_lt hz; show t < 6; omega
    · exact ih
