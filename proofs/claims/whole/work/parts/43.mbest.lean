/-! the reference: the best round, by number -/
theorem go_ofn {H : s_H} {nv : Option Nat} {r : Nat → Option Nat} {M M' : pv_M} (hok : s_ok H) (hrow : s_row M 40 6 H.1 r) (h : gp_post H nv r M M') : frS M M' ∧ M' 40 = M 40 ∧ M' 29 24 = M 29 24 ∧ (s_wrn H nv r 6 = none → M' 29 22 = nI (s_take H H.2.2.1 r 6) ∧ M' 29 23 = nI (s_miss H r 6) ∧ ∀ x, x < 6 → M' 41 x = nI (s_cs H r x (x + 1))) := by
  obtain ⟨h1, h2, h3, h4, h5⟩ := h
  refine ⟨h1, h2, h3, fun z => ?_⟩
  obtain ⟨g1, g2, g3⟩ := h5 z
  refine ⟨g1, ?_, g3⟩
  rw [g2, s_miss_mm (nv := nv) hok z (fun x hx => (hrow x hx).2)]
/-- what round r leaves -/
def s_lft (H : s_H) (r : Nat → Option Nat) : Int := (s_take H H.2.2.1 r 6 : Int) - H.2.1 * s_miss H r 6
theorem s_lft_bd {H : s_H} (hok : s_ok H) {r : Nat → Option Nat} (hr : ∀ h, h < 6 → ∀ t, r h = some t → t < H.1) : -1000 ≤ s_lft H r ∧ s_lft H r ≤ 1000 := by
  have h1 := s_take_le hok (lw := H.2.2.1) 6 hr
  have h2 := s_miss_le (H := H) (r := r) 6
  have h3 := hok.2.1
  have h4 : H.2.1 * s_miss H r 6 ≤ 9 * 36 := Nat.mul_le_mul h3 (by omega)
  have h5 : ((H.2.1 : Int) * (s_miss H r 6 : Int)) = ((H.2.1 * s_miss H r 6 : Nat) : Int) := by simp
  unfold s_lft
  rw [h5]
  omega
theorem iI_lft {H : s_H} (hok : s_ok H) {r : Nat → Option Nat} (hr : ∀ h, h < 6 → ∀ t, r h = some t → t < H.1) : nI (s_take H H.2.2.1 r 6) - nI H.2.1 * nI (s_miss H r 6) = iI (s_lft H r) := by
  have h1 := s_take_le hok (lw := H.2.2.1) 6 hr
  have h2 := s_miss_le (H := H) (r := r) 6
  have h3 := hok.2.1
  have h4 : H.2.1 * s_miss H r 6 ≤ 9 * 36 := Nat.mul_le_mul h3 (by omega)
  have h5 : ((H.2.1 : Int) * (s_miss H r 6 : Int)) = ((H.2.1 * s_miss H r 6 : Nat) : Int) := by simp
  rw [nI_mul, iI_nat (by omega), iI_nat (by omega), iI_sub, s_lft, h5]
/-- the best of the first n rounds -/
def s_bst (H : s_H) (nv : Option Nat) : Nat → Option Nat × Int
  | 0 => (none, 0)
  | n + 1 => if s_wrn H nv (s_rn H.1 n) 6 = none ∧ ((s_bst H nv n).1 = none ∨ (s_bst H nv n).2 < s_lft H (s_rn H.1 n)) then (some n, s_lft H (s_rn H.1 n)) else s_bst H nv n
theorem s_bst_bd {H : s_H} (hok : s_ok H) (nv : Option Nat) : ∀ n, (-1000 ≤ (s_bst H nv n).2 ∧ (s_bst H nv n).2 ≤ 1000) ∧ ∀ j, (s_bst H nv n).1 = some j → j < n
  | 0 => ⟨by simp [s_bst], fun j h => by cases h⟩
  | n + 1 => by
    obtain ⟨ih1, ih2⟩ := s_bst_bd hok nv n
    simp only [s_bst]
    split
    · exact ⟨s_lft_bd hok (fun _ _ _ h => s_rn_lt h), fun j h => by cases h; omega⟩
    · exact ⟨ih1, fun j h => by have := ih2 j h; omega⟩
theorem s_rI_neg {o : Option Nat} {n : Nat} (hn : n < 2 ^ 31) (ho : ∀ j, o = some j → j < n) : s_rI o < 0 ↔ o = none := by
  cases o with
  | none => exact ⟨fun _ => rfl, fun _ => by decide⟩
  | some j => exact ⟨fun h => absurd h (nI_pos (by have := ho j rfl; omega)), fun h => by cases h⟩
set_option maxHeartbeats 4000000 in
theorem l_X7_bestRow {Γ : pv_G} {d : Nat} {H : s_H} {nv : Option Nat} {M0 : pv_M} (hH0 : HM M0 H) (hnv : M0 29 9 = s_rI nv) (hnv2 : ∀ t, nv = some t → t < 5) : ∀ (m n : Nat) (M : pv_M), n + m = (H.1 + 1) ^ 6 → frS M0 M → (¬ (s_bst H nv n).1 = none → M 29 24 = iI (s_bst H nv n).2) →
    PW Γ (d + 3) vX7_bestRow 5 [.ref 29, .int (s_rI (s_bst H nv n).1), .int (nI n)] [] M (fun rr M' => rr = some (.int (s_rI (s_bst H nv ((H.1 + 1) ^ 6)).1)) ∧ (frS M0 M' ∧ (¬ (s_bst H nv ((H.1 + 1) ^ 6)).1 = none → M' 29 24 = iI (s_bst H nv ((H.1 + 1) ^ 6)).2))) := by
  have hok := hH0.1
  have hn5 := hok.1
  have hb := pow_le6 hn5 (show 6 ≤ 6 by decide)
  intro m
  induction m using Nat.strongRecOn with
  | ind m ih =>
    intro n M hnm hF h24
    have hH : HM M H := hH0.scr hF
    have hc1 := hH.2.1
    obtain ⟨bd1, bd2⟩ := s_bst_bd hok nv n
    have hng := s_rI_neg (n := n) (by omega) bd2
    refine PW_iload2 (pc' := 6) dX7_bestRow_5 rfl ?_
    refine PW_aload0 (pc' := 7) dX7_bestRow_6 rfl ?_
    refine PW_callV0f (pc' := 10) dX7_bestRow_7 rfl oX7_rows lX7_196 rfl rfl rfl (Nat.le_of_ble_eq_true rfl) (c_X7_rows hn5 hc1) ?_
    refine PW_icmp_ge (tgt := 56) (pc' := 13) dX7_bestRow_10 rfl rfl (fun h10 => ?_) (fun h10 => ?_)
    · have hn : n = (H.1 + 1) ^ 6 := by have := s_bge (by omega) (by omega) h10; omega
      subst hn
      refine PW_iload1 (pc' := 57) dX7_bestRow_56 rfl ?_
      refine PW_ireturn .int dX7_bestRow_57 rfl rfl ?_
      exact ⟨rfl, hF, h24⟩
    · have hn : n < (H.1 + 1) ^ 6 := s_bnd (by omega) (by omega) h10
      refine PW_aload0 (pc' := 14) dX7_bestRow_13 rfl ?_
      refine PW_iload2 (pc' := 15) dX7_bestRow_14 rfl ?_
      refine PW_callV1w (pc' := 18) dX7_bestRow_15 rfl oX7_layRow lX7_199 rfl rfl rfl (Nat.le_of_ble_eq_true rfl) (c_X7_layRow hn5 hn hc1) (fun M1 hM1 => ?_)
      have hF1 : frS M M1 := ⟨fun q hq => hM1.1 q (fun z => hq (by rw [z]; decide)), fun q hq => by rw [hM1.1 29 (by decide)]⟩
      have hH1 : HM M1 H := hH.scr hF1
      have hnv1 : M1 29 9 = s_rI nv := by rw [(hF.tr hF1).2 9 (by decide)]; exact hnv
      refine PW_aload0 (pc' := 19) dX7_bestRow_18 rfl ?_
      refine PW_callV0r (pc' := 22) dX7_bestRow_19 rfl oX7_goRound lX7_188 rfl rfl rfl (Nat.le_of_ble_eq_true rfl) (c_X7_goRound (H := H) (nv := nv) hH1 hM1.2 hnv1 hnv2) (fun M2 hM2 => ?_)
      obtain ⟨g1, g2, g3, g4⟩ := go_ofn hok hM1.2 hM2
      have hF2 : frS M0 M2 := (hF.tr hF1).tr g1
      have g5 : M2 29 24 = M 29 24 := by rw [g3, hM1.1 29 (by decide)]
      have hl := s_lft_bd hok (r := s_rn H.1 n) (fun _ _ _ h => s_rn_lt h)
      have hpn : M2 29 1 = nI H.2.1 := (hH0.scr hF2).2.2.1
      refine PW_if_eq (tgt := 50) (pc' := 25) dX7_bestRow_22 rfl rfl (fun h22 => ?_) (fun h22 => ?_)
      · have q1 := s_oN_T h22
        have e : s_bst H nv (n + 1) = s_bst H nv n := by
          simp only [s_bst]
          exact if_neg (fun z => by rw [z.1] at q1; cases q1)
        rw [← e] at h24
        refine PW_iinc2 (pc' := 53) dX7_bestRow_50 rfl rfl rfl nI_inc ?_
        refine PW_goto (tgt := 5) dX7_bestRow_53 rfl ?_
        have hgo := fun M' hf h => ih (m - 1) (by omega) (n + 1) M' (by omega) hf h
        rw [e] at hgo
        first
          | exact hgo _ (hF2.upf (by decide)) (fun _ => by rw [pv_up_at, if_pos ⟨rfl, rfl⟩])
          | exact hgo _ hF2 (fun z => by rw [g5]; rw [e] at h24; exact h24 z)
      · have q1 := s_oN_F h22
        refine PW_iload1 (pc' := 26) dX7_bestRow_25 rfl ?_
        refine PW_if_lt (tgt := 40) (pc' := 29) dX7_bestRow_26 rfl rfl (fun h26 => ?_) (fun h26 => ?_)
        · have e : s_bst H nv (n + 1) = (some n, s_lft H (s_rn H.1 n)) := by
            simp only [s_bst]
            exact if_pos ⟨q1, Or.inl (hng.mp h26)⟩
          refine PW_iload2 (pc' := 41) dX7_bestRow_40 rfl ?_
          refine PW_istore1 (pc' := 42) dX7_bestRow_41 rfl rfl rfl ?_
          refine PW_aload0 (pc' := 43) dX7_bestRow_42 rfl ?_
          refine PW_aload0 (pc' := 44) dX7_bestRow_43 rfl ?_
          refine PW_callV0f (pc' := 47) dX7_bestRow_44 rfl oX7_leftNow lX7_192 rfl rfl rfl (Nat.le_of_ble_eq_true rfl) (c_X7_leftNow) ?_
          rw [(g4 q1).1, (g4 q1).2.1, hpn, iI_lft hok (r := s_rn H.1 n) (fun _ _ _ h => s_rn_lt h)]
          refine PW_putI (pc' := 50) dX7_bestRow_47 rfl fX7_203 w6_24 rfl rfl ?_
          refine PW_iinc2 (pc' := 53) dX7_bestRow_50 rfl rfl rfl nI_inc ?_
          refine PW_goto (tgt := 5) dX7_bestRow_53 rfl ?_
          have hgo := fun M' hf h => ih (m - 1) (by omega) (n + 1) M' (by omega) hf h
          rw [e] at hgo
          first
            | exact hgo _ (hF2.upf (by decide)) (fun _ => by rw [pv_up_at, if_pos ⟨rfl, rfl⟩])
            | exact hgo _ hF2 (fun z => by rw [g5]; rw [e] at h24; exact h24 z)
        · refine PW_aload0 (pc' := 30) dX7_bestRow_29 rfl ?_
          refine PW_callV0f (pc' := 33) dX7_bestRow_30 rfl oX7_leftNow lX7_192 rfl rfl rfl (Nat.le_of_ble_eq_true rfl) (c_X7_leftNow) ?_
          refine PW_aload0 (pc' := 34) dX7_bestRow_33 rfl ?_
          refine PW_getI (pc' := 37) dX7_bestRow_34 rfl fX7_203 rfl rfl ?_
          rw [(g4 q1).1, (g4 q1).2.1, hpn, iI_lft hok (r := s_rn H.1 n) (fun _ _ _ h => s_rn_lt h), g5, h24 (fun z => h26 (hng.mpr z))]
          refine PW_icmp_le (tgt := 50) (pc' := 40) dX7_bestRow_37 rfl rfl (fun h37 => ?_) (fun h37 => ?_)
          · rw [iI_le (by omega) (by omega)] at h37
            have e : s_bst H nv (n + 1) = s_bst H nv n := by
              simp only [s_bst]
              exact if_neg (fun z => z.2.elim (fun y => h26 (hng.mpr y)) (fun y => by omega))
            rw [← e] at h24
            refine PW_iinc2 (pc' := 53) dX7_bestRow_50 rfl rfl rfl nI_inc ?_
            refine PW_goto (tgt := 5) dX7_bestRow_53 rfl ?_
            have hgo := fun M' hf h => ih (m - 1) (by omega) (n + 1) M' (by omega) hf h
            rw [e] at hgo
            first
              | exact hgo _ (hF2.upf (by decide)) (fun _ => by rw [pv_up_at, if_pos ⟨rfl, rfl⟩])
              | exact hgo _ hF2 (fun z => by rw [g5]; rw [e] at h24; exact h24 z)
          · rw [iI_le (by omega) (by omega)] at h37
            have e : s_bst H nv (n + 1) = (some n, s_lft H (s_rn H.1 n)) := by
              simp only [s_bst]
              exact if_pos ⟨q1, Or.inr (by omega)⟩
            refine PW_iload2 (pc' := 41) dX7_bestRow_40 rfl ?_
            refine PW_istore1 (pc' := 42) dX7_bestRow_41 rfl rfl rfl ?_
            refine PW_aload0 (pc' := 43) dX7_bestRow_42 rfl ?_
            refine PW_aload0 (pc' := 44) dX7_bestRow_43 rfl ?_
            refine PW_callV0f (pc' := 47) dX7_bestRow_44 rfl oX7_leftNow lX7_192 rfl rfl rfl (Nat.le_of_ble_eq_true rfl) (c_X7_leftNow) ?_
            rw [(g4 q1).1, (g4 q1).2.1, hpn, iI_lft hok (r := s_rn H.1 n) (fun _ _ _ h => s_rn_lt h)]
            refine PW_putI (pc' := 50) dX7_bestRow_47 rfl fX7_203 w6_24 rfl rfl ?_
            refine PW_iinc2 (pc' := 53) dX7_bestRow_50 rfl rfl rfl nI_inc ?_
            refine PW_goto (tgt := 5) dX7_bestRow_53 rfl ?_
            have hgo := fun M' hf h => ih (m - 1) (by omega) (n + 1) M' (by omega) hf h
            rw [e] at hgo
            first
              | exact hgo _ (hF2.upf (by decide)) (fun _ => by rw [pv_up_at, if_pos ⟨rfl, rfl⟩])
              | exact hgo _ hF2 (fun z => by rw [g5]; rw [e] at h24; exact h24 z)
set_option maxHeartbeats 4000000 in
theorem c_X7_bestRow {Γ : pv_G} {d : Nat} {M : pv_M} {H : s_H} {nv : Option Nat} (hH0 : HM M H) (hnv : M 29 9 = s_rI nv) (hnv2 : ∀ t, nv = some t → t < 5) : Ct Γ (d + 3) vX7_bestRow [.ref 29] M (fun rr M' => rr = some (.int (s_rI (s_bst H nv ((H.1 + 1) ^ 6)).1)) ∧ (frS M M' ∧ (¬ (s_bst H nv ((H.1 + 1) ^ 6)).1 = none → M' 29 24 = iI (s_bst H nv ((H.1 + 1) ^ 6)).2))) := by
  refine Ct.of oX7_bestRow.1 rfl (pad := 2) rfl ?_
  show PW Γ (d + 3) vX7_bestRow 0 [.ref 29, .null, .null] [] M _
  refine PW_bipush (pc' := 2) dX7_bestRow_0 rfl (v := s_rI none) (by first | rfl | decide) ?_
  refine PW_istore1 (pc' := 3) dX7_bestRow_2 rfl rfl rfl ?_
  refine PW_iconst (pc' := 4) dX7_bestRow_3 rfl (v := nI 0) (by first | rfl | decide) ?_
  refine PW_istore2 (pc' := 5) dX7_bestRow_4 rfl rfl rfl ?_
  exact l_X7_bestRow hH0 hnv hnv2 _ 0 M (Nat.zero_add _) frS.rf (fun z => absurd rfl z)
