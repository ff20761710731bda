/-! the reference: worth, takes in the best round -/
set_option maxHeartbeats 4000000 in
theorem c_X7_worth {Γ : pv_G} {d : Nat} {M : pv_M} {a : s_A} {t : Int32} (hA : AM M a) : Ct Γ (d + 4) vX7_worth [.ref 29, .int t] M (o_M (opn_worth t a) M) := by
  obtain ⟨hH, hR, hSh, hfl, htr, hnv⟩ := id hA
  obtain ⟨hok, hc1, hc2, hc3, hf⟩ := id hH
  have hn5 := hok.1
  have hf0 := fun t ht => hf t ht 0 (by decide)
  have hf2 := fun t ht => hf t ht 2 (by decide)
  have hf4 := fun t ht => hf t ht 4 (by decide)
  obtain ⟨hj1, hj2⟩ := s_bj_of hok none
  refine Ct.of oX7_worth.1 rfl (pad := 1) rfl ?_
  show PW Γ (d + 4) vX7_worth 0 [.ref 29, .int t, .null] [] M _
  refine PW_aload0 (pc' := 1) dX7_worth_0 rfl ?_
  refine PW_iload1 (pc' := 2) dX7_worth_1 rfl ?_
  refine PW_callV1f (pc' := 5) dX7_worth_2 rfl oX7_noThing lX7_145 rfl rfl rfl (Nat.le_of_ble_eq_true rfl) (c_X7_noThing hn5 hc1) ?_
  refine PW_if_eq (tgt := 10) (pc' := 8) dX7_worth_5 rfl rfl (fun h5 => ?_) (fun h5 => ?_)
  · have q := bn_f h5
    obtain ⟨j, hj, rfl⟩ := s_hb_of hn5 q
    have hj2 : j < 2 ^ 31 := by omega
    have qh : s_hb a (nI j) = true := q
    refine PW_aload0 (pc' := 11) dX7_worth_10 rfl ?_
    refine PW_callV0r (pc' := 14) dX7_worth_11 rfl oX7_bestRow lX7_210 rfl rfl rfl (Nat.le_of_ble_eq_true rfl) (c_X7_bestRow (nv := none) hH hnv (fun t ht => by cases ht)) (fun M1 hM1 => ?_)
    have hA1 : AM M1 a := hA.scr hM1.1
    obtain ⟨hk1, hk2⟩ := s_bj_of hok (some j)
    have h24 : M1 29 24 = iI (s_bst a.1 none ((a.1.1 + 1) ^ 6)).2 := hM1.2 (by rw [hj1]; simp)
    refine PW_popI (pc' := 15) dX7_worth_14 rfl ?_
    refine PW_aload0 (pc' := 16) dX7_worth_15 rfl ?_
    refine PW_getI (pc' := 19) dX7_worth_16 rfl fX7_203 rfl rfl ?_
    rw [h24]
    refine PW_istore2 (pc' := 20) dX7_worth_19 rfl rfl rfl ?_
    refine PW_aload0 (pc' := 21) dX7_worth_20 rfl ?_
    refine PW_iload1 (pc' := 22) dX7_worth_21 rfl ?_
    refine PW_putI (pc' := 25) dX7_worth_22 rfl fX7_71 w6_9 rfl rfl ?_
    refine PW_aload0 (pc' := 26) dX7_worth_25 rfl ?_
    refine PW_callV0r (pc' := 29) dX7_worth_26 rfl oX7_bestRow lX7_210 rfl rfl rfl (Nat.le_of_ble_eq_true rfl) (c_X7_bestRow (H := a.1) (nv := some j) (hA1.1.of (fun k hk => pv_up_p (by omega)) (fun f hf => pv_up_o (by omega))) (by rw [pv_up_at, if_pos ⟨rfl, rfl⟩]; rfl) (fun t ht => by cases ht; omega)) (fun M2 hM2 => ?_)
    have h24b : M2 29 24 = iI (s_bst a.1 (some j) ((a.1.1 + 1) ^ 6)).2 := hM2.2 (by rw [hk1]; simp)
    have h9 : M1 29 9 = -9 := hA1.2.2.2.2.2
    have hFb := frS_back hM2.1
    rw [h9] at hFb
    refine PW_popI (pc' := 30) dX7_worth_29 rfl ?_
    refine PW_aload0 (pc' := 31) dX7_worth_30 rfl ?_
    refine PW_bipush (pc' := 33) dX7_worth_31 rfl (v := -9) (by first | rfl | decide) ?_
    refine PW_putI (pc' := 36) dX7_worth_33 rfl fX7_71 w6_9 rfl rfl ?_
    refine PW_iload2 (pc' := 37) dX7_worth_36 rfl ?_
    refine PW_aload0 (pc' := 38) dX7_worth_37 rfl ?_
    refine PW_getI (pc' := 41) dX7_worth_38 rfl fX7_203 rfl rfl ?_
    rw [pv_up_p (by omega), h24b]
    refine PW_isub (pc' := 42) dX7_worth_41 rfl ?_
    refine PW_sipush (pc' := 45) dX7_worth_42 rfl (v := 1000) (by first | rfl | decide) ?_
    refine PW_iadd (pc' := 46) dX7_worth_45 rfl ?_
    refine PW_ireturn .int dX7_worth_46 rfl rfl ?_
    refine ⟨?_, hA1.scr hFb, hM1.1.frM.tr hFb.frM⟩
    simp only [opn_worth]
    rw [if_pos qh, ix_nI (by omega)]
  · have q := bn_t h5
    refine PW_iconst (pc' := 9) dX7_worth_8 rfl (v := -1) (by first | rfl | decide) ?_
    refine PW_ireturn .int dX7_worth_9 rfl rfl ?_
    have qh : s_hb a t = false := q
    exact ⟨by simp [opn_worth, qh], hA, frM.rf⟩
def s_tkn (H : s_H) (t : Nat) : Nat := s_tk (s_rn H.1 (s_bj H none)) t 6
set_option maxHeartbeats 4000000 in
theorem l_X7_takesOf {Γ : pv_G} {d t : Nat} {H : s_H} {M : pv_M} {Q : pv_Q} {b : Nat → Option Nat} (hn5 : H.1 ≤ 5) (ht : t < H.1) (hrow : s_row M 40 6 H.1 b) (hQ : Q (some (.int (nI (s_tk b t 6)))) M) : ∀ (m k : Nat), k + m = 6 →
    PW Γ (d + 4) vX7_takesOf 12 [.ref 29, .int (nI t), .int (nI (s_tk b t k)), .int (nI k)] [] M Q := by
  intro m
  induction m using Nat.strongRecOn with
  | ind m ih =>
    intro k hkm
    refine PW_iload3 (pc' := 13) dX7_takesOf_12 rfl ?_
    refine PW_bipush (pc' := 15) dX7_takesOf_13 rfl (v := nI 6) (by first | rfl | decide) ?_
    refine PW_icmp_ge (tgt := 42) (pc' := 18) dX7_takesOf_15 rfl rfl (fun h15 => ?_) (fun h15 => ?_)
    · have hk : k = 6 := by have := s_bge (by omega) (by omega) h15; omega
      subst hk
      refine PW_iload2 (pc' := 43) dX7_takesOf_42 rfl ?_
      refine PW_ireturn .int dX7_takesOf_43 rfl rfl ?_
      exact hQ
    · have hk : k < 6 := s_bnd (by omega) (by omega) h15
      have hbk := (hrow k hk).2
      refine PW_iload2 (pc' := 19) dX7_takesOf_18 rfl ?_
      refine PW_aload0 (pc' := 20) dX7_takesOf_19 rfl ?_
      refine PW_getR (pc' := 23) dX7_takesOf_20 rfl fX7_40 rfl rfl ?_
      refine PW_iload3 (pc' := 24) dX7_takesOf_23 rfl ?_
      refine PW_ialdn (pc' := 25) dX7_takesOf_24 rfl rfl rfl (by omega) ?_
      rw [(hrow k hk).1]
      refine PW_iload1 (pc' := 26) dX7_takesOf_25 rfl ?_
      refine PW_icmp_ne (tgt := 33) (pc' := 29) dX7_takesOf_26 rfl rfl (fun h26 => ?_) (fun h26 => ?_)
      · have e : s_tk b t (k + 1) = s_tk b t k := by
          simp only [s_tk]
          exact if_neg (fun z => h26 (by rw [z]; rfl))
        refine PW_iconst (pc' := 34) dX7_takesOf_33 rfl (v := nI 0) (by first | rfl | decide) ?_
        refine PW_iadd (pc' := 35) dX7_takesOf_34 rfl ?_
        rw [nI_add]
        refine PW_istore2 (pc' := 36) dX7_takesOf_35 rfl rfl rfl ?_
        refine PW_iinc3 (pc' := 39) dX7_takesOf_36 rfl rfl rfl nI_inc ?_
        refine PW_goto (tgt := 12) dX7_takesOf_39 rfl ?_
        have hgo := ih (m - 1) (by omega) (k + 1) (by omega)
        rw [e] at hgo
        exact hgo
      · have e : s_tk b t (k + 1) = s_tk b t k + 1 := by
          simp only [s_tk]
          have z : s_rI (b k) = nI t := Classical.not_not.mp (fun y => y h26)
          exact if_pos ((s_rI_eq (n := 5) (by decide) (by omega) (fun y hy => by have := hbk y hy; omega)).mp z)
        refine PW_iconst (pc' := 30) dX7_takesOf_29 rfl (v := nI 1) (by first | rfl | decide) ?_
        refine PW_goto (tgt := 34) dX7_takesOf_30 rfl ?_
        refine PW_iadd (pc' := 35) dX7_takesOf_34 rfl ?_
        rw [nI_add]
        refine PW_istore2 (pc' := 36) dX7_takesOf_35 rfl rfl rfl ?_
        refine PW_iinc3 (pc' := 39) dX7_takesOf_36 rfl rfl rfl nI_inc ?_
        refine PW_goto (tgt := 12) dX7_takesOf_39 rfl ?_
        have hgo := ih (m - 1) (by omega) (k + 1) (by omega)
        rw [e] at hgo
        exact hgo
set_option maxHeartbeats 4000000 in
theorem c_X7_takesOf {Γ : pv_G} {d : Nat} {M : pv_M} {H : s_H} {t : Nat} (hH : HM M H) (ht : t < H.1) (hnv : M 29 9 = -9) : Ct Γ (d + 4) vX7_takesOf [.ref 29, .int (nI t)] M (fun r M' => r = some (.int (nI (s_tkn H t))) ∧ frS M M') := by
  have hok := hH.1
  have hn5 := hok.1
  obtain ⟨hj1, hj2⟩ := s_bj_of hok none
  refine Ct.of oX7_takesOf.1 rfl (pad := 2) rfl ?_
  show PW Γ (d + 4) vX7_takesOf 0 [.ref 29, .int (nI t), .null, .null] [] M _
  refine PW_aload0 (pc' := 1) dX7_takesOf_0 rfl ?_
  refine PW_aload0 (pc' := 2) dX7_takesOf_1 rfl ?_
  refine PW_callV0r (pc' := 5) dX7_takesOf_2 rfl oX7_bestRow lX7_210 rfl rfl rfl (Nat.le_of_ble_eq_true rfl) (c_X7_bestRow (nv := none) hH hnv (fun t ht => by cases ht)) (fun M1 hM1 => ?_)
  rw [hj1, s_rI_some]
  refine PW_callV1w (pc' := 8) dX7_takesOf_5 rfl oX7_layRow lX7_199 rfl rfl rfl (Nat.le_of_ble_eq_true rfl) (c_X7_layRow hn5 hj2 (hH.scr hM1.1).2.1) (fun M2 hM2 => ?_)
  have hF2 : frS M1 M2 := ⟨fun q hq => hM2.1 q (fun z => hq (by rw [z]; decide)), fun q hq => by rw [hM2.1 29 (by decide)]⟩
  refine PW_iconst (pc' := 9) dX7_takesOf_8 rfl (v := nI 0) (by first | rfl | decide) ?_
  refine PW_istore2 (pc' := 10) dX7_takesOf_9 rfl rfl rfl ?_
  refine PW_iconst (pc' := 11) dX7_takesOf_10 rfl (v := nI 0) (by first | rfl | decide) ?_
  refine PW_istore3 (pc' := 12) dX7_takesOf_11 rfl rfl rfl ?_
  exact l_X7_takesOf hn5 ht hM2.2 ⟨rfl, hM1.1.tr hF2⟩ 6 0 (by omega)
