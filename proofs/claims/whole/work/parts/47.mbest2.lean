/-! the reference: best, worth, takes in the best round -/
theorem s_rn_0 (c x : Nat) : s_rn c 0 x = none := by
  simp [s_rn]
theorem s_wrn_0 (H : s_H) (nv : Option Nat) (c : Nat) : ∀ k, s_wrn H nv (s_rn c 0) k = none
  | 0 => rfl
  | k + 1 => by simp only [s_wrn, s_wrn_0 H nv c k, s_rn_0]
theorem s_bst_some (H : s_H) (nv : Option Nat) : ∀ n, ∃ j, (s_bst H nv (n + 1)).1 = some j
  | 0 => ⟨0, by simp [s_bst, s_wrn_0]⟩
  | n + 1 => by
    obtain ⟨j, hj⟩ := s_bst_some H nv n
    rw [s_bst]
    split
    · exact ⟨n + 1, rfl⟩
    · exact ⟨j, hj⟩
def s_bj (H : s_H) (nv : Option Nat) : Nat := (s_bst H nv ((H.1 + 1) ^ 6)).1.getD 0
theorem s_bj_of {H : s_H} (hok : s_ok H) (nv : Option Nat) : (s_bst H nv ((H.1 + 1) ^ 6)).1 = some (s_bj H nv) ∧ s_bj H nv < (H.1 + 1) ^ 6 := by
  have h0 : 0 < (H.1 + 1) ^ 6 := Nat.pow_pos (by omega)
  obtain ⟨j, hj⟩ := s_bst_some H nv ((H.1 + 1) ^ 6 - 1)
  rw [show (H.1 + 1) ^ 6 - 1 + 1 = (H.1 + 1) ^ 6 by omega] at hj
  have hb := (s_bst_bd hok nv ((H.1 + 1) ^ 6)).2 j hj
  unfold s_bj
  rw [hj]
  exact ⟨rfl, hb⟩
def opn_best (h : Int32) (a : s_A) : s_O := (if s_rng h (-1) 5 = true then (if a.1.1 = 0 then -3 else if h = -1 then iI (s_bst a.1 none ((a.1.1 + 1) ^ 6)).2 + 1000 else s_rI (s_rn a.1.1 (s_bj a.1 none) (ix h))) else -2, a)
def opn_worth (t : Int32) (a : s_A) : s_O := (if s_hb a t = true then iI (s_bst a.1 none ((a.1.1 + 1) ^ 6)).2 - iI (s_bst a.1 (some (ix t)) ((a.1.1 + 1) ^ 6)).2 + 1000 else -1, a)
set_option maxHeartbeats 4000000 in
theorem c_X7_best {Γ : pv_G} {d : Nat} {M : pv_M} {a : s_A} {h : Int32} (hA : AM M a) : Ct Γ (d + 4) vX7_best [.ref 29, .int h] M (o_M (opn_best h a) M) := by
  obtain ⟨hH, hR, hSh, hfl, htr, hnv⟩ := id hA
  obtain ⟨hok, hc1, hc2, hc3, hf⟩ := id hH
  have hn5 := hok.1
  have hf0 := fun t ht => hf t ht 0 (by decide)
  have hf2 := fun t ht => hf t ht 2 (by decide)
  have hf4 := fun t ht => hf t ht 4 (by decide)
  obtain ⟨hj1, hj2⟩ := s_bj_of hok none
  refine Ct.of oX7_best.1 rfl (pad := 1) rfl ?_
  show PW Γ (d + 4) vX7_best 0 [.ref 29, .int h, .null] [] M _
  refine PW_iload1 (pc' := 1) dX7_best_0 rfl ?_
  refine PW_i2l (pc' := 2) dX7_best_1 rfl ?_
  refine PW_ldc2 (pc' := 5) dX7_best_2 rfl qX7_206 ?_
  refine PW_ldc2 (pc' := 8) dX7_best_5 rfl qX7_208 ?_
  refine PW_callS3f (pc' := 11) dX7_best_8 rfl oX7_in lX7_87 (Nat.le_of_ble_eq_true rfl) (c_X7_inr (a := -1) (b := 5) rfl rfl) ?_
  refine PW_if_ne (tgt := 17) (pc' := 14) dX7_best_11 rfl rfl (fun h11 => ?_) (fun h11 => ?_)
  · have q := bi_t h11
    refine PW_aload0 (pc' := 18) dX7_best_17 rfl ?_
    refine PW_getI (pc' := 21) dX7_best_18 rfl fX7_84 rfl rfl ?_
    rw [hc1]
    refine PW_if_ne (tgt := 27) (pc' := 24) dX7_best_21 rfl rfl (fun h21 => ?_) (fun h21 => ?_)
    · have hp : ¬ a.1.1 = 0 := fun z => h21 (by rw [z]; rfl)
      refine PW_aload0 (pc' := 28) dX7_best_27 rfl ?_
      refine PW_callV0r (pc' := 31) dX7_best_28 rfl oX7_bestRow lX7_210 rfl rfl rfl (Nat.le_of_ble_eq_true rfl) (c_X7_bestRow (nv := none) hH hnv (fun t ht => by cases ht)) (fun M1 hM1 => ?_)
      rw [hj1, s_rI_some]
      refine PW_istore2 (pc' := 32) dX7_best_31 rfl rfl rfl ?_
      refine PW_aload0 (pc' := 33) dX7_best_32 rfl ?_
      refine PW_iload2 (pc' := 34) dX7_best_33 rfl ?_
      refine PW_callV1w (pc' := 37) dX7_best_34 rfl oX7_layRow lX7_199 rfl rfl rfl (Nat.le_of_ble_eq_true rfl) (c_X7_layRow hn5 hj2 (hH.scr hM1.1).2.1) (fun M2 hM2 => ?_)
      have hF2 : frS M1 M2 := ⟨fun q hq => hM2.1 q (fun z => hq (by rw [z]; decide)), fun q hq => by rw [hM2.1 29 (by decide)]⟩
      have h24 : M2 29 24 = iI (s_bst a.1 none ((a.1.1 + 1) ^ 6)).2 := by rw [hM2.1 29 (by decide)]; exact hM1.2 (by rw [hj1]; simp)
      refine PW_iload1 (pc' := 38) dX7_best_37 rfl ?_
      refine PW_if_ge (tgt := 52) (pc' := 41) dX7_best_38 rfl rfl (fun h38 => ?_) (fun h38 => ?_)
      · obtain ⟨y, hy, hh⟩ := s_rng_05 q h38
        have hne : ¬ h = -1 := fun z => by rw [z] at h38; exact absurd h38 (by decide)
        refine PW_aload0 (pc' := 53) dX7_best_52 rfl ?_
        refine PW_getR (pc' := 56) dX7_best_53 rfl fX7_40 rfl rfl ?_
        refine PW_iload1 (pc' := 57) dX7_best_56 rfl ?_
        rw [hh]
        refine PW_ialdn (pc' := 58) dX7_best_57 rfl rfl rfl (show y < 6 by omega) ?_
        try rw [(hM2.2 y hy).1]
        refine PW_ireturn .int dX7_best_58 rfl rfl ?_
        refine ⟨?_, hA.scr (hM1.1.tr hF2), (hM1.1.tr hF2).frM⟩
        simp only [opn_best]
        first
          | rw [if_pos q, if_neg hp, if_pos hm1]
          | (rw [hh] at q hne
             rw [if_pos q, if_neg hp, if_neg hne, ix_nI (by omega)])
      · have hm1 := s_rng_mm q h38
        refine PW_aload0 (pc' := 42) dX7_best_41 rfl ?_
        refine PW_getI (pc' := 45) dX7_best_42 rfl fX7_203 rfl rfl ?_
        rw [h24]
        refine PW_sipush (pc' := 48) dX7_best_45 rfl (v := 1000) (by first | rfl | decide) ?_
        refine PW_iadd (pc' := 49) dX7_best_48 rfl ?_
        refine PW_goto (tgt := 58) dX7_best_49 rfl ?_
        try rw [(hM2.2 y hy).1]
        refine PW_ireturn .int dX7_best_58 rfl rfl ?_
        refine ⟨?_, hA.scr (hM1.1.tr hF2), (hM1.1.tr hF2).frM⟩
        simp only [opn_best]
        first
          | rw [if_pos q, if_neg hp, if_pos hm1]
          | (rw [hh] at q hne
             rw [if_pos q, if_neg hp, if_neg hne, ix_nI (by omega)])
    · have hp : a.1.1 = 0 := nI_inj (by omega) (by decide) h21
      refine PW_bipush (pc' := 26) dX7_best_24 rfl (v := -3) (by first | rfl | decide) ?_
      refine PW_ireturn .int dX7_best_26 rfl rfl ?_
      exact ⟨by simp [opn_best, q, hp], hA, frM.rf⟩
  · have q := bi_f h11
    refine PW_bipush (pc' := 16) dX7_best_14 rfl (v := -2) (by first | rfl | decide) ?_
    refine PW_ireturn .int dX7_best_16 rfl rfl ?_
    exact ⟨by simp [opn_best, q], hA, frM.rf⟩
