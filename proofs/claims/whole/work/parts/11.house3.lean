/-! the class: a round by its house: first wrong, takings, missed -/
def v_bc1 (i : Int32) : Int32 := i - ((i.toUInt32 >>> ((1 : Int32).toUInt32 &&& Int32.toUInt32 31)).toInt32 &&& 1431655765)
def v_bc2 (i : Int32) : Int32 := (i &&& 858993459) + ((i.toUInt32 >>> ((2 : Int32).toUInt32 &&& Int32.toUInt32 31)).toInt32 &&& 858993459)
def v_bc3 (i : Int32) : Int32 := (i + (i.toUInt32 >>> ((4 : Int32).toUInt32 &&& Int32.toUInt32 31)).toInt32) &&& 252645135
def v_bc4 (i : Int32) : Int32 := i + (i.toUInt32 >>> ((8 : Int32).toUInt32 &&& Int32.toUInt32 31)).toInt32
def v_bc5 (i : Int32) : Int32 := i + (i.toUInt32 >>> ((16 : Int32).toUInt32 &&& Int32.toUInt32 31)).toInt32
theorem v_bc_eq : ∀ a, a < 64 → (v_bc5 (v_bc4 (v_bc3 (v_bc2 (v_bc1 (nI a)))))) &&& 63 = nI (s_pop a) := by decide +kernel
set_option maxHeartbeats 4000000 in
theorem c_J6_bitCount_0f7a4 {Γ : pv_G} {d : Nat} {M : pv_M} {a : Nat} (ha : a < 64) : Ct Γ d vJ6_bitCount_0f7a4 [.int (nI a)] M (pv_fn (some (.int (nI (s_pop a)))) M) := by
  refine Ct.of oJ6_bitCount_0f7a4.1 rfl (pad := 0) rfl ?_
  show PW Γ d vJ6_bitCount_0f7a4 0 [.int (nI a)] [] M _
  refine PW_iload0 (pc' := 1) dJ6_bitCount_0f7a4_0 rfl ?_
  refine PW_iload0 (pc' := 2) dJ6_bitCount_0f7a4_1 rfl ?_
  refine PW_iconst (pc' := 3) dJ6_bitCount_0f7a4_2 rfl (v := 1) (by first | rfl | decide) ?_
  refine PW_iushr (pc' := 4) dJ6_bitCount_0f7a4_3 rfl rfl ?_
  refine PW_ldcw (pc' := 7) dJ6_bitCount_0f7a4_4 rfl qJ6_265 ?_
  refine PW_iand (pc' := 8) dJ6_bitCount_0f7a4_7 rfl ?_
  refine PW_isub (pc' := 9) dJ6_bitCount_0f7a4_8 rfl ?_
  refine PW_istore0 (pc' := 10) dJ6_bitCount_0f7a4_9 rfl rfl rfl ?_
  refine PW_iload0 (pc' := 11) dJ6_bitCount_0f7a4_10 rfl ?_
  refine PW_ldcw (pc' := 14) dJ6_bitCount_0f7a4_11 rfl qJ6_266 ?_
  refine PW_iand (pc' := 15) dJ6_bitCount_0f7a4_14 rfl ?_
  refine PW_iload0 (pc' := 16) dJ6_bitCount_0f7a4_15 rfl ?_
  refine PW_iconst (pc' := 17) dJ6_bitCount_0f7a4_16 rfl (v := 2) (by first | rfl | decide) ?_
  refine PW_iushr (pc' := 18) dJ6_bitCount_0f7a4_17 rfl rfl ?_
  refine PW_ldcw (pc' := 21) dJ6_bitCount_0f7a4_18 rfl qJ6_266 ?_
  refine PW_iand (pc' := 22) dJ6_bitCount_0f7a4_21 rfl ?_
  refine PW_iadd (pc' := 23) dJ6_bitCount_0f7a4_22 rfl ?_
  refine PW_istore0 (pc' := 24) dJ6_bitCount_0f7a4_23 rfl rfl rfl ?_
  refine PW_iload0 (pc' := 25) dJ6_bitCount_0f7a4_24 rfl ?_
  refine PW_iload0 (pc' := 26) dJ6_bitCount_0f7a4_25 rfl ?_
  refine PW_iconst (pc' := 27) dJ6_bitCount_0f7a4_26 rfl (v := 4) (by first | rfl | decide) ?_
  refine PW_iushr (pc' := 28) dJ6_bitCount_0f7a4_27 rfl rfl ?_
  refine PW_iadd (pc' := 29) dJ6_bitCount_0f7a4_28 rfl ?_
  refine PW_ldcw (pc' := 32) dJ6_bitCount_0f7a4_29 rfl qJ6_267 ?_
  refine PW_iand (pc' := 33) dJ6_bitCount_0f7a4_32 rfl ?_
  refine PW_istore0 (pc' := 34) dJ6_bitCount_0f7a4_33 rfl rfl rfl ?_
  refine PW_iload0 (pc' := 35) dJ6_bitCount_0f7a4_34 rfl ?_
  refine PW_iload0 (pc' := 36) dJ6_bitCount_0f7a4_35 rfl ?_
  refine PW_bipush (pc' := 38) dJ6_bitCount_0f7a4_36 rfl (v := 8) (by first | rfl | decide) ?_
  refine PW_iushr (pc' := 39) dJ6_bitCount_0f7a4_38 rfl rfl ?_
  refine PW_iadd (pc' := 40) dJ6_bitCount_0f7a4_39 rfl ?_
  refine PW_istore0 (pc' := 41) dJ6_bitCount_0f7a4_40 rfl rfl rfl ?_
  refine PW_iload0 (pc' := 42) dJ6_bitCount_0f7a4_41 rfl ?_
  refine PW_iload0 (pc' := 43) dJ6_bitCount_0f7a4_42 rfl ?_
  refine PW_bipush (pc' := 45) dJ6_bitCount_0f7a4_43 rfl (v := 16) (by first | rfl | decide) ?_
  refine PW_iushr (pc' := 46) dJ6_bitCount_0f7a4_45 rfl rfl ?_
  refine PW_iadd (pc' := 47) dJ6_bitCount_0f7a4_46 rfl ?_
  refine PW_istore0 (pc' := 48) dJ6_bitCount_0f7a4_47 rfl rfl rfl ?_
  refine PW_iload0 (pc' := 49) dJ6_bitCount_0f7a4_48 rfl ?_
  refine PW_bipush (pc' := 51) dJ6_bitCount_0f7a4_49 rfl (v := 63) (by first | rfl | decide) ?_
  refine PW_iand (pc' := 52) dJ6_bitCount_0f7a4_51 rfl ?_
  refine PW_ireturn .int dJ6_bitCount_0f7a4_52 rfl rfl ?_
  exact ⟨congrArg (fun z => some (Value.int z)) (v_bc_eq a ha), rfl⟩
set_option maxHeartbeats 4000000 in
theorem c_X0_missedByTake {Γ : pv_G} {d : Nat} {M : pv_M} {t h : Nat} {H : s_H} (ht : t < H.1) (hh : h < 6) (hH : HX M H) : Ct Γ (d + 1) vX0_missedByTake [.ref 10, .int (nI t), .int (nI h)] M (pv_fn (some (.int (nI (s_miss1 H t h)))) M) := by
  obtain ⟨hok, hc1, hc2, hc3, hf⟩ := id hH
  have hn5 := hok.1
  have hu := (hok.2.2.2 t ht).2.2.2.2
  refine Ct.of oX0_missedByTake.1 rfl (pad := 0) rfl ?_
  show PW Γ (d + 1) vX0_missedByTake 0 [.ref 10, .int (nI t), .int (nI h)] [] M _
  refine PW_aload0 (pc' := 1) dX0_missedByTake_0 rfl ?_
  refine PW_getR (pc' := 4) dX0_missedByTake_1 rfl fX0_11 rfl rfl ?_
  refine PW_iload1 (pc' := 5) dX0_missedByTake_4 rfl ?_
  refine PW_aald3 (pc' := 6) dX0_missedByTake_5 rfl (by omega) ?_
  refine PW_getI (pc' := 9) dX0_missedByTake_6 rfl fX0_53 (pv_lay_thing (by omega)) rfl ?_
  refine PW_aload0 (pc' := 10) dX0_missedByTake_9 rfl ?_
  refine PW_getR (pc' := 13) dX0_missedByTake_10 rfl fX0_11 rfl rfl ?_
  refine PW_iload1 (pc' := 14) dX0_missedByTake_13 rfl ?_
  refine PW_aald3 (pc' := 15) dX0_missedByTake_14 rfl (by omega) ?_
  refine PW_iload2 (pc' := 16) dX0_missedByTake_15 rfl ?_
  refine PW_callV1f (pc' := 19) dX0_missedByTake_16 rfl oX5_span lX0_45 (pv_lay_thing (by omega)) rfl rfl (Nat.le_of_ble_eq_true rfl) (c_X5_span ht hh hH) ?_
  refine PW_iand (pc' := 20) dX0_missedByTake_19 rfl ?_
  rw [hf t ht 4 (by decide), bt_and _ hu _ (s_span_lt _ _)]
  refine PW_callS1f (pc' := 23) dX0_missedByTake_20 rfl oJ6_bitCount_0f7a4 lX0_62 (Nat.le_of_ble_eq_true rfl) (c_J6_bitCount_0f7a4 (s_and_lt hu)) ?_
  refine PW_ireturn .int dX0_missedByTake_23 rfl rfl ?_
  exact ⟨by first | rfl | (simp_all; done), rfl⟩
def s_oI (o : Option Nat) : Int32 := match o with
  | none => -9
  | some h => nI h
theorem s_wrong_mono {H : s_H} {r : Nat → Option Nat} {h : Nat} : ∀ (k j : Nat), s_wrong H r j = some h → s_wrong H r (j + k) = some h
  | 0, _, hj => hj
  | k + 1, j, hj => by
    rw [show j + (k + 1) = (j + k) + 1 from rfl, s_wrong, s_wrong_mono k j hj]
set_option maxHeartbeats 4000000 in
theorem l_X0_firstWrong {Γ : pv_G} {d : Nat} {M : pv_M} {pl : Nat} {H : s_H} {r : Nat → Option Nat} (hpl : pv_lay pl = .inr (.inl (0, 6))) (hH : HX M H) (hrow : s_row M pl 6 H.1 r) :
    ∀ (m j : Nat), j + m = 6 → s_wrong H r j = none → PW Γ (d + 2) vX0_firstWrong 2 [.ref 10, .ref pl, .int (nI j)] [] M (pv_fn (some (.int (s_oI (s_wrong H r 6)))) M) := by
  obtain ⟨hok, hc1, hc2, hc3, hf⟩ := id hH
  have hn5 := hok.1
  have hr2 : ∀ h, h < 6 → ∀ t, r h = some t → t < H.1 := fun h hh => (hrow h hh).2
  intro m
  induction m using Nat.strongRecOn with
  | ind m ih =>
    intro j hjm hw
    refine PW_iload2 (pc' := 3) dX0_firstWrong_2 rfl ?_
    refine PW_bipush (pc' := 5) dX0_firstWrong_3 rfl (v := nI 6) (by first | rfl | decide) ?_
    refine PW_icmp_ge (tgt := 42) (pc' := 8) dX0_firstWrong_5 rfl rfl (fun h5 => ?_) (fun h5 => ?_)
    · have hj6 : j = 6 := by have := s_bge (by omega) (by omega) h5; omega
      subst hj6
      refine PW_bipush (pc' := 44) dX0_firstWrong_42 rfl (v := -9) (by first | rfl | decide) ?_
      exact PW_ireturn .int dX0_firstWrong_44 rfl rfl ⟨by rw [hw]; rfl, rfl⟩
    · have hj6 : j < 6 := s_bnd (by omega) (by omega) h5
      refine PW_aload0 (pc' := 9) dX0_firstWrong_8 rfl ?_
      refine PW_aload1 (pc' := 10) dX0_firstWrong_9 rfl ?_
      refine PW_iload2 (pc' := 11) dX0_firstWrong_10 rfl ?_
      refine PW_ialdn (pc' := 12) dX0_firstWrong_11 rfl hpl rfl (by omega) ?_
      rw [(hrow j hj6).1]
      refine PW_callV1f (pc' := 15) dX0_firstWrong_12 rfl oX0_has lX0_22 rfl rfl rfl (Nat.le_of_ble_eq_true rfl) (c_X0_has hc1) ?_
      refine PW_if_eq (tgt := 36) (pc' := 18) dX0_firstWrong_15 rfl rfl (fun h15 => ?_) (fun h15 => ?_)
      · rw [s_has_rI hn5 (hr2 j hj6)] at h15
        have hz := s_isNone (bi_f h15)
        refine PW_iinc2 (pc' := 39) dX0_firstWrong_36 rfl rfl rfl nI_inc ?_
        refine PW_goto (tgt := 2) dX0_firstWrong_39 rfl ?_
        refine ih (m - 1) (by omega) (j + 1) (by omega) ?_
        simp [s_wrong, hw, hz]
      · rw [s_has_rI hn5 (hr2 j hj6)] at h15
        obtain ⟨t, ht⟩ := s_isSome (bi_t h15)
        have htn := hr2 j hj6 t ht
        refine PW_aload0 (pc' := 19) dX0_firstWrong_18 rfl ?_
        refine PW_aload1 (pc' := 20) dX0_firstWrong_19 rfl ?_
        refine PW_iload2 (pc' := 21) dX0_firstWrong_20 rfl ?_
        refine PW_iload2 (pc' := 22) dX0_firstWrong_21 rfl ?_
        refine PW_callV3f (pc' := 25) dX0_firstWrong_22 rfl oX0_casesBy lX0_29 rfl rfl rfl (Nat.le_of_ble_eq_true rfl) (c_X0_casesBy hpl (by omega) (by omega) hH (fun h hh => hrow h (by omega))) ?_
        refine PW_aload1 (pc' := 26) dX0_firstWrong_25 rfl ?_
        refine PW_iload2 (pc' := 27) dX0_firstWrong_26 rfl ?_
        refine PW_ialdn (pc' := 28) dX0_firstWrong_27 rfl hpl rfl (by omega) ?_
        rw [(hrow j hj6).1, ht, s_rI_some]
        refine PW_callN2f (pc' := 31) dX0_firstWrong_28 rfl oX6_isIn ⟨rfl, rfl⟩ (Nat.le_of_ble_eq_true rfl) (c_X6_isIn (s_cs_lt hn5 j (fun h hh => hr2 h (by omega))) (by omega)) ?_
        refine PW_if_eq (tgt := 36) (pc' := 34) dX0_firstWrong_31 rfl rfl (fun h31 => ?_) (fun h31 => ?_)
        · have hb := bi_f h31
          refine PW_iinc2 (pc' := 39) dX0_firstWrong_36 rfl rfl rfl nI_inc ?_
          refine PW_goto (tgt := 2) dX0_firstWrong_39 rfl ?_
          refine ih (m - 1) (by omega) (j + 1) (by omega) ?_
          simp [s_wrong, hw, ht, hb]
        · have hb := bi_t h31
          refine PW_iload2 (pc' := 35) dX0_firstWrong_34 rfl ?_
          refine PW_ireturn .int dX0_firstWrong_35 rfl rfl ?_
          have e : s_wrong H r (j + 1) = some j := by simp [s_wrong, hw, ht, hb]
          have e6 := s_wrong_mono (m - 1) (j + 1) e
          rw [show j + 1 + (m - 1) = 6 by omega] at e6
          exact ⟨by rw [e6]; rfl, rfl⟩
set_option maxHeartbeats 4000000 in
theorem c_X0_firstWrong {Γ : pv_G} {d : Nat} {M : pv_M} {pl : Nat} {H : s_H} {r : Nat → Option Nat} (hpl : pv_lay pl = .inr (.inl (0, 6))) (hH : HX M H) (hrow : s_row M pl 6 H.1 r) : Ct Γ (d + 2) vX0_firstWrong [.ref 10, .ref pl] M (pv_fn (some (.int (s_oI (s_wrong H r 6)))) M) := by
  refine Ct.of oX0_firstWrong.1 rfl (pad := 1) rfl ?_
  show PW Γ (d + 2) vX0_firstWrong 0 [.ref 10, .ref pl, .null] [] M _
  refine PW_iconst (pc' := 1) dX0_firstWrong_0 rfl (v := nI 0) (by first | rfl | decide) ?_
  refine PW_istore2 (pc' := 2) dX0_firstWrong_1 rfl rfl rfl ?_
  exact l_X0_firstWrong hpl hH hrow 6 0 (by omega) rfl
set_option maxHeartbeats 4000000 in
theorem l_X0_takingsBy {Γ : pv_G} {d : Nat} {M : pv_M} {pl lw : Nat} {H : s_H} {r : Nat → Option Nat} (hpl : pv_lay pl = .inr (.inl (0, 6))) (hlw : lw ≤ 3) (hH : HX M H) (hrow : s_row M pl 6 H.1 r) :
    ∀ (m j : Nat), j + m = 6 → PW Γ (d + 3) vX0_takingsBy 5 [.ref 10, .ref pl, .int (nI lw), .int (nI (s_take H lw r j)), .int (nI j)] [] M (pv_fn (some (.int (nI (s_take H lw r 6)))) M) := by
  obtain ⟨hok, hc1, hc2, hc3, hf⟩ := id hH
  have hn5 := hok.1
  have hr2 : ∀ h, h < 6 → ∀ t, r h = some t → t < H.1 := fun h hh => (hrow h hh).2
  intro m
  induction m using Nat.strongRecOn with
  | ind m ih =>
    intro j hjm
    refine PW_iload4 (pc' := 7) dX0_takingsBy_5 rfl ?_
    refine PW_bipush (pc' := 9) dX0_takingsBy_7 rfl (v := nI 6) (by first | rfl | decide) ?_
    refine PW_icmp_ge (tgt := 52) (pc' := 12) dX0_takingsBy_9 rfl rfl (fun h9 => ?_) (fun h9 => ?_)
    · have hj6 : j = 6 := by have := s_bge (by omega) (by omega) h9; omega
      subst hj6
      refine PW_iload3 (pc' := 53) dX0_takingsBy_52 rfl ?_
      exact PW_ireturn .int dX0_takingsBy_53 rfl rfl ⟨rfl, rfl⟩
    · have hj6 : j < 6 := s_bnd (by omega) (by omega) h9
      refine PW_aload0 (pc' := 13) dX0_takingsBy_12 rfl ?_
      refine PW_aload1 (pc' := 14) dX0_takingsBy_13 rfl ?_
      refine PW_iload4 (pc' := 16) dX0_takingsBy_14 rfl ?_
      refine PW_ialdn (pc' := 17) dX0_takingsBy_16 rfl hpl rfl (by omega) ?_
      rw [(hrow j hj6).1]
      refine PW_callV1f (pc' := 20) dX0_takingsBy_17 rfl oX0_has lX0_22 rfl rfl rfl (Nat.le_of_ble_eq_true rfl) (c_X0_has hc1) ?_
      refine PW_if_eq (tgt := 46) (pc' := 23) dX0_takingsBy_20 rfl rfl (fun h20 => ?_) (fun h20 => ?_)
      · rw [s_has_rI hn5 (hr2 j hj6)] at h20
        have hz := s_isNone (bi_f h20)
        refine PW_iinc4 (pc' := 49) dX0_takingsBy_46 rfl rfl rfl nI_inc ?_
        refine PW_goto (tgt := 5) dX0_takingsBy_49 rfl ?_
        have e : s_take H lw r (j + 1) = s_take H lw r j := by simp [s_take, hz]
        rw [← e]
        exact ih (m - 1) (by omega) (j + 1) (by omega)
      · rw [s_has_rI hn5 (hr2 j hj6)] at h20
        obtain ⟨t, ht⟩ := s_isSome (bi_t h20)
        have htn := hr2 j hj6 t ht
        refine PW_iload3 (pc' := 24) dX0_takingsBy_23 rfl ?_
        refine PW_aload0 (pc' := 25) dX0_takingsBy_24 rfl ?_
        refine PW_aload1 (pc' := 26) dX0_takingsBy_25 rfl ?_
        refine PW_iload4 (pc' := 28) dX0_takingsBy_26 rfl ?_
        refine PW_ialdn (pc' := 29) dX0_takingsBy_28 rfl hpl rfl (by omega) ?_
        rw [(hrow j hj6).1, ht, s_rI_some]
        refine PW_iload4 (pc' := 31) dX0_takingsBy_29 rfl ?_
        refine PW_aload0 (pc' := 32) dX0_takingsBy_31 rfl ?_
        refine PW_aload1 (pc' := 33) dX0_takingsBy_32 rfl ?_
        refine PW_iload4 (pc' := 35) dX0_takingsBy_33 rfl ?_
        refine PW_iload4 (pc' := 37) dX0_takingsBy_35 rfl ?_
        refine PW_callV3f (pc' := 40) dX0_takingsBy_37 rfl oX0_casesBy lX0_29 rfl rfl rfl (Nat.le_of_ble_eq_true rfl) (c_X0_casesBy hpl (by omega) (by omega) hH (fun h hh => hrow h (by omega))) ?_
        refine PW_iload2 (pc' := 41) dX0_takingsBy_40 rfl ?_
        refine PW_callV4f (pc' := 44) dX0_takingsBy_41 rfl oX0_gain lX0_37 rfl rfl rfl (Nat.le_of_ble_eq_true rfl) (c_X0_gain htn hj6 (s_cs_lt hn5 j (fun h hh => hr2 h (by omega))) hlw hH) ?_
        refine PW_iadd (pc' := 45) dX0_takingsBy_44 rfl ?_
        rw [nI_add]
        refine PW_istore3 (pc' := 46) dX0_takingsBy_45 rfl rfl rfl ?_
        refine PW_iinc4 (pc' := 49) dX0_takingsBy_46 rfl rfl rfl nI_inc ?_
        refine PW_goto (tgt := 5) dX0_takingsBy_49 rfl ?_
        have e : s_take H lw r (j + 1) = s_take H lw r j + s_gain H lw t j (s_cs H r j j) := by simp [s_take, ht]
        rw [← e]
        exact ih (m - 1) (by omega) (j + 1) (by omega)
set_option maxHeartbeats 4000000 in
theorem c_X0_takingsBy {Γ : pv_G} {d : Nat} {M : pv_M} {pl lw : Nat} {H : s_H} {r : Nat → Option Nat} (hpl : pv_lay pl = .inr (.inl (0, 6))) (hlw : lw ≤ 3) (hH : HX M H) (hrow : s_row M pl 6 H.1 r) : Ct Γ (d + 3) vX0_takingsBy [.ref 10, .ref pl, .int (nI lw)] M (pv_fn (some (.int (nI (s_take H lw r 6)))) M) := by
  refine Ct.of oX0_takingsBy.1 rfl (pad := 2) rfl ?_
  show PW Γ (d + 3) vX0_takingsBy 0 [.ref 10, .ref pl, .int (nI lw), .null, .null] [] M _
  refine PW_iconst (pc' := 1) dX0_takingsBy_0 rfl (v := nI (s_take H lw r 0)) (by first | rfl | decide) ?_
  refine PW_istore3 (pc' := 2) dX0_takingsBy_1 rfl rfl rfl ?_
  refine PW_iconst (pc' := 3) dX0_takingsBy_2 rfl (v := nI 0) (by first | rfl | decide) ?_
  refine PW_istore4 (pc' := 5) dX0_takingsBy_3 rfl rfl rfl ?_
  exact l_X0_takingsBy hpl hlw hH hrow 6 0 (by omega)
set_option maxHeartbeats 4000000 in
theorem l_X0_missedBy {Γ : pv_G} {d : Nat} {M : pv_M} {pl : Nat} {H : s_H} {r : Nat → Option Nat} (hpl : pv_lay pl = .inr (.inl (0, 6))) (hH : HX M H) (hrow : s_row M pl 6 H.1 r) :
    ∀ (m j : Nat), j + m = 6 → PW Γ (d + 2) vX0_missedBy 4 [.ref 10, .ref pl, .int (nI (s_miss H r j)), .int (nI j)] [] M (pv_fn (some (.int (nI (s_miss H r 6)))) M) := by
  obtain ⟨hok, hc1, hc2, hc3, hf⟩ := id hH
  have hn5 := hok.1
  have hr2 : ∀ h, h < 6 → ∀ t, r h = some t → t < H.1 := fun h hh => (hrow h hh).2
  intro m
  induction m using Nat.strongRecOn with
  | ind m ih =>
    intro j hjm
    refine PW_iload3 (pc' := 5) dX0_missedBy_4 rfl ?_
    refine PW_bipush (pc' := 7) dX0_missedBy_5 rfl (v := nI 6) (by first | rfl | decide) ?_
    refine PW_icmp_ge (tgt := 37) (pc' := 10) dX0_missedBy_7 rfl rfl (fun h7 => ?_) (fun h7 => ?_)
    · have hj6 : j = 6 := by have := s_bge (by omega) (by omega) h7; omega
      subst hj6
      refine PW_iload2 (pc' := 38) dX0_missedBy_37 rfl ?_
      exact PW_ireturn .int dX0_missedBy_38 rfl rfl ⟨rfl, rfl⟩
    · have hj6 : j < 6 := s_bnd (by omega) (by omega) h7
      refine PW_aload0 (pc' := 11) dX0_missedBy_10 rfl ?_
      refine PW_aload1 (pc' := 12) dX0_missedBy_11 rfl ?_
      refine PW_iload3 (pc' := 13) dX0_missedBy_12 rfl ?_
      refine PW_ialdn (pc' := 14) dX0_missedBy_13 rfl hpl rfl (by omega) ?_
      rw [(hrow j hj6).1]
      refine PW_callV1f (pc' := 17) dX0_missedBy_14 rfl oX0_has lX0_22 rfl rfl rfl (Nat.le_of_ble_eq_true rfl) (c_X0_has hc1) ?_
      refine PW_if_eq (tgt := 31) (pc' := 20) dX0_missedBy_17 rfl rfl (fun h17 => ?_) (fun h17 => ?_)
      · rw [s_has_rI hn5 (hr2 j hj6)] at h17
        have hz := s_isNone (bi_f h17)
        refine PW_iinc3 (pc' := 34) dX0_missedBy_31 rfl rfl rfl nI_inc ?_
        refine PW_goto (tgt := 4) dX0_missedBy_34 rfl ?_
        have e : s_miss H r (j + 1) = s_miss H r j := by simp [s_miss, hz]
        rw [← e]
        exact ih (m - 1) (by omega) (j + 1) (by omega)
      · rw [s_has_rI hn5 (hr2 j hj6)] at h17
        obtain ⟨t, ht⟩ := s_isSome (bi_t h17)
        have htn := hr2 j hj6 t ht
        refine PW_iload2 (pc' := 21) dX0_missedBy_20 rfl ?_
        refine PW_aload0 (pc' := 22) dX0_missedBy_21 rfl ?_
        refine PW_aload1 (pc' := 23) dX0_missedBy_22 rfl ?_
        refine PW_iload3 (pc' := 24) dX0_missedBy_23 rfl ?_
        refine PW_ialdn (pc' := 25) dX0_missedBy_24 rfl hpl rfl (by omega) ?_
        rw [(hrow j hj6).1, ht, s_rI_some]
        refine PW_iload3 (pc' := 26) dX0_missedBy_25 rfl ?_
        refine PW_callV2f (pc' := 29) dX0_missedBy_26 rfl oX0_missedByTake lX0_41 rfl rfl rfl (Nat.le_of_ble_eq_true rfl) (c_X0_missedByTake htn hj6 hH) ?_
        refine PW_iadd (pc' := 30) dX0_missedBy_29 rfl ?_
        rw [nI_add]
        refine PW_istore2 (pc' := 31) dX0_missedBy_30 rfl rfl rfl ?_
        refine PW_iinc3 (pc' := 34) dX0_missedBy_31 rfl rfl rfl nI_inc ?_
        refine PW_goto (tgt := 4) dX0_missedBy_34 rfl ?_
        have e : s_miss H r (j + 1) = s_miss H r j + s_miss1 H t j := by simp [s_miss, ht]
        rw [← e]
        exact ih (m - 1) (by omega) (j + 1) (by omega)
set_option maxHeartbeats 4000000 in
theorem c_X0_missedBy {Γ : pv_G} {d : Nat} {M : pv_M} {pl : Nat} {H : s_H} {r : Nat → Option Nat} (hpl : pv_lay pl = .inr (.inl (0, 6))) (hH : HX M H) (hrow : s_row M pl 6 H.1 r) : Ct Γ (d + 2) vX0_missedBy [.ref 10, .ref pl] M (pv_fn (some (.int (nI (s_miss H r 6)))) M) := by
  refine Ct.of oX0_missedBy.1 rfl (pad := 2) rfl ?_
  show PW Γ (d + 2) vX0_missedBy 0 [.ref 10, .ref pl, .null, .null] [] M _
  refine PW_iconst (pc' := 1) dX0_missedBy_0 rfl (v := nI (s_miss H r 0)) (by first | rfl | decide) ?_
  refine PW_istore2 (pc' := 2) dX0_missedBy_1 rfl rfl rfl ?_
  refine PW_iconst (pc' := 3) dX0_missedBy_2 rfl (v := nI 0) (by first | rfl | decide) ?_
  refine PW_istore3 (pc' := 4) dX0_missedBy_3 rfl rfl rfl ?_
  exact l_X0_missedBy hpl hH hrow 6 0 (by omega)
/-- in which of the first k hours' takes thing t is in its case -/
def s_hic (H : s_H) (r : Nat → Option Nat) (t : Nat) : Nat → Nat
  | 0 => 0
  | k + 1 => if r k = some t then s_hic H r t k ||| s_span (H.2.2.2 3 t) k else s_hic H r t k
theorem s_hic_lt {H : s_H} {r : Nat → Option Nat} {t : Nat} : ∀ k, s_hic H r t k < 64
  | 0 => by simp [s_hic]
  | k + 1 => by
    have ih := s_hic_lt (H := H) (r := r) (t := t) k
    simp only [s_hic]
    split
    · exact (bt_orn _ ih _ (s_span_lt _ _)).2
    · exact ih
set_option maxHeartbeats 4000000 in
theorem l_X0_hoursInCase {Γ : pv_G} {d : Nat} {M : pv_M} {pl t : Nat} {H : s_H} {r : Nat → Option Nat} (hpl : pv_lay pl = .inr (.inl (0, 6))) (htn : t < H.1) (hH : HX M H) (hrow : s_row M pl 6 H.1 r) :
    ∀ (m j : Nat), j + m = 6 → PW Γ (d + 1) vX0_hoursInCase 5 [.ref 10, .ref pl, .int (nI t), .int (nI (s_hic H r t j)), .int (nI j)] [] M (pv_fn (some (.int (nI (s_hic H r t 6)))) M) := by
  obtain ⟨hok, hc1, hc2, hc3, hf⟩ := id hH
  have hn5 := hok.1
  have hr2 : ∀ h, h < 6 → ∀ t, r h = some t → t < H.1 := fun h hh => (hrow h hh).2
  intro m
  induction m using Nat.strongRecOn with
  | ind m ih =>
    intro j hjm
    refine PW_iload4 (pc' := 7) dX0_hoursInCase_5 rfl ?_
    refine PW_bipush (pc' := 9) dX0_hoursInCase_7 rfl (v := nI 6) (by first | rfl | decide) ?_
    refine PW_icmp_ge (tgt := 48) (pc' := 12) dX0_hoursInCase_9 rfl rfl (fun h9 => ?_) (fun h9 => ?_)
    · have hj6 : j = 6 := by have := s_bge (by omega) (by omega) h9; omega
      subst hj6
      refine PW_iload3 (pc' := 49) dX0_hoursInCase_48 rfl ?_
      exact PW_ireturn .int dX0_hoursInCase_49 rfl rfl ⟨rfl, rfl⟩
    · have hj6 : j < 6 := s_bnd (by omega) (by omega) h9
      refine PW_aload1 (pc' := 13) dX0_hoursInCase_12 rfl ?_
      refine PW_iload4 (pc' := 15) dX0_hoursInCase_13 rfl ?_
      refine PW_ialdn (pc' := 16) dX0_hoursInCase_15 rfl hpl rfl (by omega) ?_
      rw [(hrow j hj6).1]
      refine PW_iload2 (pc' := 17) dX0_hoursInCase_16 rfl ?_
      refine PW_icmp_ne (tgt := 42) (pc' := 20) dX0_hoursInCase_17 rfl rfl (fun h17 => ?_) (fun h17 => ?_)
      · have hz : ¬ r j = some t := fun q => h17 ((s_rI_eq hn5 htn (hr2 j hj6)).mpr q)
        refine PW_iinc4 (pc' := 45) dX0_hoursInCase_42 rfl rfl rfl nI_inc ?_
        refine PW_goto (tgt := 5) dX0_hoursInCase_45 rfl ?_
        have e : s_hic H r t (j + 1) = s_hic H r t j := by simp [s_hic, hz]
        rw [← e]
        exact ih (m - 1) (by omega) (j + 1) (by omega)
      · have hz : r j = some t := (s_rI_eq hn5 htn (hr2 j hj6)).mp h17
        refine PW_aload0 (pc' := 21) dX0_hoursInCase_20 rfl ?_
        refine PW_iload2 (pc' := 22) dX0_hoursInCase_21 rfl ?_
        refine PW_callV1f (pc' := 25) dX0_hoursInCase_22 rfl oX0_has lX0_22 rfl rfl rfl (Nat.le_of_ble_eq_true rfl) (c_X0_has hc1) ?_
        refine PW_if_eq (tgt := 42) (pc' := 28) dX0_hoursInCase_25 rfl rfl (fun h25 => ?_) (fun h25 => ?_)
        · rw [s_has_nI hn5 htn] at h25
          exact absurd h25 (by decide)
        · refine PW_iload3 (pc' := 29) dX0_hoursInCase_28 rfl ?_
          refine PW_aload0 (pc' := 30) dX0_hoursInCase_29 rfl ?_
          refine PW_getR (pc' := 33) dX0_hoursInCase_30 rfl fX0_11 rfl rfl ?_
          refine PW_iload2 (pc' := 34) dX0_hoursInCase_33 rfl ?_
          refine PW_aald3 (pc' := 35) dX0_hoursInCase_34 rfl (by omega) ?_
          refine PW_iload4 (pc' := 37) dX0_hoursInCase_35 rfl ?_
          refine PW_callV1f (pc' := 40) dX0_hoursInCase_37 rfl oX5_span lX0_45 (pv_lay_thing (by omega)) rfl rfl (Nat.le_of_ble_eq_true rfl) (c_X5_span htn hj6 hH) ?_
          refine PW_ior (pc' := 41) dX0_hoursInCase_40 rfl ?_
          rw [(bt_orn _ (s_hic_lt _) _ (s_span_lt _ _)).1]
          refine PW_istore3 (pc' := 42) dX0_hoursInCase_41 rfl rfl rfl ?_
          refine PW_iinc4 (pc' := 45) dX0_hoursInCase_42 rfl rfl rfl nI_inc ?_
          refine PW_goto (tgt := 5) dX0_hoursInCase_45 rfl ?_
          have e : s_hic H r t (j + 1) = s_hic H r t j ||| s_span (H.2.2.2 3 t) j := by simp [s_hic, hz]
          rw [← e]
          exact ih (m - 1) (by omega) (j + 1) (by omega)
set_option maxHeartbeats 4000000 in
theorem c_X0_hoursInCase {Γ : pv_G} {d : Nat} {M : pv_M} {pl t : Nat} {H : s_H} {r : Nat → Option Nat} (hpl : pv_lay pl = .inr (.inl (0, 6))) (htn : t < H.1) (hH : HX M H) (hrow : s_row M pl 6 H.1 r) : Ct Γ (d + 1) vX0_hoursInCase [.ref 10, .ref pl, .int (nI t)] M (pv_fn (some (.int (nI (s_hic H r t 6)))) M) := by
  refine Ct.of oX0_hoursInCase.1 rfl (pad := 2) rfl ?_
  show PW Γ (d + 1) vX0_hoursInCase 0 [.ref 10, .ref pl, .int (nI t), .null, .null] [] M _
  refine PW_iconst (pc' := 1) dX0_hoursInCase_0 rfl (v := nI (s_hic H r t 0)) (by first | rfl | decide) ?_
  refine PW_istore3 (pc' := 2) dX0_hoursInCase_1 rfl rfl rfl ?_
  refine PW_iconst (pc' := 3) dX0_hoursInCase_2 rfl (v := nI 0) (by first | rfl | decide) ?_
  refine PW_istore4 (pc' := 5) dX0_hoursInCase_3 rfl rfl rfl ?_
  exact l_X0_hoursInCase hpl htn hH hrow 6 0 (by omega)
