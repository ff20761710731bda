/-! the class: its house of things, with loops -/
theorem s_rI_some (t : Nat) : s_rI (some t) = nI t := rfl
theorem s_bnd {a b : Nat} (ha : a < 2 ^ 31) (hb : b < 2 ^ 31) (h : ¬ nI a ≥ nI b) : a < b := by
  rcases Nat.lt_or_ge a b with h1 | h1
  · exact h1
  · exact absurd (nI_le h1 ha) h
theorem s_bge {a b : Nat} (ha : a < 2 ^ 31) (hb : b < 2 ^ 31) (h : nI a ≥ nI b) : b ≤ a := (nI_leI hb ha).mp h
theorem s_rI_eq {r : Option Nat} {t n : Nat} (hn : n ≤ 5) (ht : t < n) (hr : ∀ x, r = some x → x < n) : s_rI r = nI t ↔ r = some t := by
  cases r with
  | none =>
    constructor
    · intro h
      exfalso
      have h2 : ∀ t, t < 5 → ¬ (-9 : Int32) = nI t := by decide +kernel
      exact h2 t (by omega) h
    · intro h
      cases h
  | some x =>
    constructor
    · intro h
      have := hr x rfl
      rw [nI_inj (by omega) (by omega) h]
    · intro h
      cases h
      rfl
theorem s_isSome {r : Option Nat} (h : r.isSome = true) : ∃ t, r = some t := Option.isSome_iff_exists.mp h
theorem s_isNone {r : Option Nat} (h : r.isSome = false) : r = none := by cases r <;> simp_all
theorem bt_orn : ∀ a, a < 64 → ∀ b, b < 64 → nI a ||| nI b = nI (a ||| b) ∧ a ||| b < 64 := by decide +kernel
theorem bt_and1 : ∀ a, a < 4 → nI a &&& 1 = bi (a.testBit 0) := by decide +kernel
theorem bt_and2 : ∀ a, a < 4 → (nI a &&& 2 = 0 ↔ a.testBit 1 = false) := by decide +kernel
set_option maxHeartbeats 4000000 in
theorem l_X0_casesBy {Γ : pv_G} {d : Nat} {M : pv_M} {pl k hr : Nat} {H : s_H} {r : Nat → Option Nat} (hpl : pv_lay pl = .inr (.inl (0, 6))) (hk : k ≤ 6) (hh : hr < 6) (hH : HX M H) (hrow : s_row M pl k H.1 r) :
    ∀ (m j : Nat) (x : Value), j + m = k → PW Γ (d + 1) vX0_casesBy 6 [.ref 10, .ref pl, .int (nI k), .int (nI hr), .int (nI (s_cs H r hr j)), .int (nI j), x] [] M (pv_fn (some (.int (nI (s_cs H r hr k)))) M) := by
  obtain ⟨hok, hc1, hc2, hc3, hf⟩ := id hH
  intro m
  induction m using Nat.strongRecOn with
  | ind m ih =>
    intro j x hjm
    refine PW_iload5 (pc' := 8) dX0_casesBy_6 rfl ?_
    refine PW_iload2 (pc' := 9) dX0_casesBy_8 rfl ?_
    refine PW_icmp_ge (tgt := 59) (pc' := 12) dX0_casesBy_9 rfl rfl (fun h9 => ?_) (fun h9 => ?_)
    · have hjk : k = j := by have := s_bge (by omega) (by omega) h9; omega
      subst hjk
      refine PW_iload4 (pc' := 61) dX0_casesBy_59 rfl ?_
      exact PW_ireturn .int dX0_casesBy_61 rfl rfl ⟨rfl, rfl⟩
    · have hjk : j < k := s_bnd (by omega) (by omega) h9
      refine PW_aload1 (pc' := 13) dX0_casesBy_12 rfl ?_
      refine PW_iload5 (pc' := 15) dX0_casesBy_13 rfl ?_
      refine PW_ialdn (pc' := 16) dX0_casesBy_15 rfl hpl rfl (by omega) ?_
      refine PW_istore6 (pc' := 18) dX0_casesBy_16 rfl rfl rfl ?_
      rw [(hrow j hjk).1]
      refine PW_aload0 (pc' := 19) dX0_casesBy_18 rfl ?_
      refine PW_iload6 (pc' := 21) dX0_casesBy_19 rfl ?_
      refine PW_callV1f (pc' := 24) dX0_casesBy_21 rfl oX0_has lX0_22 rfl rfl rfl (Nat.le_of_ble_eq_true rfl) (c_X0_has hc1) ?_
      refine PW_if_eq (tgt := 53) (pc' := 27) dX0_casesBy_24 rfl rfl (fun h24 => ?_) (fun h24 => ?_)
      · rw [s_has_rI hok.1 (hrow j hjk).2] at h24
        have hz := s_isNone (bi_f h24)
        refine PW_iinc5 (pc' := 56) dX0_casesBy_53 rfl rfl rfl nI_inc ?_
        refine PW_goto (tgt := 6) dX0_casesBy_56 rfl ?_
        have e : s_cs H r hr (j + 1) = s_cs H r hr j := by simp [s_cs, hz]
        rw [← e]
        exact ih (m - 1) (by omega) (j + 1) _ (by omega)
      · rw [s_has_rI hok.1 (hrow j hjk).2] at h24
        obtain ⟨t, ht⟩ := s_isSome (bi_t h24)
        have htn := (hrow j hjk).2 t ht
        have hn5 := hok.1
        have hst := (hok.2.2.2 t htn).2.2.2.1
        rw [ht, s_rI_some]
        refine PW_iload5 (pc' := 29) dX0_casesBy_27 rfl ?_
        refine PW_aload0 (pc' := 30) dX0_casesBy_29 rfl ?_
        refine PW_getR (pc' := 33) dX0_casesBy_30 rfl fX0_11 rfl rfl ?_
        refine PW_iload6 (pc' := 35) dX0_casesBy_33 rfl ?_
        refine PW_aald3 (pc' := 36) dX0_casesBy_35 rfl (by omega) ?_
        refine PW_getI (pc' := 39) dX0_casesBy_36 rfl fX0_26 (pv_lay_thing (by omega)) rfl ?_
        rw [hf t htn 3 (by decide)]
        refine PW_iadd (pc' := 40) dX0_casesBy_39 rfl ?_
        rw [nI_add]
        refine PW_iload3 (pc' := 41) dX0_casesBy_40 rfl ?_
        refine PW_icmp_le (tgt := 53) (pc' := 44) dX0_casesBy_41 rfl rfl (fun h41 => ?_) (fun h41 => ?_)
        · have h41' := (nI_leI (by omega) (by omega)).mp h41
          refine PW_iinc5 (pc' := 56) dX0_casesBy_53 rfl rfl rfl nI_inc ?_
          refine PW_goto (tgt := 6) dX0_casesBy_56 rfl ?_
          have e : s_cs H r hr (j + 1) = s_cs H r hr j := by simp [s_cs, ht, Nat.not_lt.mpr h41']
          rw [← e]
          exact ih (m - 1) (by omega) (j + 1) _ (by omega)
        · have h41' : hr < j + H.2.2.2 3 t := by
            rcases Nat.lt_or_ge hr (j + H.2.2.2 3 t) with q | q
            · exact q
            · exact absurd (nI_le q (by omega)) h41
          refine PW_iload4 (pc' := 46) dX0_casesBy_44 rfl ?_
          refine PW_iconst (pc' := 47) dX0_casesBy_46 rfl (v := 1) (by first | rfl | decide) ?_
          refine PW_iload6 (pc' := 49) dX0_casesBy_47 rfl ?_
          refine PW_ishl (pc' := 50) dX0_casesBy_49 rfl ?_
          refine PW_ior (pc' := 51) dX0_casesBy_50 rfl ?_
          rw [(bt_or _ (s_cs_lt hok.1 j (fun h hh => (hrow h (by omega)).2)) t (by omega)).1]
          refine PW_istore4 (pc' := 53) dX0_casesBy_51 rfl rfl rfl ?_
          refine PW_iinc5 (pc' := 56) dX0_casesBy_53 rfl rfl rfl nI_inc ?_
          refine PW_goto (tgt := 6) dX0_casesBy_56 rfl ?_
          have e : s_cs H r hr (j + 1) = s_cs H r hr j ||| 2 ^ t := by simp [s_cs, ht, h41']
          rw [← e]
          exact ih (m - 1) (by omega) (j + 1) _ (by omega)
set_option maxHeartbeats 4000000 in
theorem c_X0_casesBy {Γ : pv_G} {d : Nat} {M : pv_M} {pl k hr : Nat} {H : s_H} {r : Nat → Option Nat} (hpl : pv_lay pl = .inr (.inl (0, 6))) (hk : k ≤ 6) (hh : hr < 6) (hH : HX M H) (hrow : s_row M pl k H.1 r) : Ct Γ (d + 1) vX0_casesBy [.ref 10, .ref pl, .int (nI k), .int (nI hr)] M (pv_fn (some (.int (nI (s_cs H r hr k)))) M) := by
  refine Ct.of oX0_casesBy.1 rfl (pad := 3) rfl ?_
  show PW Γ (d + 1) vX0_casesBy 0 [.ref 10, .ref pl, .int (nI k), .int (nI hr), .null, .null, .null] [] M _
  refine PW_iconst (pc' := 1) dX0_casesBy_0 rfl (v := nI (s_cs H r hr 0)) (by first | rfl | decide) ?_
  refine PW_istore4 (pc' := 3) dX0_casesBy_1 rfl rfl rfl ?_
  refine PW_iconst (pc' := 4) dX0_casesBy_3 rfl (v := nI 0) (by first | rfl | decide) ?_
  refine PW_istore5 (pc' := 6) dX0_casesBy_4 rfl rfl rfl ?_
  exact l_X0_casesBy hpl hk hh hH hrow k 0 _ (by omega)
theorem s_last_of {H : s_H} {t cs : Nat} (h : ∀ x, x < H.1 → x = t ∨ H.2.2.2 1 x ≠ H.2.2.2 1 t ∨ cs.testBit x = true) : s_last H t cs = true := by
  simp only [s_last, List.all_eq_true, List.mem_range, Bool.or_eq_true, decide_eq_true_eq]
  exact h
theorem s_last_no {H : s_H} {t cs x : Nat} (hx : x < H.1) (h1 : x ≠ t) (h2 : H.2.2.2 1 x = H.2.2.2 1 t) (h3 : cs.testBit x = false) : s_last H t cs = false := by
  rcases Bool.eq_false_or_eq_true (s_last H t cs) with h | h
  · simp only [s_last, List.all_eq_true, List.mem_range, Bool.or_eq_true, decide_eq_true_eq] at h
    rcases h x hx with q | q | q
    · exact absurd q h1
    · exact absurd h2 q
    · rw [h3] at q; cases q
  · exact h
set_option maxHeartbeats 4000000 in
theorem l_X0_isLast {Γ : pv_G} {d : Nat} {M : pv_M} {t cs : Nat} {H : s_H} (ht : t < H.1) (hcs : cs < 64) (hH : HX M H) :
    ∀ (m j : Nat), j + m = H.1 → (∀ x, x < j → x = t ∨ H.2.2.2 1 x ≠ H.2.2.2 1 t ∨ cs.testBit x = true) → PW Γ (d + 1) vX0_isLast 2 [.ref 10, .int (nI t), .int (nI cs), .int (nI j)] [] M (pv_fn (some (.int (bi (s_last H t cs)))) M) := by
  obtain ⟨hok, hc1, hc2, hc3, hf⟩ := id hH
  have hn5 := hok.1
  intro m
  induction m using Nat.strongRecOn with
  | ind m ih =>
    intro j hjm hall
    refine PW_iload3 (pc' := 3) dX0_isLast_2 rfl ?_
    refine PW_aload0 (pc' := 4) dX0_isLast_3 rfl ?_
    refine PW_getI (pc' := 7) dX0_isLast_4 rfl fX0_18 rfl rfl ?_
    rw [hc1]
    refine PW_icmp_ge (tgt := 52) (pc' := 10) dX0_isLast_7 rfl rfl (fun h7 => ?_) (fun h7 => ?_)
    · have hjn : j = H.1 := by have := s_bge (by omega) (by omega) h7; omega
      refine PW_iconst (pc' := 53) dX0_isLast_52 rfl (v := 1) (by first | rfl | decide) ?_
      exact PW_ireturn .boolean dX0_isLast_53 rfl rfl ⟨by rw [s_last_of (fun x hx => hall x (by omega))]; rfl, rfl⟩
    · have hjn : j < H.1 := s_bnd (by omega) (by omega) h7
      refine PW_iload3 (pc' := 11) dX0_isLast_10 rfl ?_
      refine PW_iload1 (pc' := 12) dX0_isLast_11 rfl ?_
      refine PW_icmp_eq (tgt := 46) (pc' := 15) dX0_isLast_12 rfl rfl (fun h12 => ?_) (fun h12 => ?_)
      · refine PW_iinc3 (pc' := 49) dX0_isLast_46 rfl rfl rfl nI_inc ?_
        refine PW_goto (tgt := 2) dX0_isLast_49 rfl ?_
        refine ih (m - 1) (by omega) (j + 1) (by omega) (fun x hx => ?_)
        rcases Nat.lt_succ_iff_lt_or_eq.mp hx with q | q
        · exact hall x q
        · rw [q]; exact Or.inl (nI_inj (by omega) (by omega) h12)
      · have hjt : j ≠ t := fun q => h12 (by rw [q])
        refine PW_aload0 (pc' := 16) dX0_isLast_15 rfl ?_
        refine PW_getR (pc' := 19) dX0_isLast_16 rfl fX0_11 rfl rfl ?_
        refine PW_iload3 (pc' := 20) dX0_isLast_19 rfl ?_
        refine PW_aald3 (pc' := 21) dX0_isLast_20 rfl (by omega) ?_
        refine PW_getI (pc' := 24) dX0_isLast_21 rfl fX0_59 (pv_lay_thing (by omega)) rfl ?_
        rw [hf j hjn 1 (by decide)]
        refine PW_aload0 (pc' := 25) dX0_isLast_24 rfl ?_
        refine PW_getR (pc' := 28) dX0_isLast_25 rfl fX0_11 rfl rfl ?_
        refine PW_iload1 (pc' := 29) dX0_isLast_28 rfl ?_
        refine PW_aald3 (pc' := 30) dX0_isLast_29 rfl (by omega) ?_
        refine PW_getI (pc' := 33) dX0_isLast_30 rfl fX0_59 (pv_lay_thing (by omega)) rfl ?_
        rw [hf t ht 1 (by decide)]
        refine PW_icmp_ne (tgt := 46) (pc' := 36) dX0_isLast_33 rfl rfl (fun h33 => ?_) (fun h33 => ?_)
        · refine PW_iinc3 (pc' := 49) dX0_isLast_46 rfl rfl rfl nI_inc ?_
          refine PW_goto (tgt := 2) dX0_isLast_49 rfl ?_
          refine ih (m - 1) (by omega) (j + 1) (by omega) (fun x hx => ?_)
          rcases Nat.lt_succ_iff_lt_or_eq.mp hx with q | q
          · exact hall x q
          · rw [q]; exact Or.inr (Or.inl (fun z => h33 (by rw [z])))
        · have hso : H.2.2.2 1 j = H.2.2.2 1 t := nI_inj (by have := (hok.2.2.2 j hjn).2.1; omega) (by have := (hok.2.2.2 t ht).2.1; omega) h33
          refine PW_iload2 (pc' := 37) dX0_isLast_36 rfl ?_
          refine PW_iload3 (pc' := 38) dX0_isLast_37 rfl ?_
          refine PW_callN2f (pc' := 41) dX0_isLast_38 rfl oX6_isIn ⟨rfl, rfl⟩ (Nat.le_of_ble_eq_true rfl) (c_X6_isIn hcs (by omega)) ?_
          refine PW_if_ne (tgt := 46) (pc' := 44) dX0_isLast_41 rfl rfl (fun h41 => ?_) (fun h41 => ?_)
          · refine PW_iinc3 (pc' := 49) dX0_isLast_46 rfl rfl rfl nI_inc ?_
            refine PW_goto (tgt := 2) dX0_isLast_49 rfl ?_
            refine ih (m - 1) (by omega) (j + 1) (by omega) (fun x hx => ?_)
            rcases Nat.lt_succ_iff_lt_or_eq.mp hx with q | q
            · exact hall x q
            · rw [q]; exact Or.inr (Or.inr (bi_t h41))
          · have hbt := bi_f h41
            refine PW_iconst (pc' := 45) dX0_isLast_44 rfl (v := 0) (by first | rfl | decide) ?_
            refine PW_ireturn .boolean dX0_isLast_45 rfl (by first | rfl | exact bi_nar _) ?_
            exact ⟨by rw [s_last_no hjn hjt hso hbt]; rfl, rfl⟩
set_option maxHeartbeats 4000000 in
theorem c_X0_isLast {Γ : pv_G} {d : Nat} {M : pv_M} {t cs : Nat} {H : s_H} (ht : t < H.1) (hcs : cs < 64) (hH : HX M H) : Ct Γ (d + 1) vX0_isLast [.ref 10, .int (nI t), .int (nI cs)] M (pv_fn (some (.int (bi (s_last H t cs)))) M) := by
  refine Ct.of oX0_isLast.1 rfl (pad := 1) rfl ?_
  show PW Γ (d + 1) vX0_isLast 0 [.ref 10, .int (nI t), .int (nI cs), .null] [] M _
  refine PW_iconst (pc' := 1) dX0_isLast_0 rfl (v := nI 0) (by first | rfl | decide) ?_
  refine PW_istore3 (pc' := 2) dX0_isLast_1 rfl rfl rfl ?_
  exact l_X0_isLast ht hcs hH H.1 0 (by omega) (fun x hx => absurd hx (Nat.not_lt_zero x))
set_option maxHeartbeats 4000000 in
theorem c_X0_gain {Γ : pv_G} {d : Nat} {M : pv_M} {t h cs lw : Nat} {H : s_H} (ht : t < H.1) (hh : h < 6) (hcs : cs < 64) (hlw : lw ≤ 3) (hH : HX M H) : Ct Γ (d + 2) vX0_gain [.ref 10, .int (nI t), .int (nI h), .int (nI cs), .int (nI lw)] M (pv_fn (some (.int (nI (s_gain H lw t h cs)))) M) := by
  obtain ⟨hok, hc1, hc2, hc3, hf⟩ := id hH
  have hn5 := hok.1
  have hu := (hok.2.2.2 t ht).2.2.2.2
  have hval := s_val_le hok ht
  refine Ct.of oX0_gain.1 rfl (pad := 2) rfl ?_
  show PW Γ (d + 2) vX0_gain 0 [.ref 10, .int (nI t), .int (nI h), .int (nI cs), .int (nI lw), .null, .null] [] M _
  refine PW_aload0 (pc' := 1) dX0_gain_0 rfl ?_
  refine PW_getR (pc' := 4) dX0_gain_1 rfl fX0_11 rfl rfl ?_
  refine PW_iload1 (pc' := 5) dX0_gain_4 rfl ?_
  refine PW_aald3 (pc' := 6) dX0_gain_5 rfl (by omega) ?_
  refine PW_astore5 (pc' := 8) dX0_gain_6 rfl rfl rfl ?_
  refine PW_aload5 (pc' := 10) dX0_gain_8 rfl ?_
  refine PW_callV0f (pc' := 13) dX0_gain_10 rfl oX5_value lX0_49 (pv_lay_thing (by omega)) rfl rfl (Nat.le_of_ble_eq_true rfl) (c_X5_value ht hH) ?_
  refine PW_istore6 (pc' := 15) dX0_gain_13 rfl rfl rfl ?_
  refine PW_iload4 (pc' := 17) dX0_gain_15 rfl ?_
  refine PW_iconst (pc' := 18) dX0_gain_17 rfl (v := 1) (by first | rfl | decide) ?_
  refine PW_iand (pc' := 19) dX0_gain_18 rfl ?_
  refine PW_if_eq (tgt := 44) (pc' := 22) dX0_gain_19 rfl rfl (fun h19 => ?_) (fun h19 => ?_)
  · rw [bt_and1 lw (by omega)] at h19
    have q0 := bi_f h19
    refine PW_iload4 (pc' := 46) dX0_gain_44 rfl ?_
    refine PW_iconst (pc' := 47) dX0_gain_46 rfl (v := 2) (by first | rfl | decide) ?_
    refine PW_iand (pc' := 48) dX0_gain_47 rfl ?_
    refine PW_if_eq (tgt := 63) (pc' := 51) dX0_gain_48 rfl rfl (fun h48 => ?_) (fun h48 => ?_)
    · have q2 := (bt_and2 lw (by omega)).mp h48
      refine PW_iload6 (pc' := 65) dX0_gain_63 rfl ?_
      refine PW_ireturn .int dX0_gain_65 rfl rfl ?_
      refine ⟨?_, rfl⟩
      have e5 : Int32.ofInt 5 = nI 5 := by decide
      first | rw [e5] | skip
      simp only [nI_add, s_gain]
      simp only [*, Bool.and_true, Bool.and_false, Bool.true_and, Bool.false_and, if_true, if_false, Nat.mul_one, Nat.add_zero, Nat.mul_two, Bool.false_eq_true]
    · have q2 : lw.testBit 1 = true := by
        rcases Bool.eq_false_or_eq_true (lw.testBit 1) with z | z
        · exact z
        · exact absurd ((bt_and2 lw (by omega)).mpr z) h48
      refine PW_aload0 (pc' := 52) dX0_gain_51 rfl ?_
      refine PW_iload1 (pc' := 53) dX0_gain_52 rfl ?_
      refine PW_iload3 (pc' := 54) dX0_gain_53 rfl ?_
      refine PW_callV2f (pc' := 57) dX0_gain_54 rfl oX0_isLast lX0_56 rfl rfl rfl (Nat.le_of_ble_eq_true rfl) (c_X0_isLast ht hcs hH) ?_
      refine PW_if_eq (tgt := 63) (pc' := 60) dX0_gain_57 rfl rfl (fun h57 => ?_) (fun h57 => ?_)
      · have q3 := bi_f h57
        refine PW_iload6 (pc' := 65) dX0_gain_63 rfl ?_
        refine PW_ireturn .int dX0_gain_65 rfl rfl ?_
        refine ⟨?_, rfl⟩
        have e5 : Int32.ofInt 5 = nI 5 := by decide
        first | rw [e5] | skip
        simp only [nI_add, s_gain]
        simp only [*, Bool.and_true, Bool.and_false, Bool.true_and, Bool.false_and, if_true, if_false, Nat.mul_one, Nat.add_zero, Nat.mul_two, Bool.false_eq_true]
      · have q3 := bi_t h57
        refine PW_iinc6 (pc' := 63) dX0_gain_60 rfl rfl rfl rfl ?_
        refine PW_iload6 (pc' := 65) dX0_gain_63 rfl ?_
        refine PW_ireturn .int dX0_gain_65 rfl rfl ?_
        refine ⟨?_, rfl⟩
        have e5 : Int32.ofInt 5 = nI 5 := by decide
        first | rw [e5] | skip
        simp only [nI_add, s_gain]
        simp only [*, Bool.and_true, Bool.and_false, Bool.true_and, Bool.false_and, if_true, if_false, Nat.mul_one, Nat.add_zero, Nat.mul_two, Bool.false_eq_true]
  · rw [bt_and1 lw (by omega)] at h19
    have q0 := bi_t h19
    refine PW_aload5 (pc' := 24) dX0_gain_22 rfl ?_
    refine PW_getI (pc' := 27) dX0_gain_24 rfl fX0_53 (pv_lay_thing (by omega)) rfl ?_
    rw [hf t ht 4 (by decide)]
    refine PW_iload2 (pc' := 28) dX0_gain_27 rfl ?_
    refine PW_callN2f (pc' := 31) dX0_gain_28 rfl oX6_isIn ⟨rfl, rfl⟩ (Nat.le_of_ble_eq_true rfl) (c_X6_isIn hu hh) ?_
    refine PW_if_eq (tgt := 44) (pc' := 34) dX0_gain_31 rfl rfl (fun h31 => ?_) (fun h31 => ?_)
    · have q1 := bi_f h31
      refine PW_iload4 (pc' := 46) dX0_gain_44 rfl ?_
      refine PW_iconst (pc' := 47) dX0_gain_46 rfl (v := 2) (by first | rfl | decide) ?_
      refine PW_iand (pc' := 48) dX0_gain_47 rfl ?_
      refine PW_if_eq (tgt := 63) (pc' := 51) dX0_gain_48 rfl rfl (fun h48 => ?_) (fun h48 => ?_)
      · have q2 := (bt_and2 lw (by omega)).mp h48
        refine PW_iload6 (pc' := 65) dX0_gain_63 rfl ?_
        refine PW_ireturn .int dX0_gain_65 rfl rfl ?_
        refine ⟨?_, rfl⟩
        have e5 : Int32.ofInt 5 = nI 5 := by decide
        first | rw [e5] | skip
        simp only [nI_add, s_gain]
        simp only [*, Bool.and_true, Bool.and_false, Bool.true_and, Bool.false_and, if_true, if_false, Nat.mul_one, Nat.add_zero, Nat.mul_two, Bool.false_eq_true]
      · have q2 : lw.testBit 1 = true := by
          rcases Bool.eq_false_or_eq_true (lw.testBit 1) with z | z
          · exact z
          · exact absurd ((bt_and2 lw (by omega)).mpr z) h48
        refine PW_aload0 (pc' := 52) dX0_gain_51 rfl ?_
        refine PW_iload1 (pc' := 53) dX0_gain_52 rfl ?_
        refine PW_iload3 (pc' := 54) dX0_gain_53 rfl ?_
        refine PW_callV2f (pc' := 57) dX0_gain_54 rfl oX0_isLast lX0_56 rfl rfl rfl (Nat.le_of_ble_eq_true rfl) (c_X0_isLast ht hcs hH) ?_
        refine PW_if_eq (tgt := 63) (pc' := 60) dX0_gain_57 rfl rfl (fun h57 => ?_) (fun h57 => ?_)
        · have q3 := bi_f h57
          refine PW_iload6 (pc' := 65) dX0_gain_63 rfl ?_
          refine PW_ireturn .int dX0_gain_65 rfl rfl ?_
          refine ⟨?_, rfl⟩
          have e5 : Int32.ofInt 5 = nI 5 := by decide
          first | rw [e5] | skip
          simp only [nI_add, s_gain]
          simp only [*, Bool.and_true, Bool.and_false, Bool.true_and, Bool.false_and, if_true, if_false, Nat.mul_one, Nat.add_zero, Nat.mul_two, Bool.false_eq_true]
        · have q3 := bi_t h57
          refine PW_iinc6 (pc' := 63) dX0_gain_60 rfl rfl rfl rfl ?_
          refine PW_iload6 (pc' := 65) dX0_gain_63 rfl ?_
          refine PW_ireturn .int dX0_gain_65 rfl rfl ?_
          refine ⟨?_, rfl⟩
          have e5 : Int32.ofInt 5 = nI 5 := by decide
          first | rw [e5] | skip
          simp only [nI_add, s_gain]
          simp only [*, Bool.and_true, Bool.and_false, Bool.true_and, Bool.false_and, if_true, if_false, Nat.mul_one, Nat.add_zero, Nat.mul_two, Bool.false_eq_true]
    · have q1 := bi_t h31
      refine PW_iload6 (pc' := 36) dX0_gain_34 rfl ?_
      refine PW_aload5 (pc' := 38) dX0_gain_36 rfl ?_
      refine PW_callV0f (pc' := 41) dX0_gain_38 rfl oX5_value lX0_49 (pv_lay_thing (by omega)) rfl rfl (Nat.le_of_ble_eq_true rfl) (c_X5_value ht hH) ?_
      refine PW_iadd (pc' := 42) dX0_gain_41 rfl ?_
      refine PW_istore6 (pc' := 44) dX0_gain_42 rfl rfl rfl ?_
      refine PW_iload4 (pc' := 46) dX0_gain_44 rfl ?_
      refine PW_iconst (pc' := 47) dX0_gain_46 rfl (v := 2) (by first | rfl | decide) ?_
      refine PW_iand (pc' := 48) dX0_gain_47 rfl ?_
      refine PW_if_eq (tgt := 63) (pc' := 51) dX0_gain_48 rfl rfl (fun h48 => ?_) (fun h48 => ?_)
      · have q2 := (bt_and2 lw (by omega)).mp h48
        refine PW_iload6 (pc' := 65) dX0_gain_63 rfl ?_
        refine PW_ireturn .int dX0_gain_65 rfl rfl ?_
        refine ⟨?_, rfl⟩
        have e5 : Int32.ofInt 5 = nI 5 := by decide
        first | rw [e5] | skip
        simp only [nI_add, s_gain]
        simp only [*, Bool.and_true, Bool.and_false, Bool.true_and, Bool.false_and, if_true, if_false, Nat.mul_one, Nat.add_zero, Nat.mul_two, Bool.false_eq_true]
      · have q2 : lw.testBit 1 = true := by
          rcases Bool.eq_false_or_eq_true (lw.testBit 1) with z | z
          · exact z
          · exact absurd ((bt_and2 lw (by omega)).mpr z) h48
        refine PW_aload0 (pc' := 52) dX0_gain_51 rfl ?_
        refine PW_iload1 (pc' := 53) dX0_gain_52 rfl ?_
        refine PW_iload3 (pc' := 54) dX0_gain_53 rfl ?_
        refine PW_callV2f (pc' := 57) dX0_gain_54 rfl oX0_isLast lX0_56 rfl rfl rfl (Nat.le_of_ble_eq_true rfl) (c_X0_isLast ht hcs hH) ?_
        refine PW_if_eq (tgt := 63) (pc' := 60) dX0_gain_57 rfl rfl (fun h57 => ?_) (fun h57 => ?_)
        · have q3 := bi_f h57
          refine PW_iload6 (pc' := 65) dX0_gain_63 rfl ?_
          refine PW_ireturn .int dX0_gain_65 rfl rfl ?_
          refine ⟨?_, rfl⟩
          have e5 : Int32.ofInt 5 = nI 5 := by decide
          first | rw [e5] | skip
          simp only [nI_add, s_gain]
          simp only [*, Bool.and_true, Bool.and_false, Bool.true_and, Bool.false_and, if_true, if_false, Nat.mul_one, Nat.add_zero, Nat.mul_two, Bool.false_eq_true]
        · have q3 := bi_t h57
          refine PW_iinc6 (pc' := 63) dX0_gain_60 rfl rfl rfl rfl ?_
          refine PW_iload6 (pc' := 65) dX0_gain_63 rfl ?_
          refine PW_ireturn .int dX0_gain_65 rfl rfl ?_
          refine ⟨?_, rfl⟩
          have e5 : Int32.ofInt 5 = nI 5 := by decide
          first | rw [e5] | skip
          simp only [nI_add, s_gain]
          simp only [*, Bool.and_true, Bool.and_false, Bool.true_and, Bool.false_and, if_true, if_false, Nat.mul_one, Nat.add_zero, Nat.mul_two, Bool.false_eq_true]
