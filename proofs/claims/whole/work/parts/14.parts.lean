/-! the class: readings, searches of all rounds, sheets -/
theorem p2_lt : ∀ t, t < 6 → 2 ^ t < 64 := by decide
abbrev s_R : Type := Nat × (Nat → Nat) × (Nat → Nat) × (Nat → Bool)
def RX (M : pv_M) (n : Nat) (rd : s_R) : Prop := M 17 3 = nI rd.1 ∧ rd.1 ≤ 8 ∧ ∀ i, i < rd.1 → (M 18 i = nI (rd.2.1 i) ∧ rd.2.1 i < n) ∧ (M 19 i = nI (rd.2.2.1 i) ∧ rd.2.2.1 i < 6) ∧ M 20 i = bi (rd.2.2.2 i)
theorem RX.fr {S : List Nat} {M M' : pv_M} {n : Nat} {rd : s_R} (h : RX M n rd) (hf : fr S M M') (h1 : 17 ∉ S ∧ 18 ∉ S ∧ 19 ∉ S ∧ 20 ∉ S) : RX M' n rd := by
  obtain ⟨a, b, c⟩ := h
  refine ⟨by rw [hf 17 h1.1]; exact a, b, fun i hi => ?_⟩
  rw [hf 18 h1.2.1, hf 19 h1.2.2.1, hf 20 h1.2.2.2]
  exact c i hi
/-- of the first k readings those of hour h that say b: their things -/
def s_mask (rd : s_R) (b : Bool) (h : Nat) : Nat → Nat
  | 0 => 0
  | k + 1 => if rd.2.2.2 k = b ∧ rd.2.2.1 k = h then s_mask rd b h k ||| 2 ^ rd.2.1 k else s_mask rd b h k
theorem s_mask_lt {rd : s_R} {b : Bool} {h n : Nat} (hn : n ≤ 5) : ∀ k, (∀ i, i < k → rd.2.1 i < n) → s_mask rd b h k < 64
  | 0, _ => by simp [s_mask]
  | k + 1, hr => by
    have ih := s_mask_lt (b := b) (h := h) hn k (fun i hi => hr i (by omega))
    have := hr k (by omega)
    simp only [s_mask]
    split
    · exact (bt_or _ ih _ (by omega)).2
    · exact ih
theorem vp_nar_bool (b : Bool) : vp_nar .boolean (bi b) = bi b := by cases b <;> rfl
set_option maxHeartbeats 4000000 in
theorem l_X1_bind {Γ : pv_G} {d n : Nat} {rd : s_R} (hn : n ≤ 5) : ∀ (m j : Nat) (M0 M : pv_M) (x3 : Value), j + m = rd.1 → RX M n rd → fr [26, 27] M0 M → (∀ h, h < 6 → M 26 h = nI (s_mask rd true h j) ∧ M 27 h = nI (s_mask rd false h j)) →
    PW Γ d vX1_bind 2 [.ref 17, .ref 21, .int (nI j), x3] [] M (fun r M' => r = none ∧ (fr [26, 27] M0 M' ∧ ∀ h, h < 6 → M' 26 h = nI (s_mask rd true h rd.1) ∧ M' 27 h = nI (s_mask rd false h rd.1))) := by
  intro m
  induction m using Nat.strongRecOn with
  | ind m ih =>
    intro j M0 M x3 hjm hR hfr hall
    obtain ⟨r1, r2, r3⟩ := id hR
    refine PW_iload2 (pc' := 3) dX1_bind_2 rfl ?_
    refine PW_aload0 (pc' := 4) dX1_bind_3 rfl ?_
    refine PW_getI (pc' := 7) dX1_bind_4 rfl fX1_22 rfl rfl ?_
    rw [r1]
    refine PW_icmp_ge (tgt := 56) (pc' := 10) dX1_bind_7 rfl rfl (fun h7 => ?_) (fun h7 => ?_)
    · have hj : j = rd.1 := by have := s_bge (by omega) (by omega) h7; omega
      subst hj
      exact PW_return dX1_bind_56 rfl ⟨rfl, hfr, hall⟩
    · have hj : j < rd.1 := s_bnd (by omega) (by omega) h7
      obtain ⟨⟨r4, r4b⟩, ⟨r5, r5b⟩, r3⟩ := r3 j hj
      have hth : ∀ i, i < j → rd.2.1 i < n := fun i hi => (hR.2.2 i (by omega)).1.2
      refine PW_aload0 (pc' := 11) dX1_bind_10 rfl ?_
      refine PW_getR (pc' := 14) dX1_bind_11 rfl fX1_18 rfl rfl ?_
      refine PW_iload2 (pc' := 15) dX1_bind_14 rfl ?_
      refine PW_zaldn (pc' := 16) dX1_bind_15 rfl rfl rfl (by omega) ?_
      rw [r3]
      refine PW_if_eq (tgt := 26) (pc' := 19) dX1_bind_16 rfl rfl (fun h16 => ?_) (fun h16 => ?_)
      · have hb := bi_f h16
        refine PW_aload1 (pc' := 27) dX1_bind_26 rfl ?_
        refine PW_getR (pc' := 30) dX1_bind_27 rfl fX1_31 rfl rfl ?_
        refine PW_astore3 (pc' := 31) dX1_bind_30 rfl rfl rfl ?_
        refine PW_aload3 (pc' := 32) dX1_bind_31 rfl ?_
        refine PW_aload0 (pc' := 33) dX1_bind_32 rfl ?_
        refine PW_getR (pc' := 36) dX1_bind_33 rfl fX1_15 rfl rfl ?_
        refine PW_iload2 (pc' := 37) dX1_bind_36 rfl ?_
        rw [show (nI j) = nI j from rfl]
        refine PW_ialdn (pc' := 38) dX1_bind_37 rfl rfl rfl (by omega) ?_
        rw [r5]
        refine PW_dup2IR (pc' := 39) dX1_bind_38 rfl ?_
        refine PW_ialdn (pc' := 40) dX1_bind_39 rfl rfl rfl r5b ?_
        refine PW_iconst (pc' := 41) dX1_bind_40 rfl (v := 1) (by first | rfl | decide) ?_
        refine PW_aload0 (pc' := 42) dX1_bind_41 rfl ?_
        refine PW_getR (pc' := 45) dX1_bind_42 rfl fX1_9 rfl rfl ?_
        refine PW_iload2 (pc' := 46) dX1_bind_45 rfl ?_
        refine PW_ialdn (pc' := 47) dX1_bind_46 rfl rfl rfl (by omega) ?_
        rw [r4]
        refine PW_ishl (pc' := 48) dX1_bind_47 rfl ?_
        rw [bt_one _ (by omega)]
        refine PW_ior (pc' := 49) dX1_bind_48 rfl ?_
        refine PW_iastn (pc' := 50) dX1_bind_49 rfl rfl rfl r5b ?_
        refine PW_iinc2 (pc' := 53) dX1_bind_50 rfl rfl rfl nI_inc ?_
        refine PW_goto (tgt := 2) dX1_bind_53 rfl ?_
        refine ih (m - 1) (by omega) (j + 1) M0 _ _ (by omega) (hR.fr (S := [26, 27]) (fr.up fr.rf (by decide)) (by decide)) (hfr.up (by decide)) (fun h hh => ?_)
        obtain ⟨a1, a2⟩ := hall h hh
        have e1 := (hall _ r5b).1
        have e2 := (hall _ r5b).2
        have b1 := (bt_orn _ (s_mask_lt (rd := rd) (b := true) (h := rd.2.2.1 j) hn j hth) _ (p2_lt (rd.2.1 j) (by omega))).1
        have b2 := (bt_orn _ (s_mask_lt (rd := rd) (b := false) (h := rd.2.2.1 j) hn j hth) _ (p2_lt (rd.2.1 j) (by omega))).1
        by_cases hq : rd.2.2.1 j = h
        · subst hq
          simp [pv_up_at, s_mask, hb, a1, a2, b1, b2]
        · simp [pv_up_at, s_mask, hq, Ne.symm hq, a1, a2]
      · have hb := bi_t h16
        refine PW_aload1 (pc' := 20) dX1_bind_19 rfl ?_
        refine PW_getR (pc' := 23) dX1_bind_20 rfl fX1_26 rfl rfl ?_
        refine PW_goto (tgt := 30) dX1_bind_23 rfl ?_
        refine PW_astore3 (pc' := 31) dX1_bind_30 rfl rfl rfl ?_
        refine PW_aload3 (pc' := 32) dX1_bind_31 rfl ?_
        refine PW_aload0 (pc' := 33) dX1_bind_32 rfl ?_
        refine PW_getR (pc' := 36) dX1_bind_33 rfl fX1_15 rfl rfl ?_
        refine PW_iload2 (pc' := 37) dX1_bind_36 rfl ?_
        rw [show (nI j) = nI j from rfl]
        refine PW_ialdn (pc' := 38) dX1_bind_37 rfl rfl rfl (by omega) ?_
        rw [r5]
        refine PW_dup2IR (pc' := 39) dX1_bind_38 rfl ?_
        refine PW_ialdn (pc' := 40) dX1_bind_39 rfl rfl rfl r5b ?_
        refine PW_iconst (pc' := 41) dX1_bind_40 rfl (v := 1) (by first | rfl | decide) ?_
        refine PW_aload0 (pc' := 42) dX1_bind_41 rfl ?_
        refine PW_getR (pc' := 45) dX1_bind_42 rfl fX1_9 rfl rfl ?_
        refine PW_iload2 (pc' := 46) dX1_bind_45 rfl ?_
        refine PW_ialdn (pc' := 47) dX1_bind_46 rfl rfl rfl (by omega) ?_
        rw [r4]
        refine PW_ishl (pc' := 48) dX1_bind_47 rfl ?_
        rw [bt_one _ (by omega)]
        refine PW_ior (pc' := 49) dX1_bind_48 rfl ?_
        refine PW_iastn (pc' := 50) dX1_bind_49 rfl rfl rfl r5b ?_
        refine PW_iinc2 (pc' := 53) dX1_bind_50 rfl rfl rfl nI_inc ?_
        refine PW_goto (tgt := 2) dX1_bind_53 rfl ?_
        refine ih (m - 1) (by omega) (j + 1) M0 _ _ (by omega) (hR.fr (S := [26, 27]) (fr.up fr.rf (by decide)) (by decide)) (hfr.up (by decide)) (fun h hh => ?_)
        obtain ⟨a1, a2⟩ := hall h hh
        have e1 := (hall _ r5b).1
        have e2 := (hall _ r5b).2
        have b1 := (bt_orn _ (s_mask_lt (rd := rd) (b := true) (h := rd.2.2.1 j) hn j hth) _ (p2_lt (rd.2.1 j) (by omega))).1
        have b2 := (bt_orn _ (s_mask_lt (rd := rd) (b := false) (h := rd.2.2.1 j) hn j hth) _ (p2_lt (rd.2.1 j) (by omega))).1
        by_cases hq : rd.2.2.1 j = h
        · subst hq
          simp [pv_up_at, s_mask, hb, a1, a2, b1, b2]
        · simp [pv_up_at, s_mask, hq, Ne.symm hq, a1, a2]
set_option maxHeartbeats 4000000 in
theorem c_X1_bind {Γ : pv_G} {d : Nat} {M : pv_M} {n : Nat} {rd : s_R} (hn : n ≤ 5) (hR : RX M n rd) (h0 : ∀ h, h < 6 → M 26 h = 0 ∧ M 27 h = 0) : Ct Γ d vX1_bind [.ref 17, .ref 21] M (fun r M' => r = none ∧ (fr [26, 27] M M' ∧ ∀ h, h < 6 → M' 26 h = nI (s_mask rd true h rd.1) ∧ M' 27 h = nI (s_mask rd false h rd.1))) := by
  refine Ct.of oX1_bind.1 rfl (pad := 2) rfl ?_
  show PW Γ d vX1_bind 0 [.ref 17, .ref 21, .null, .null] [] M _
  refine PW_iconst (pc' := 1) dX1_bind_0 rfl (v := nI 0) (by first | rfl | decide) ?_
  refine PW_istore2 (pc' := 2) dX1_bind_1 rfl rfl rfl ?_
  exact l_X1_bind hn rd.1 0 M M _ (by omega) hR fr.rf (fun h hh => h0 h hh)
set_option maxHeartbeats 4000000 in
theorem c_X1_add {Γ : pv_G} {d : Nat} {M : pv_M} {c : Nat} {t h w : Int32} (hc : M 17 3 = nI c) (hc8 : c ≤ 8) (hw : vp_nar .boolean w = w) : Ct Γ d vX1_add [.ref 17, .int t, .int h, .int w] M (pv_fn (some (.int (if c < 8 then nI c else -4))) (if c < 8 then pv_up (pv_up (pv_up (pv_up M 18 c t) 19 c h) 20 c w) 17 3 (nI (c + 1)) else M)) := by
  refine Ct.of oX1_add.1 rfl (pad := 0) rfl ?_
  show PW Γ d vX1_add 0 [.ref 17, .int t, .int h, .int w] [] M _
  refine PW_aload0 (pc' := 1) dX1_add_0 rfl ?_
  refine PW_getI (pc' := 4) dX1_add_1 rfl fX1_22 rfl rfl ?_
  rw [hc]
  refine PW_bipush (pc' := 6) dX1_add_4 rfl (v := 8) (by first | rfl | decide) ?_
  refine PW_icmp_lt (tgt := 12) (pc' := 9) dX1_add_6 rfl rfl (fun h6 => ?_) (fun h6 => ?_)
  · have hlt : c < 8 := (nI_ltI (b := 8) (by omega) (by decide)).mp h6
    refine PW_aload0 (pc' := 13) dX1_add_12 rfl ?_
    refine PW_getR (pc' := 16) dX1_add_13 rfl fX1_9 rfl rfl ?_
    refine PW_aload0 (pc' := 17) dX1_add_16 rfl ?_
    refine PW_getI (pc' := 20) dX1_add_17 rfl fX1_22 rfl rfl ?_
    rw [hc]
    refine PW_iload1 (pc' := 21) dX1_add_20 rfl ?_
    refine PW_iastn (pc' := 22) dX1_add_21 rfl rfl rfl (by omega) ?_
    refine PW_aload0 (pc' := 23) dX1_add_22 rfl ?_
    refine PW_getR (pc' := 26) dX1_add_23 rfl fX1_15 rfl rfl ?_
    refine PW_aload0 (pc' := 27) dX1_add_26 rfl ?_
    refine PW_getI (pc' := 30) dX1_add_27 rfl fX1_22 rfl rfl ?_
    rw [show (pv_up M 18 c t) 17 3 = nI c from hc]
    refine PW_iload2 (pc' := 31) dX1_add_30 rfl ?_
    refine PW_iastn (pc' := 32) dX1_add_31 rfl rfl rfl (by omega) ?_
    refine PW_aload0 (pc' := 33) dX1_add_32 rfl ?_
    refine PW_getR (pc' := 36) dX1_add_33 rfl fX1_18 rfl rfl ?_
    refine PW_aload0 (pc' := 37) dX1_add_36 rfl ?_
    refine PW_getI (pc' := 40) dX1_add_37 rfl fX1_22 rfl rfl ?_
    rw [show (pv_up (pv_up M 18 c t) 19 c h) 17 3 = nI c from hc]
    refine PW_iload3 (pc' := 41) dX1_add_40 rfl ?_
    refine PW_zastn (pc' := 42) dX1_add_41 rfl rfl rfl (by omega) hw ?_
    refine PW_aload0 (pc' := 43) dX1_add_42 rfl ?_
    refine PW_dupR (pc' := 44) dX1_add_43 rfl ?_
    refine PW_getI (pc' := 47) dX1_add_44 rfl fX1_22 rfl rfl ?_
    rw [show (pv_up (pv_up (pv_up M 18 c t) 19 c h) 20 c w) 17 3 = nI c from hc]
    refine PW_dup_x1R (pc' := 48) dX1_add_47 rfl ?_
    refine PW_iconst (pc' := 49) dX1_add_48 rfl (v := 1) (by first | rfl | decide) ?_
    refine PW_iadd (pc' := 50) dX1_add_49 rfl ?_
    rw [nI_1]
    refine PW_putI (pc' := 53) dX1_add_50 rfl fX1_22 w1_3 rfl rfl ?_
    refine PW_ireturn .int dX1_add_53 rfl rfl ?_
    exact ⟨by rw [if_pos hlt], by rw [if_pos hlt]⟩
  · have hlt : ¬ c < 8 := fun z => h6 ((nI_ltI (b := 8) (by omega) (by decide)).mpr z)
    refine PW_bipush (pc' := 11) dX1_add_9 rfl (v := -4) (by first | rfl | decide) ?_
    refine PW_ireturn .int dX1_add_11 rfl rfl ?_
    exact ⟨by rw [if_neg hlt], by rw [if_neg hlt]⟩
def v_holds (len i n : Int32) : Bool := !decide (i < 0) && (!decide (i > len) && (!decide (n < 0) && !decide (n > len - i)))
def v_foc (there lane len asL i n : Int32) : Int32 := if there = 0 then 1 else if ¬ lane = asL then 2 else if n < 0 then 4 else if v_holds len i n = true then 0 else 3
def v_cut (lane v : Int32) : Int32 := if lane = 0 then v.toInt8.toInt32 else if lane = 1 then v.toInt16.toInt32 else v
set_option maxHeartbeats 4000000 in
theorem c_X3_holds {Γ : pv_G} {d : Nat} {M : pv_M} {k : Nat} {i n : Int32} (hk : k < 4) : Ct Γ d vX3_holds [.ref (2 + k), .int i, .int n] M (pv_fn (some (.int (bi (v_holds (M (2 + k) 3) i n)))) M) := by
  refine Ct.of oX3_holds.1 rfl (pad := 0) rfl ?_
  show PW Γ d vX3_holds 0 [.ref (2 + k), .int i, .int n] [] M _
  refine PW_iload1 (pc' := 1) dX3_holds_0 rfl ?_
  refine PW_if_lt (tgt := 30) (pc' := 4) dX3_holds_1 rfl rfl (fun h1 => ?_) (fun h1 => ?_)
  · refine PW_iconst (pc' := 31) dX3_holds_30 rfl (v := 0) (by first | rfl | decide) ?_
    refine PW_ireturn .boolean dX3_holds_31 rfl (by first | rfl | exact bi_nar _) ?_
    refine ⟨?_, rfl⟩
    first | rw [bi_zero (show v_holds (M (2 + k) 3) i n = false by simp_all [v_holds])] | rw [bi_one (show v_holds (M (2 + k) 3) i n = true by simp_all [v_holds])]
  · refine PW_iload1 (pc' := 5) dX3_holds_4 rfl ?_
    refine PW_aload0 (pc' := 6) dX3_holds_5 rfl ?_
    refine PW_getI (pc' := 9) dX3_holds_6 rfl fX3_23 (pv_lay_sheet (by omega)) rfl ?_
    refine PW_icmp_gt (tgt := 30) (pc' := 12) dX3_holds_9 rfl rfl (fun h9 => ?_) (fun h9 => ?_)
    · refine PW_iconst (pc' := 31) dX3_holds_30 rfl (v := 0) (by first | rfl | decide) ?_
      refine PW_ireturn .boolean dX3_holds_31 rfl (by first | rfl | exact bi_nar _) ?_
      refine ⟨?_, rfl⟩
      first | rw [bi_zero (show v_holds (M (2 + k) 3) i n = false by simp_all [v_holds])] | rw [bi_one (show v_holds (M (2 + k) 3) i n = true by simp_all [v_holds])]
    · refine PW_iload2 (pc' := 13) dX3_holds_12 rfl ?_
      refine PW_if_lt (tgt := 30) (pc' := 16) dX3_holds_13 rfl rfl (fun h13 => ?_) (fun h13 => ?_)
      · refine PW_iconst (pc' := 31) dX3_holds_30 rfl (v := 0) (by first | rfl | decide) ?_
        refine PW_ireturn .boolean dX3_holds_31 rfl (by first | rfl | exact bi_nar _) ?_
        refine ⟨?_, rfl⟩
        first | rw [bi_zero (show v_holds (M (2 + k) 3) i n = false by simp_all [v_holds])] | rw [bi_one (show v_holds (M (2 + k) 3) i n = true by simp_all [v_holds])]
      · refine PW_iload2 (pc' := 17) dX3_holds_16 rfl ?_
        refine PW_aload0 (pc' := 18) dX3_holds_17 rfl ?_
        refine PW_getI (pc' := 21) dX3_holds_18 rfl fX3_23 (pv_lay_sheet (by omega)) rfl ?_
        refine PW_iload1 (pc' := 22) dX3_holds_21 rfl ?_
        refine PW_isub (pc' := 23) dX3_holds_22 rfl ?_
        refine PW_icmp_gt (tgt := 30) (pc' := 26) dX3_holds_23 rfl rfl (fun h23 => ?_) (fun h23 => ?_)
        · refine PW_iconst (pc' := 31) dX3_holds_30 rfl (v := 0) (by first | rfl | decide) ?_
          refine PW_ireturn .boolean dX3_holds_31 rfl (by first | rfl | exact bi_nar _) ?_
          refine ⟨?_, rfl⟩
          first | rw [bi_zero (show v_holds (M (2 + k) 3) i n = false by simp_all [v_holds])] | rw [bi_one (show v_holds (M (2 + k) 3) i n = true by simp_all [v_holds])]
        · refine PW_iconst (pc' := 27) dX3_holds_26 rfl (v := 1) (by first | rfl | decide) ?_
          refine PW_goto (tgt := 31) dX3_holds_27 rfl ?_
          refine PW_ireturn .boolean dX3_holds_31 rfl (by first | rfl | exact bi_nar _) ?_
          refine ⟨?_, rfl⟩
          first | rw [bi_zero (show v_holds (M (2 + k) 3) i n = false by simp_all [v_holds])] | rw [bi_one (show v_holds (M (2 + k) 3) i n = true by simp_all [v_holds])]
set_option maxHeartbeats 4000000 in
theorem c_X3_faultOfCells {Γ : pv_G} {d : Nat} {M : pv_M} {k : Nat} {l i n : Int32} (hk : k < 4) : Ct Γ (d + 1) vX3_faultOfCells [.ref (2 + k), .int l, .int i, .int n] M (pv_fn (some (.int (v_foc (M (2 + k) 1) (M (2 + k) 2) (M (2 + k) 3) l i n))) M) := by
  refine Ct.of oX3_faultOfCells.1 rfl (pad := 0) rfl ?_
  show PW Γ (d + 1) vX3_faultOfCells 0 [.ref (2 + k), .int l, .int i, .int n] [] M _
  refine PW_aload0 (pc' := 1) dX3_faultOfCells_0 rfl ?_
  refine PW_getI (pc' := 4) dX3_faultOfCells_1 rfl fX3_15 (pv_lay_sheet (by omega)) rfl ?_
  refine PW_if_ne (tgt := 9) (pc' := 7) dX3_faultOfCells_4 rfl rfl (fun h4 => ?_) (fun h4 => ?_)
  · refine PW_aload0 (pc' := 10) dX3_faultOfCells_9 rfl ?_
    refine PW_getI (pc' := 13) dX3_faultOfCells_10 rfl fX3_19 (pv_lay_sheet (by omega)) rfl ?_
    refine PW_iload1 (pc' := 14) dX3_faultOfCells_13 rfl ?_
    refine PW_icmp_eq (tgt := 19) (pc' := 17) dX3_faultOfCells_14 rfl rfl (fun h14 => ?_) (fun h14 => ?_)
    · refine PW_iload3 (pc' := 20) dX3_faultOfCells_19 rfl ?_
      refine PW_if_ge (tgt := 25) (pc' := 23) dX3_faultOfCells_20 rfl rfl (fun h20 => ?_) (fun h20 => ?_)
      · refine PW_aload0 (pc' := 26) dX3_faultOfCells_25 rfl ?_
        refine PW_iload2 (pc' := 27) dX3_faultOfCells_26 rfl ?_
        refine PW_iload3 (pc' := 28) dX3_faultOfCells_27 rfl ?_
        refine PW_callV2f (pc' := 31) dX3_faultOfCells_28 rfl oX3_holds lX3_26 (pv_lay_sheet (by omega)) rfl rfl (Nat.le_of_ble_eq_true rfl) (c_X3_holds hk) ?_
        refine PW_if_eq (tgt := 38) (pc' := 34) dX3_faultOfCells_31 rfl rfl (fun h31 => ?_) (fun h31 => ?_)
        · have q := bi_f h31
          refine PW_iconst (pc' := 39) dX3_faultOfCells_38 rfl (v := 3) (by first | rfl | decide) ?_
          refine PW_ireturn .int dX3_faultOfCells_39 rfl rfl ?_
          refine ⟨?_, rfl⟩
          simp_all [v_foc]
        · have q := bi_t h31
          refine PW_iconst (pc' := 35) dX3_faultOfCells_34 rfl (v := 0) (by first | rfl | decide) ?_
          refine PW_goto (tgt := 39) dX3_faultOfCells_35 rfl ?_
          refine PW_ireturn .int dX3_faultOfCells_39 rfl rfl ?_
          refine ⟨?_, rfl⟩
          simp_all [v_foc]
      · refine PW_iconst (pc' := 24) dX3_faultOfCells_23 rfl (v := 4) (by first | rfl | decide) ?_
        refine PW_ireturn .int dX3_faultOfCells_24 rfl rfl ?_
        refine ⟨?_, rfl⟩
        simp_all [v_foc]
    · refine PW_iconst (pc' := 18) dX3_faultOfCells_17 rfl (v := 2) (by first | rfl | decide) ?_
      refine PW_ireturn .int dX3_faultOfCells_18 rfl rfl ?_
      refine ⟨?_, rfl⟩
      simp_all [v_foc]
  · refine PW_iconst (pc' := 8) dX3_faultOfCells_7 rfl (v := 1) (by first | rfl | decide) ?_
    refine PW_ireturn .int dX3_faultOfCells_8 rfl rfl ?_
    refine ⟨?_, rfl⟩
    simp_all [v_foc]
set_option maxHeartbeats 4000000 in
theorem c_X3_cut {Γ : pv_G} {d : Nat} {M : pv_M} {k : Nat} {v : Int32} (hk : k < 4) : Ct Γ d vX3_cut [.ref (2 + k), .int v] M (pv_fn (some (.int (v_cut (M (2 + k) 2) v))) M) := by
  refine Ct.of oX3_cut.1 rfl (pad := 0) rfl ?_
  show PW Γ d vX3_cut 0 [.ref (2 + k), .int v] [] M _
  refine PW_aload0 (pc' := 1) dX3_cut_0 rfl ?_
  refine PW_getI (pc' := 4) dX3_cut_1 rfl fX3_19 (pv_lay_sheet (by omega)) rfl ?_
  refine PW_if_ne (tgt := 10) (pc' := 7) dX3_cut_4 rfl rfl (fun h4 => ?_) (fun h4 => ?_)
  · refine PW_aload0 (pc' := 11) dX3_cut_10 rfl ?_
    refine PW_getI (pc' := 14) dX3_cut_11 rfl fX3_19 (pv_lay_sheet (by omega)) rfl ?_
    refine PW_iconst (pc' := 15) dX3_cut_14 rfl (v := 1) (by first | rfl | decide) ?_
    refine PW_icmp_ne (tgt := 23) (pc' := 18) dX3_cut_15 rfl rfl (fun h15 => ?_) (fun h15 => ?_)
    · refine PW_iload1 (pc' := 24) dX3_cut_23 rfl ?_
      refine PW_ireturn .int dX3_cut_24 rfl rfl ?_
      refine ⟨?_, rfl⟩
      simp_all [v_cut]
    · refine PW_iload1 (pc' := 19) dX3_cut_18 rfl ?_
      refine PW_i2s (pc' := 20) dX3_cut_19 rfl ?_
      refine PW_goto (tgt := 24) dX3_cut_20 rfl ?_
      refine PW_ireturn .int dX3_cut_24 rfl rfl ?_
      refine ⟨?_, rfl⟩
      simp_all [v_cut]
  · refine PW_iload1 (pc' := 8) dX3_cut_7 rfl ?_
    refine PW_i2b (pc' := 9) dX3_cut_8 rfl ?_
    refine PW_ireturn .int dX3_cut_9 rfl rfl ?_
    refine ⟨?_, rfl⟩
    simp_all [v_cut]
/-- a new row: its sheet's three fields, then all cells 0 -/
def s_new (k : Nat) (l n : Int32) (M M' : pv_M) : Prop := M' (2 + k) 1 = 1 ∧ M' (2 + k) 2 = l ∧ M' (2 + k) 3 = n ∧ (∀ i, i < 60 → M' (6 + k) i = 0) ∧ fr [2 + k, 6 + k] M M'
set_option maxHeartbeats 4000000 in
theorem l_X3_begin {Γ : pv_G} {d k : Nat} {l n : Int32} (hk : k < 4) : ∀ (m j : Nat) (M0 M : pv_M), j + m = 60 → M (2 + k) 1 = 1 → M (2 + k) 2 = l → M (2 + k) 3 = n → (∀ i, i < j → M (6 + k) i = 0) → fr [2 + k, 6 + k] M0 M →
    PW Γ d vX3_begin 17 [.ref (2 + k), .int l, .int n, .int (nI j)] [] M (fun r M' => r = none ∧ s_new k l n M0 M') := by
  intro m
  induction m using Nat.strongRecOn with
  | ind m ih =>
    intro j M0 M hjm a1 a2 a3 a4 hfr
    refine PW_iload3 (pc' := 18) dX3_begin_17 rfl ?_
    refine PW_bipush (pc' := 20) dX3_begin_18 rfl (v := nI 60) (by first | rfl | decide) ?_
    refine PW_icmp_ge (tgt := 36) (pc' := 23) dX3_begin_20 rfl rfl (fun h20 => ?_) (fun h20 => ?_)
    · have hj : j = 60 := by have := s_bge (by omega) (by omega) h20; omega
      subst hj
      exact PW_return dX3_begin_36 rfl ⟨rfl, a1, a2, a3, a4, hfr⟩
    · have hj : j < 60 := s_bnd (by omega) (by omega) h20
      refine PW_aload0 (pc' := 24) dX3_begin_23 rfl ?_
      refine PW_getR (pc' := 27) dX3_begin_24 rfl fX3_9 (pv_lay_sheet (by omega)) rfl ?_
      refine PW_iload3 (pc' := 28) dX3_begin_27 rfl ?_
      refine PW_iconst (pc' := 29) dX3_begin_28 rfl (v := 0) (by first | rfl | decide) ?_
      refine PW_iastn (pc' := 30) dX3_begin_29 rfl (pv_lay_cells (by omega)) rfl (by omega) ?_
      refine PW_iinc3 (pc' := 33) dX3_begin_30 rfl rfl rfl nI_inc ?_
      refine PW_goto (tgt := 17) dX3_begin_33 rfl ?_
      have hne : 2 + k ≠ 6 + k := by omega
      refine ih (m - 1) (by omega) (j + 1) M0 _ (by omega) ?_ ?_ ?_ (fun i hi => ?_) (hfr.up (by simp))
      · rw [pv_up_at, if_neg (fun z => hne z.1)]; exact a1
      · rw [pv_up_at, if_neg (fun z => hne z.1)]; exact a2
      · rw [pv_up_at, if_neg (fun z => hne z.1)]; exact a3
      · rw [pv_up_at]
        split
        · rfl
        · exact a4 i (by omega)
set_option maxHeartbeats 4000000 in
theorem c_X3_begin {Γ : pv_G} {d : Nat} {M : pv_M} {k : Nat} {l n : Int32} (hk : k < 4) : Ct Γ d vX3_begin [.ref (2 + k), .int l, .int n] M (fun r M' => r = none ∧ s_new k l n M M') := by
  refine Ct.of oX3_begin.1 rfl (pad := 1) rfl ?_
  show PW Γ d vX3_begin 0 [.ref (2 + k), .int l, .int n, .null] [] M _
  refine PW_aload0 (pc' := 1) dX3_begin_0 rfl ?_
  refine PW_iconst (pc' := 2) dX3_begin_1 rfl (v := 1) (by first | rfl | decide) ?_
  refine PW_putG .boolean (by first | rfl | exact bi_nar _) (by first | rfl | simp [fits]) (pc' := 5) dX3_begin_2 rfl fX3_15 w3_1 (pv_lay_sheet (by omega)) rfl ?_
  refine PW_aload0 (pc' := 6) dX3_begin_5 rfl ?_
  refine PW_iload1 (pc' := 7) dX3_begin_6 rfl ?_
  refine PW_putI (pc' := 10) dX3_begin_7 rfl fX3_19 w3_2 (pv_lay_sheet (by omega)) rfl ?_
  refine PW_aload0 (pc' := 11) dX3_begin_10 rfl ?_
  refine PW_iload2 (pc' := 12) dX3_begin_11 rfl ?_
  refine PW_putI (pc' := 15) dX3_begin_12 rfl fX3_23 w3_3 (pv_lay_sheet (by omega)) rfl ?_
  refine PW_iconst (pc' := 16) dX3_begin_15 rfl (v := nI 0) (by first | rfl | decide) ?_
  refine PW_istore3 (pc' := 17) dX3_begin_16 rfl rfl rfl ?_
  refine l_X3_begin hk 60 0 M _ (by omega) ?_ ?_ ?_ (fun i hi => absurd hi (Nat.not_lt_zero i)) (((fr.up fr.rf (by simp)).up (by simp)).up (by simp))
  · simp [pv_up_at]
  · simp [pv_up_at]
  · simp [pv_up_at]
