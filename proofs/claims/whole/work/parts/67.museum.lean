/-! the reference: a text, a museum by it -/
/-- what reading a text leaves -/
def t_R (M0 : pv_M) (c : Nat → Int32) (n : Nat) : pv_Q := fun r M => ∃ ok : Bool, r = some (.int (bi ok)) ∧ frS M0 M ∧ (ok = false → ∃ p, p ≤ 100 ∧ M 29 10 = nI p ∧ s_ff c n = some p) ∧ (ok = true → s_ff c n = none ∧ M 29 11 = nI (s_dg (c 1)) ∧ M 29 12 = nI ((n - 2) / 7) ∧ ∀ x, x < (n - 2) / 7 → ∀ f, f < 5 → M (35 + f) x = nI (s_fld c f x))
theorem t_R.no {M0 M : pv_M} {b n : Nat} (h : t_F M0 b n M) : t_R M0 (t_c M0 b) n (some (.int 0)) M := ⟨false, rfl, h.1, fun _ => h.2, (fun z => by cases z)⟩
theorem t_R.to {M0 M : pv_M} {c c' : Nat → Int32} {n : Nat} {r : Option Value} (h : t_R M0 c n r M) (e : ∀ x, x < n → c x = c' x) : t_R M0 c' n r M := by
  obtain ⟨ok, h1, h2, h3, h4⟩ := h
  refine ⟨ok, h1, h2, fun z => by rw [← s_ff_congr e]; exact h3 z, fun z => ?_⟩
  obtain ⟨g1, g2, g3, g4⟩ := h4 z
  obtain ⟨-, k1, k2, k3⟩ := s_ff_none g1
  exact ⟨by rw [← s_ff_congr e]; exact g1, by rw [← e 1 (by omega)]; exact g2, g3, fun x hx f hf => by rw [← s_fld_congr (fun q hq => e _ (s_fill_lt k1 hx hq))]; exact g4 x hx f hf⟩
theorem t_S.done {M0 M : pv_M} {b n t : Nat} {pn : Int32} (h : t_S M0 b n pn t 0 M) (ht : ¬ t = 0) (hn : n ≤ 2 + 7 * t + 0) : s_ff (t_c M0 b) n = none ∧ (n - 2) / 7 = t := by
  obtain ⟨h1, h2, h3, h4, h5, h6, h7⟩ := h
  have e : n = 2 + 7 * t + 0 := by omega
  have e2 : (n - 2) % 7 = 0 := by omega
  rw [← e] at h6
  refine ⟨?_, by omega⟩
  unfold s_ff
  rw [h6]
  exact if_pos ⟨by omega, e2⟩
set_option maxHeartbeats 4000000 in
theorem l_X7_rm80f {Γ : pv_G} {d : Nat} {M : pv_M} {Q : pv_Q} {x1 x2 : Int32} (hQ : Q (some (.int 0)) M) : PW Γ (d + 3) vX7_readsMuseum 80 [.ref 29, .int x1, .int x2, .int 0] [] M Q := by
  skip
  refine PW_iload3 (pc' := 81) dX7_readsMuseum_80 rfl ?_
  refine PW_if_eq (tgt := 109) (pc' := 84) dX7_readsMuseum_81 rfl rfl (fun h81 => ?_) (fun h81 => ?_)
  · refine PW_iload3 (pc' := 110) dX7_readsMuseum_109 rfl ?_
    refine PW_ireturn .boolean dX7_readsMuseum_110 rfl (by first | rfl | exact bi_nar _) ?_
    exact hQ
  · exact absurd rfl h81
set_option maxHeartbeats 4000000 in
theorem l_X7_rm80 {Γ : pv_G} {d b n : Nat} {M0 : pv_M} (hb : b + n ≤ 240) (hn : n ≤ 60) : ∀ (m t : Nat) (M : pv_M), t + m = 5 → t_S M0 b n (nI (s_dg (t_c M0 b 1))) t 0 M →
    PW Γ (d + 3) vX7_readsMuseum 80 [.ref 29, .int (nI b), .int (nI n), .int 1] [] M (t_R M0 (t_c M0 b) n) := by
  intro m
  induction m using Nat.strongRecOn with
  | ind m ih =>
    intro t M htm hS
    have ht5 : t ≤ 5 := by omega
    refine PW_iload3 (pc' := 81) dX7_readsMuseum_80 rfl ?_
    refine PW_if_eq (tgt := 109) (pc' := 84) dX7_readsMuseum_81 rfl rfl (fun h81 => ?_) (fun h81 => ?_)
    · exact absurd h81 (by decide)
    · refine PW_aload0 (pc' := 85) dX7_readsMuseum_84 rfl ?_
      refine PW_getI (pc' := 88) dX7_readsMuseum_85 rfl fX7_98 rfl rfl ?_
      rw [hS.2.2.2.1]
      refine PW_if_eq (tgt := 99) (pc' := 91) dX7_readsMuseum_88 rfl rfl (fun h88 => ?_) (fun h88 => ?_)
      · have h0 : t = 0 := nI_inj (by omega) (by decide) h88
        have hc : t = 0 ∨ 2 + 7 * t < n := Or.inl h0
        refine PW_aload0 (pc' := 100) dX7_readsMuseum_99 rfl ?_
        refine PW_iload1 (pc' := 101) dX7_readsMuseum_100 rfl ?_
        refine PW_iload2 (pc' := 102) dX7_readsMuseum_101 rfl ?_
        refine PW_callV2g (pc' := 105) dX7_readsMuseum_102 rfl oX7_readsThing lX7_108 rfl rfl rfl (Nat.le_of_ble_eq_true rfl) (c_X7_readsThing hb ht5 hc hS) (fun r M1 hM1 => ?_)
        obtain ⟨ok, rfl, hy, hno⟩ := hM1
        refine PW_istore3 (pc' := 106) dX7_readsMuseum_105 rfl rfl rfl ?_
        refine PW_goto (tgt := 80) dX7_readsMuseum_106 rfl ?_
        cases ok with
        | true =>
          obtain ⟨ht, hS1⟩ := hy rfl
          exact ih (m - 1) (by omega) (t + 1) M1 (by omega) hS1
        | false => exact l_X7_rm80f (t_R.no (hno rfl))
      · have h0 : ¬ t = 0 := fun z => h88 (by rw [z]; rfl)
        refine PW_aload0 (pc' := 92) dX7_readsMuseum_91 rfl ?_
        refine PW_getI (pc' := 95) dX7_readsMuseum_92 rfl fX7_91 rfl rfl ?_
        rw [hS.2.1]
        refine PW_iload2 (pc' := 96) dX7_readsMuseum_95 rfl ?_
        refine PW_icmp_ge (tgt := 109) (pc' := 99) dX7_readsMuseum_96 rfl rfl (fun h96 => ?_) (fun h96 => ?_)
        · have hle : n ≤ 2 + 7 * t + 0 := (nI_leI (by omega) (by omega)).mp h96
          refine PW_iload3 (pc' := 110) dX7_readsMuseum_109 rfl ?_
          refine PW_ireturn .boolean dX7_readsMuseum_110 rfl (by first | rfl | exact bi_nar _) ?_
          obtain ⟨e1, e2⟩ := hS.done h0 hle
          obtain ⟨g1, g2, g3, g4, g5, g6, g7⟩ := hS
          exact ⟨true, rfl, g1, (fun z => by cases z), fun _ => ⟨e1, g3, by rw [e2]; exact g4, by rw [e2]; exact g7⟩⟩
        · have hlt : ¬ n ≤ 2 + 7 * t + 0 := fun z => h96 ((nI_leI (by omega) (by omega)).mpr z)
          have hc : t = 0 ∨ 2 + 7 * t < n := Or.inr (by omega)
          refine PW_aload0 (pc' := 100) dX7_readsMuseum_99 rfl ?_
          refine PW_iload1 (pc' := 101) dX7_readsMuseum_100 rfl ?_
          refine PW_iload2 (pc' := 102) dX7_readsMuseum_101 rfl ?_
          refine PW_callV2g (pc' := 105) dX7_readsMuseum_102 rfl oX7_readsThing lX7_108 rfl rfl rfl (Nat.le_of_ble_eq_true rfl) (c_X7_readsThing hb ht5 hc hS) (fun r M1 hM1 => ?_)
          obtain ⟨ok, rfl, hy, hno⟩ := hM1
          refine PW_istore3 (pc' := 106) dX7_readsMuseum_105 rfl rfl rfl ?_
          refine PW_goto (tgt := 80) dX7_readsMuseum_106 rfl ?_
          cases ok with
          | true =>
            obtain ⟨ht, hS1⟩ := hy rfl
            exact ih (m - 1) (by omega) (t + 1) M1 (by omega) hS1
          | false => exact l_X7_rm80f (t_R.no (hno rfl))
set_option maxHeartbeats 4000000 in
theorem l_X7_rm26 {Γ : pv_G} {d : Nat} {M0 M : pv_M} {b n : Nat} (hb : b + n ≤ 240) (hn : n ≤ 60) (hF : frS M0 M) (hp : M 29 10 = nI 0) (ht0 : M 29 12 = nI 0) (hl : 0 < n) (hc : t_c M0 b 0 = 117) : PW Γ (d + 3) vX7_readsMuseum 26 [.ref 29, .int (nI b), .int (nI n), .null] [.int 1] M (t_R M0 (t_c M0 b) n) := by
  have hff : s_ffl (t_c M0 b) 1 = none := s_ffl_at (p := 0) rfl (by rw [hc]; decide)
  have h48 : M 48 = M0 48 := hF.1 48 (by decide)
  have hp1 : (pv_up M 29 10 (nI (0 + 1))) 29 10 = nI 1 := by rw [pv_up_at, if_pos ⟨rfl, rfl⟩]
  have hcd : v_cd (pv_up M 29 10 (nI (0 + 1))) b n 1 = if 1 < n then t_c M0 b 1 else -9 := by
    rw [v_cd, pv_up_o (by decide), h48]
    rfl
  have hg : v_fg (v_cd (pv_up M 29 10 (nI (0 + 1))) b n 1) (nI 0) (nI 9) = t_g (t_c M0 b) n 1 0 9 := by
    rw [hcd]
    unfold t_g
    by_cases z : 1 < n
    · rw [if_pos z, v_fg_dig (by decide) (by decide), decide_eq_true z, Bool.true_and]
    · rw [if_neg z, t_fg9 (by decide) (by decide), decide_eq_false z, Bool.false_and]
  have hv : (if v_fg (v_cd (pv_up M 29 10 (nI (0 + 1))) b n 1) (nI 0) (nI 9) = true then v_cd (pv_up M 29 10 (nI (0 + 1))) b n 1 - 48 else -9) = t_v (t_g (t_c M0 b) n 1 0 9) (t_c M0 b 1) := by
    rw [hg]
    unfold t_v
    by_cases z : t_g (t_c M0 b) n 1 0 9 = true
    · rw [if_pos z, if_pos z, hcd, if_pos (t_g_of z).1]
      exact v_dig_sub (v_dig_of (lo := 0) (hi := 9) (by decide) (by decide) (t_g_of z).2).1
    · rw [if_neg z, if_neg z]
  refine PW_istore3 (pc' := 27) dX7_readsMuseum_26 rfl rfl rfl ?_
  refine PW_aload0 (pc' := 28) dX7_readsMuseum_27 rfl ?_
  refine PW_dupR (pc' := 29) dX7_readsMuseum_28 rfl ?_
  refine PW_getI (pc' := 32) dX7_readsMuseum_29 rfl fX7_91 rfl rfl ?_
  rw [hp]
  refine PW_iload3 (pc' := 33) dX7_readsMuseum_32 rfl ?_
  refine PW_if_eq (tgt := 40) (pc' := 36) dX7_readsMuseum_33 rfl rfl (fun h33 => ?_) (fun h33 => ?_)
  · exact absurd h33 (by decide)
  · refine PW_iconst (pc' := 37) dX7_readsMuseum_36 rfl (v := nI 1) (by first | rfl | decide) ?_
    refine PW_goto (tgt := 41) dX7_readsMuseum_37 rfl ?_
    refine PW_iadd (pc' := 42) dX7_readsMuseum_41 rfl ?_
    rw [nI_add]
    refine PW_putI (pc' := 45) dX7_readsMuseum_42 rfl fX7_91 w6_10 rfl rfl ?_
    refine PW_aload0 (pc' := 46) dX7_readsMuseum_45 rfl ?_
    refine PW_iload3 (pc' := 47) dX7_readsMuseum_46 rfl ?_
    refine PW_if_eq (tgt := 62) (pc' := 50) dX7_readsMuseum_47 rfl rfl (fun h47 => ?_) (fun h47 => ?_)
    · exact absurd h47 (by decide)
    · refine PW_aload0 (pc' := 51) dX7_readsMuseum_50 rfl ?_
      refine PW_iload1 (pc' := 52) dX7_readsMuseum_51 rfl ?_
      refine PW_iload2 (pc' := 53) dX7_readsMuseum_52 rfl ?_
      refine PW_iconst (pc' := 54) dX7_readsMuseum_53 rfl (v := nI 0) (by first | rfl | decide) ?_
      refine PW_bipush (pc' := 56) dX7_readsMuseum_54 rfl (v := nI 9) (by first | rfl | decide) ?_
      refine PW_callV4f (pc' := 59) dX7_readsMuseum_56 rfl oX7_figure lX7_101 rfl rfl rfl (Nat.le_of_ble_eq_true rfl) (c_X7_figure (lo := nI 0) (hi := nI 9) hb hp1 (by decide)) ?_
      rw [hv, hg]
      refine PW_goto (tgt := 64) dX7_readsMuseum_59 rfl ?_
      refine PW_putI (pc' := 67) dX7_readsMuseum_64 rfl fX7_105 w6_11 rfl rfl ?_
      refine PW_aload0 (pc' := 68) dX7_readsMuseum_67 rfl ?_
      refine PW_getI (pc' := 71) dX7_readsMuseum_68 rfl fX7_105 rfl rfl ?_
      rw [pv_up_at, if_pos ⟨rfl, rfl⟩]
      refine PW_if_lt (tgt := 78) (pc' := 74) dX7_readsMuseum_71 rfl rfl (fun h71 => ?_) (fun h71 => ?_)
      · have q := t_v_lt (fun z => v_gez.mp z h71)
        rw [q]
        refine PW_iconst (pc' := 79) dX7_readsMuseum_78 rfl (v := 0) (by first | rfl | decide) ?_
        refine PW_istore3 (pc' := 80) dX7_readsMuseum_79 rfl rfl rfl ?_
        refine l_X7_rm80f (t_R.no ⟨((hF.upf (by decide)).upf (by decide)).upf (by decide), 1, by decide, by rw [pv_up_at, if_neg (by decide), pv_up_at, if_pos ⟨rfl, rfl⟩]; rfl, s_ff_at hff (by omega) (fun z => ?_) (fun z => by omega)⟩)
        show s_goes 1 (t_c M0 b 0) (t_c M0 b 1) = false
        exact t_g_no (lo := 0) (hi := 9) q z
      · have q := t_v_ge (v_gez.mpr h71)
        rw [q]
        have q2 := t_g_of q
        have hS : t_S M0 b n (nI (s_dg (t_c M0 b 1))) 0 0 (pv_up (pv_up (pv_up M 29 10 (nI (0 + 1))) 29 10 (nI (if true = true then 1 + 1 else 1))) 29 11 (t_v true (t_c M0 b 1))) := by
          refine ⟨((hF.upf (by decide)).upf (by decide)).upf (by decide), by rw [pv_up_at, if_neg (by decide), pv_up_at, if_pos ⟨rfl, rfl⟩]; rfl, by rw [pv_up_at, if_pos ⟨rfl, rfl⟩]; rfl, by rw [pv_up_at, if_neg (by decide), pv_up_at, if_neg (by decide), pv_up_at, if_neg (by decide)]; exact ht0, by omega, s_ffl_at (p := 1) hff q2.2, fun x hx => absurd hx (Nat.not_lt_zero x)⟩
        refine PW_iconst (pc' := 75) dX7_readsMuseum_74 rfl (v := 1) (by first | rfl | decide) ?_
        refine PW_goto (tgt := 79) dX7_readsMuseum_75 rfl ?_
        refine PW_istore3 (pc' := 80) dX7_readsMuseum_79 rfl rfl rfl ?_
        exact l_X7_rm80 hb hn 5 0 _ rfl hS
set_option maxHeartbeats 4000000 in
theorem c_X7_readsMuseum {Γ : pv_G} {d : Nat} {M : pv_M} {b n : Nat} (hb : b + n ≤ 240) (hn : n ≤ 60) : Ct Γ (d + 3) vX7_readsMuseum [.ref 29, .int (nI b), .int (nI n)] M (t_R M (t_c M b) n) := by
  refine Ct.of oX7_readsMuseum.1 rfl (pad := 1) rfl ?_
  show PW Γ (d + 3) vX7_readsMuseum 0 [.ref 29, .int (nI b), .int (nI n), .null] [] M _
  refine PW_aload0 (pc' := 1) dX7_readsMuseum_0 rfl ?_
  refine PW_iconst (pc' := 2) dX7_readsMuseum_1 rfl (v := nI 0) (by first | rfl | decide) ?_
  refine PW_putI (pc' := 5) dX7_readsMuseum_2 rfl fX7_91 w6_10 rfl rfl ?_
  refine PW_aload0 (pc' := 6) dX7_readsMuseum_5 rfl ?_
  refine PW_iconst (pc' := 7) dX7_readsMuseum_6 rfl (v := nI 0) (by first | rfl | decide) ?_
  refine PW_putI (pc' := 10) dX7_readsMuseum_7 rfl fX7_98 w6_12 rfl rfl ?_
  have hF : frS M (pv_up (pv_up M 29 10 (nI 0)) 29 12 (nI 0)) := (frS.rf.upf (by decide)).upf (by decide)
  have hp : (pv_up (pv_up M 29 10 (nI 0)) 29 12 (nI 0)) 29 10 = nI 0 := by rw [pv_up_at, if_neg (by decide), pv_up_at, if_pos ⟨rfl, rfl⟩]
  have ht0 : (pv_up (pv_up M 29 10 (nI 0)) 29 12 (nI 0)) 29 12 = nI 0 := by rw [pv_up_at, if_pos ⟨rfl, rfl⟩]
  generalize pv_up (pv_up M 29 10 (nI 0)) 29 12 (nI 0) = M1 at hF hp ht0 ⊢
  have h48 : M1 48 = M 48 := hF.1 48 (by decide)
  have hcd : v_cd M1 b n 0 = if 0 < n then t_c M b 0 else -9 := by
    rw [v_cd, h48]
    rfl
  refine PW_aload0 (pc' := 11) dX7_readsMuseum_10 rfl ?_
  refine PW_iload1 (pc' := 12) dX7_readsMuseum_11 rfl ?_
  refine PW_iload2 (pc' := 13) dX7_readsMuseum_12 rfl ?_
  refine PW_callV2f (pc' := 16) dX7_readsMuseum_13 rfl oX7_codeAt lX7_94 rfl rfl rfl (Nat.le_of_ble_eq_true rfl) (c_X7_codeAt (p := 0) hb hp (by decide)) ?_
  refine PW_bipush (pc' := 18) dX7_readsMuseum_16 rfl (v := 117) (by first | rfl | decide) ?_
  rw [hcd]
  refine PW_icmp_ne (tgt := 25) (pc' := 21) dX7_readsMuseum_18 rfl rfl (fun h18 => ?_) (fun h18 => ?_)
  · refine PW_iconst (pc' := 26) dX7_readsMuseum_25 rfl (v := 0) (by first | rfl | decide) ?_
    refine PW_istore3 (pc' := 27) dX7_readsMuseum_26 rfl rfl rfl ?_
    refine PW_aload0 (pc' := 28) dX7_readsMuseum_27 rfl ?_
    refine PW_dupR (pc' := 29) dX7_readsMuseum_28 rfl ?_
    refine PW_getI (pc' := 32) dX7_readsMuseum_29 rfl fX7_91 rfl rfl ?_
    rw [hp]
    refine PW_iload3 (pc' := 33) dX7_readsMuseum_32 rfl ?_
    refine PW_if_eq (tgt := 40) (pc' := 36) dX7_readsMuseum_33 rfl rfl (fun h33 => ?_) (fun h33 => ?_)
    · refine PW_iconst (pc' := 41) dX7_readsMuseum_40 rfl (v := nI 0) (by first | rfl | decide) ?_
      refine PW_iadd (pc' := 42) dX7_readsMuseum_41 rfl ?_
      rw [nI_add]
      refine PW_putI (pc' := 45) dX7_readsMuseum_42 rfl fX7_91 w6_10 rfl rfl ?_
      refine PW_aload0 (pc' := 46) dX7_readsMuseum_45 rfl ?_
      refine PW_iload3 (pc' := 47) dX7_readsMuseum_46 rfl ?_
      refine PW_if_eq (tgt := 62) (pc' := 50) dX7_readsMuseum_47 rfl rfl (fun h47 => ?_) (fun h47 => ?_)
      · refine PW_bipush (pc' := 64) dX7_readsMuseum_62 rfl (v := -9) (by first | rfl | decide) ?_
        refine PW_putI (pc' := 67) dX7_readsMuseum_64 rfl fX7_105 w6_11 rfl rfl ?_
        refine PW_aload0 (pc' := 68) dX7_readsMuseum_67 rfl ?_
        refine PW_getI (pc' := 71) dX7_readsMuseum_68 rfl fX7_105 rfl rfl ?_
        rw [pv_up_at, if_pos ⟨rfl, rfl⟩]
        refine PW_if_lt (tgt := 78) (pc' := 74) dX7_readsMuseum_71 rfl rfl (fun h71 => ?_) (fun h71 => ?_)
        · refine PW_iconst (pc' := 79) dX7_readsMuseum_78 rfl (v := 0) (by first | rfl | decide) ?_
          refine PW_istore3 (pc' := 80) dX7_readsMuseum_79 rfl rfl rfl ?_
          refine PW_iload3 (pc' := 81) dX7_readsMuseum_80 rfl ?_
          refine PW_if_eq (tgt := 109) (pc' := 84) dX7_readsMuseum_81 rfl rfl (fun h81 => ?_) (fun h81 => ?_)
          · refine PW_iload3 (pc' := 110) dX7_readsMuseum_109 rfl ?_
            refine PW_ireturn .boolean dX7_readsMuseum_110 rfl (by first | rfl | exact bi_nar _) ?_
            refine t_R.no ⟨(hF.upf (by decide)).upf (by decide), 0, by decide, by rw [pv_up_at, if_neg (by decide), pv_up_at, if_pos ⟨rfl, rfl⟩], s_ff_at rfl (Nat.zero_le n) (fun z => ?_) (fun z => by omega)⟩
            rw [if_pos z] at h18
            exact decide_eq_false h18
          · exact absurd rfl h81
        · exact absurd (by decide) h71
      · exact absurd rfl h47
    · exact absurd rfl h33
  · have hl : 0 < n := by
      by_cases z : 0 < n
      · exact z
      · rw [if_neg z] at h18; exact absurd h18 (by decide)
    rw [if_pos hl] at h18
    refine PW_iconst (pc' := 22) dX7_readsMuseum_21 rfl (v := 1) (by first | rfl | decide) ?_
    refine PW_goto (tgt := 26) dX7_readsMuseum_22 rfl ?_
    exact l_X7_rm26 hb hn hF hp ht0 hl h18
