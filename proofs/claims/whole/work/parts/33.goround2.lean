/-! the reference: goRound -/
def gp_post (H : s_H) (nv : Option Nat) (r : Nat → Option Nat) (M0 : pv_M) : pv_M → Prop := fun M' => frS M0 M' ∧ M' 40 = M0 40 ∧ M' 29 24 = M0 29 24 ∧ M' 29 21 = s_oI (s_wrn H nv r 6) ∧
  (s_wrn H nv r 6 = none → M' 29 22 = nI (s_take H H.2.2.1 r 6) ∧ M' 29 23 = nI (s_mm H r 6) ∧ ∀ h, h < 6 → M' 41 h = nI (s_cs H r h (h + 1)))
def gp_inv (H : s_H) (r : Nat → Option Nat) (M0 : pv_M) (k : Nat) (M : pv_M) : Prop := frS M0 M ∧ M 40 = M0 40 ∧ M 29 24 = M0 29 24 ∧ M 29 21 = -9 ∧ M 29 22 = nI (s_take H H.2.2.1 r k) ∧ M 29 23 = nI (s_mm H r k) ∧ (∀ t, t < 5 → M 42 t = iI ((s_till H r k t : Int) - 1)) ∧ ∀ h, h < k → M 41 h = nI (s_cs H r h (h + 1))
theorem s_till_le {H : s_H} (hH : s_ok H) {r : Nat → Option Nat} (t : Nat) : ∀ k, k ≤ 6 → (∀ h, h < k → ∀ t, r h = some t → t < H.1) → s_till H r k t ≤ 12
  | 0, _, _ => Nat.zero_le _
  | k + 1, hk, hr => by
    have ih := s_till_le hH t k (by omega) (fun h hh => hr h (by omega))
    simp only [s_till]
    split
    · rename_i h
      have := (hH.2.2.2 t (hr k (by omega) t h)).2.2.2.1
      omega
    · exact ih
theorem s_wrn_mono {H : s_H} {nv : Option Nat} {r : Nat → Option Nat} {h : Nat} : ∀ (k j : Nat), s_wrn H nv r j = some h → s_wrn H nv r (j + k) = some h
  | 0, _, hj => hj
  | k + 1, j, hj => by
    rw [show j + (k + 1) = (j + k) + 1 from rfl, s_wrn, s_wrn_mono k j hj]
set_option maxHeartbeats 4000000 in
/-- the end, as something is wrong at hour x -/
theorem l_X7_goRound_w {Γ : pv_G} {d k x : Nat} {H : s_H} {nv : Option Nat} {r : Nat → Option Nat} {M0 M : pv_M} {x2 x3 : Value} (hk : k ≤ 6) (hx : x < 6) (hw : s_wrn H nv r 6 = some x) (h21 : M 29 21 = nI x) (hf : frS M0 M) (h40 : M 40 = M0 40) (h24 : M 29 24 = M0 29 24) :
    PW Γ (d + 2) vX7_goRound 38 [.ref 29, .int (nI k), x2, x3] [] M (fun rr M' => rr = some (.int (bi (s_wrn H nv r 6).isNone)) ∧ gp_post H nv r M0 M') := by
  refine PW_iload1 (pc' := 39) dX7_goRound_38 rfl ?_
  refine PW_bipush (pc' := 41) dX7_goRound_39 rfl (v := nI 6) (by first | rfl | decide) ?_
  refine PW_icmp_ge (tgt := 182) (pc' := 44) dX7_goRound_41 rfl rfl (fun h41 => ?_) (fun h41 => ?_)
  · refine PW_aload0 (pc' := 183) dX7_goRound_182 rfl ?_
    refine PW_getI (pc' := 186) dX7_goRound_183 rfl fX7_160 rfl rfl ?_
    rw [h21]
    refine PW_if_ge (tgt := 193) (pc' := 189) dX7_goRound_186 rfl rfl (fun h186 => ?_) (fun h186 => ?_)
    · refine PW_iconst (pc' := 194) dX7_goRound_193 rfl (v := 0) (by first | rfl | decide) ?_
      refine PW_ireturn .boolean dX7_goRound_194 rfl (by first | rfl | exact bi_nar _) ?_
      exact ⟨by rw [hw]; rfl, hf, h40, h24, by rw [hw]; exact h21, fun z => by rw [hw] at z; cases z⟩
    · exact absurd (v_gez.mpr (nI_pos (by omega))) h186
  · refine PW_aload0 (pc' := 45) dX7_goRound_44 rfl ?_
    refine PW_getI (pc' := 48) dX7_goRound_45 rfl fX7_160 rfl rfl ?_
    rw [h21]
    refine PW_if_ge (tgt := 182) (pc' := 51) dX7_goRound_48 rfl rfl (fun h48 => ?_) (fun h48 => ?_)
    · refine PW_aload0 (pc' := 183) dX7_goRound_182 rfl ?_
      refine PW_getI (pc' := 186) dX7_goRound_183 rfl fX7_160 rfl rfl ?_
      rw [h21]
      refine PW_if_ge (tgt := 193) (pc' := 189) dX7_goRound_186 rfl rfl (fun h186 => ?_) (fun h186 => ?_)
      · refine PW_iconst (pc' := 194) dX7_goRound_193 rfl (v := 0) (by first | rfl | decide) ?_
        refine PW_ireturn .boolean dX7_goRound_194 rfl (by first | rfl | exact bi_nar _) ?_
        exact ⟨by rw [hw]; rfl, hf, h40, h24, by rw [hw]; exact h21, fun z => by rw [hw] at z; cases z⟩
      · exact absurd (v_gez.mpr (nI_pos (by omega))) h186
    · exact absurd (v_gez.mpr (nI_pos (by omega))) h48
theorem iI_m1 : (-1 : Int32) = iI (((0 : Nat) : Int) - 1) := by decide
set_option maxHeartbeats 4000000 in
theorem l_X7_goRound {Γ : pv_G} {d : Nat} {H : s_H} {nv : Option Nat} {r : Nat → Option Nat} {M0 : pv_M} (hH0 : HM M0 H) (hrow : s_row M0 40 6 H.1 r) (hnv : M0 29 9 = s_rI nv) (hnv2 : ∀ t, nv = some t → t < 5) : ∀ (m k : Nat) (M : pv_M) (x2 x3 : Value), k + m = 6 → s_wrn H nv r k = none → gp_inv H r M0 k M → x2.category = 1 →
    PW Γ (d + 2) vX7_goRound 38 [.ref 29, .int (nI k), x2, x3] [] M (fun rr M' => rr = some (.int (bi (s_wrn H nv r 6).isNone)) ∧ gp_post H nv r M0 M') := by
  have hok := hH0.1
  have hn5 := hok.1
  have hr2 : ∀ h, h < 6 → ∀ t, r h = some t → t < H.1 := fun h hh => (hrow h hh).2
  intro m
  induction m using Nat.strongRecOn with
  | ind m ih =>
    intro k M x2 x3 hkm hw hinv hx2
    obtain ⟨hfs, h40, h24, h21, h22, h23, h42, h41⟩ := id hinv
    have hH : HM M H := hH0.scr hfs
    have hc1 := hH.2.1
    have htl : ∀ t, s_till H r k t ≤ 12 := fun t => s_till_le hok t k (by omega) (fun h hh => hr2 h (by omega))
    by_cases hk6 : k = 6
    · subst hk6
      refine PW_iload1 (pc' := 39) dX7_goRound_38 rfl ?_
      refine PW_bipush (pc' := 41) dX7_goRound_39 rfl (v := nI 6) (by first | rfl | decide) ?_
      refine PW_icmp_ge (tgt := 182) (pc' := 44) dX7_goRound_41 rfl rfl (fun h41' => ?_) (fun h41' => ?_)
      · refine PW_aload0 (pc' := 183) dX7_goRound_182 rfl ?_
        refine PW_getI (pc' := 186) dX7_goRound_183 rfl fX7_160 rfl rfl ?_
        rw [h21]
        refine PW_if_ge (tgt := 193) (pc' := 189) dX7_goRound_186 rfl rfl (fun h186 => ?_) (fun h186 => ?_)
        · exact absurd h186 (by decide)
        · refine PW_iconst (pc' := 190) dX7_goRound_189 rfl (v := 1) (by first | rfl | decide) ?_
          refine PW_goto (tgt := 194) dX7_goRound_190 rfl ?_
          refine PW_ireturn .boolean dX7_goRound_194 rfl (by first | rfl | exact bi_nar _) ?_
          exact ⟨by rw [hw]; rfl, hfs, h40, h24, by rw [hw]; exact h21, fun _ => ⟨h22, h23, h41⟩⟩
      · exact absurd (Int32.le_refl (nI 6)) h41'
    · have hk : k < 6 := by omega
      have hrk : M 40 k = s_rI (r k) := by rw [h40]; exact (hrow k hk).1
      have hnv3 : M 29 9 = s_rI nv := by rw [hfs.2 9 (by decide)]; exact hnv
      cases hr : r k with
      | none =>
        rw [hr] at hrk
        have hwk : s_wrn H nv r (k + 1) = none := by simp [s_wrn, hw, hr]
        have hcs := s_cs_set (at_ := k) hwk (fun h hh => hr2 h (by omega))
        have hcl := s_cs_lt (H := H) (r := r) (at_ := k) hn5 (k + 1) (fun h hh => hr2 h (by omega))
        have et : ∀ t, s_till H r (k + 1) t = s_till H r k t := fun t => by simp [s_till, hr]
        have e22 : s_take H H.2.2.1 r (k + 1) = s_take H H.2.2.1 r k + 0 := by simp [s_take, hr]
        refine PW_iload1 (pc' := 39) dX7_goRound_38 rfl ?_
        refine PW_bipush (pc' := 41) dX7_goRound_39 rfl (v := nI 6) (by first | rfl | decide) ?_
        refine PW_icmp_ge (tgt := 182) (pc' := 44) dX7_goRound_41 rfl rfl (fun h41' => ?_) (fun h41' => ?_)
        · exact absurd h41' (nI_ge hk (by decide))
        · refine PW_aload0 (pc' := 45) dX7_goRound_44 rfl ?_
          refine PW_getI (pc' := 48) dX7_goRound_45 rfl fX7_160 rfl rfl ?_
          rw [h21]
          refine PW_if_ge (tgt := 182) (pc' := 51) dX7_goRound_48 rfl rfl (fun h48 => ?_) (fun h48 => ?_)
          · exact absurd h48 (by decide)
          · refine PW_aload0 (pc' := 52) dX7_goRound_51 rfl ?_
            refine PW_getR (pc' := 55) dX7_goRound_52 rfl fX7_40 rfl rfl ?_
            refine PW_iload1 (pc' := 56) dX7_goRound_55 rfl ?_
            refine PW_ialdn (pc' := 57) dX7_goRound_56 rfl rfl rfl (by omega) ?_
            rw [hrk]
            refine PW_istore2 (pc' := 58) dX7_goRound_57 rfl rfl rfl ?_
            refine PW_iload2 (pc' := 59) dX7_goRound_58 rfl ?_
            refine PW_if_lt (tgt := 84) (pc' := 62) dX7_goRound_59 rfl rfl (fun h59 => ?_) (fun h59 => ?_)
            · refine PW_iconst (pc' := 85) dX7_goRound_84 rfl (v := 0) (by first | rfl | decide) ?_
              refine PW_istore3 (pc' := 86) dX7_goRound_85 rfl rfl rfl ?_
              refine PW_aload0 (pc' := 87) dX7_goRound_86 rfl ?_
              refine PW_iload3 (pc' := 88) dX7_goRound_87 rfl ?_
              refine PW_if_eq (tgt := 95) (pc' := 91) dX7_goRound_88 rfl rfl (fun h88 => ?_) (fun h88 => ?_)
              · refine PW_bipush (pc' := 97) dX7_goRound_95 rfl (v := -9) (by first | rfl | decide) ?_
                refine PW_putI (pc' := 100) dX7_goRound_97 rfl fX7_160 w6_21 rfl rfl ?_
                refine PW_iload2 (pc' := 101) dX7_goRound_100 rfl ?_
                refine PW_if_lt (tgt := 124) (pc' := 104) dX7_goRound_101 rfl rfl (fun h101 => ?_) (fun h101 => ?_)
                · refine PW_aload0 (pc' := 125) dX7_goRound_124 rfl ?_
                  refine PW_getR (pc' := 128) dX7_goRound_125 rfl fX7_43 rfl rfl ?_
                  refine PW_iload1 (pc' := 129) dX7_goRound_128 rfl ?_
                  refine PW_aload0 (pc' := 130) dX7_goRound_129 rfl ?_
                  refine PW_iload1 (pc' := 131) dX7_goRound_130 rfl ?_
                  refine PW_callV1f (pc' := 134) dX7_goRound_131 rfl oX7_casesOf lX7_169 rfl rfl rfl (Nat.le_of_ble_eq_true rfl) (c_X7_casesOf (n := H.1) (tl := s_till H r (k + 1)) hn5 hk hc1 (fun t ht => ⟨by rw [et]; exact h42 t ht, by rw [et]; have := htl t; omega⟩)) ?_
                  rw [hcs]
                  refine PW_iastn (pc' := 135) dX7_goRound_134 rfl rfl rfl (by omega) ?_
                  refine PW_aload0 (pc' := 136) dX7_goRound_135 rfl ?_
                  refine PW_dupR (pc' := 137) dX7_goRound_136 rfl ?_
                  refine PW_getI (pc' := 140) dX7_goRound_137 rfl fX7_163 rfl rfl ?_
                  rw [pv_up_at, if_neg (by omega), pv_up_at, if_neg (by omega), h22]
                  refine PW_iload2 (pc' := 141) dX7_goRound_140 rfl ?_
                  refine PW_if_lt (tgt := 157) (pc' := 144) dX7_goRound_141 rfl rfl (fun h141 => ?_) (fun h141 => ?_)
                  · refine PW_iconst (pc' := 158) dX7_goRound_157 rfl (v := nI 0) (by first | rfl | decide) ?_
                    refine PW_iadd (pc' := 159) dX7_goRound_158 rfl ?_
                    rw [nI_add, ← e22]
                    refine PW_putI (pc' := 162) dX7_goRound_159 rfl fX7_163 w6_22 rfl rfl ?_
                    refine PW_aload0 (pc' := 163) dX7_goRound_162 rfl ?_
                    refine PW_dupR (pc' := 164) dX7_goRound_163 rfl ?_
                    refine PW_getI (pc' := 167) dX7_goRound_164 rfl fX7_166 rfl rfl ?_
                    rw [pv_up_at, if_neg (by omega), pv_up_at, if_neg (by omega), pv_up_at, if_neg (by omega), h23]
                    refine PW_aload0 (pc' := 168) dX7_goRound_167 rfl ?_
                    refine PW_iload1 (pc' := 169) dX7_goRound_168 rfl ?_
                    refine PW_callV1f (pc' := 172) dX7_goRound_169 rfl oX7_missedIn lX7_175 rfl rfl rfl (Nat.le_of_ble_eq_true rfl) (c_X7_missedIn (H := H) (cs := s_cs H r k (k + 1)) (hH0.scr (((hfs.upf (by decide)).up (by decide)).upf (by decide))) hk hcl (by rw [pv_up_at, if_neg (by omega), pv_up_at, if_pos ⟨rfl, rfl⟩])) ?_
                    refine PW_iadd (pc' := 173) dX7_goRound_172 rfl ?_
                    rw [nI_add]
                    refine PW_putI (pc' := 176) dX7_goRound_173 rfl fX7_166 w6_23 rfl rfl ?_
                    refine PW_iinc1 (pc' := 179) dX7_goRound_176 rfl rfl rfl nI_inc ?_
                    refine PW_goto (tgt := 38) dX7_goRound_179 rfl ?_
                    refine ih (m - 1) (by omega) (k + 1) _ _ _ (by omega) hwk ⟨?_, ?_, ?_, ?_, ?_, ?_, fun t ht => ?_, fun h hh => ?_⟩ rfl
                    · exact (((hfs.upf (by decide)).up (by decide)).upf (by decide)).upf (by decide)
                    · simp only [pv_up_o (show 40 ≠ 29 by decide), pv_up_o (show 40 ≠ 41 by decide)]; exact h40
                    · rw [pv_up_p (by omega), pv_up_p (by omega), pv_up_p (by omega), pv_up_p (by omega)]; exact h24
                    · rw [pv_up_p (by omega), pv_up_p (by omega), pv_up_p (by omega), pv_up_at, if_pos ⟨rfl, rfl⟩]
                    · rw [pv_up_p (by omega), pv_up_at, if_pos ⟨rfl, rfl⟩]
                    · rw [pv_up_at, if_pos ⟨rfl, rfl⟩]; rfl
                    · rw [pv_up_p (by omega), pv_up_p (by omega), pv_up_p (by omega), pv_up_p (by omega), et]; exact h42 t ht
                    · rw [pv_up_p (by omega), pv_up_p (by omega), pv_up_at]
                      by_cases hhk : h = k
                      · rw [if_pos ⟨rfl, hhk⟩, hhk]
                      · rw [if_neg (fun z => hhk z.2), pv_up_p (by omega)]; exact h41 h (by omega)
                  · exact absurd (by decide) h141
                · exact absurd (by decide) h101
              · exact absurd rfl h88
            · exact absurd (by decide) h59
      | some t =>
        rw [hr, s_rI_some] at hrk
        have htn : t < H.1 := hr2 k hk t hr
        have hst := (hok.2.2.2 t htn).2.2.2.1
        have hlg : M 33 t = nI (H.2.2.2 3 t) := hH.2.2.2.2 t htn 3 (by decide)
        have hbt := s_cs_till (H := H) (r := r) hw k t
        have htt := htl t
        have hcase : (k < s_till H r k t ∨ nv = some t) ∨ (¬ k < s_till H r k t ∧ ¬ nv = some t) := by
          by_cases q1 : k < s_till H r k t
          · exact Or.inl (Or.inl q1)
          · by_cases q2 : nv = some t
            · exact Or.inl (Or.inr q2)
            · exact Or.inr ⟨q1, q2⟩
        have hcmp : nI k ≤ iI ((s_till H r k t : Int) - 1) ↔ k < s_till H r k t := by
          rw [iI_nat (show k < 2 ^ 31 by omega), iI_le (by omega) (by omega)]
          omega
        have hnvt : nI t = s_rI nv ↔ nv = some t := by
          constructor
          · intro z
            exact (s_rI_eq (n := 5) (by decide) (by omega) hnv2).mp z.symm
          · intro z
            exact ((s_rI_eq (n := 5) (by decide) (by omega) hnv2).mpr z).symm
        rcases hcase with hc | ⟨q1, q2⟩
        · have hbad : (s_cs H r k k).testBit t = true ∨ nv = some t := hc.imp (fun z => by rw [hbt]; exact decide_eq_true z) id
          have hbl : s_set (fun y => decide (k < s_till H r k y)) H.1 < 64 := s_set_lt _ _ (by omega)
          refine PW_iload1 (pc' := 39) dX7_goRound_38 rfl ?_
          refine PW_bipush (pc' := 41) dX7_goRound_39 rfl (v := nI 6) (by first | rfl | decide) ?_
          refine PW_icmp_ge (tgt := 182) (pc' := 44) dX7_goRound_41 rfl rfl (fun h41' => ?_) (fun h41' => ?_)
          · exact absurd h41' (nI_ge hk (by decide))
          · refine PW_aload0 (pc' := 45) dX7_goRound_44 rfl ?_
            refine PW_getI (pc' := 48) dX7_goRound_45 rfl fX7_160 rfl rfl ?_
            rw [h21]
            refine PW_if_ge (tgt := 182) (pc' := 51) dX7_goRound_48 rfl rfl (fun h48 => ?_) (fun h48 => ?_)
            · exact absurd h48 (by decide)
            · refine PW_aload0 (pc' := 52) dX7_goRound_51 rfl ?_
              refine PW_getR (pc' := 55) dX7_goRound_52 rfl fX7_40 rfl rfl ?_
              refine PW_iload1 (pc' := 56) dX7_goRound_55 rfl ?_
              refine PW_ialdn (pc' := 57) dX7_goRound_56 rfl rfl rfl (by omega) ?_
              rw [hrk]
              refine PW_istore2 (pc' := 58) dX7_goRound_57 rfl rfl rfl ?_
              refine PW_iload2 (pc' := 59) dX7_goRound_58 rfl ?_
              refine PW_if_lt (tgt := 84) (pc' := 62) dX7_goRound_59 rfl rfl (fun h59 => ?_) (fun h59 => ?_)
              · exact absurd h59 (nI_pos (by omega))
              · refine PW_aload0 (pc' := 63) dX7_goRound_62 rfl ?_
                refine PW_getR (pc' := 66) dX7_goRound_63 rfl fX7_46 rfl rfl ?_
                refine PW_iload2 (pc' := 67) dX7_goRound_66 rfl ?_
                refine PW_ialdn (pc' := 68) dX7_goRound_67 rfl rfl rfl (show t < 5 by omega) ?_
                rw [h42 t (by omega)]
                refine PW_iload1 (pc' := 69) dX7_goRound_68 rfl ?_
                refine PW_icmp_ge (tgt := 80) (pc' := 72) dX7_goRound_69 rfl rfl (fun h69 => ?_) (fun h69 => ?_)
                · refine PW_iconst (pc' := 81) dX7_goRound_80 rfl (v := 1) (by first | rfl | decide) ?_
                  refine PW_goto (tgt := 85) dX7_goRound_81 rfl ?_
                  refine PW_istore3 (pc' := 86) dX7_goRound_85 rfl rfl rfl ?_
                  refine PW_aload0 (pc' := 87) dX7_goRound_86 rfl ?_
                  refine PW_iload3 (pc' := 88) dX7_goRound_87 rfl ?_
                  refine PW_if_eq (tgt := 95) (pc' := 91) dX7_goRound_88 rfl rfl (fun h88 => ?_) (fun h88 => ?_)
                  · exact absurd h88 (by decide)
                  · refine PW_iload1 (pc' := 92) dX7_goRound_91 rfl ?_
                    refine PW_goto (tgt := 97) dX7_goRound_92 rfl ?_
                    refine PW_putI (pc' := 100) dX7_goRound_97 rfl fX7_160 w6_21 rfl rfl ?_
                    refine PW_iload2 (pc' := 101) dX7_goRound_100 rfl ?_
                    refine PW_if_lt (tgt := 124) (pc' := 104) dX7_goRound_101 rfl rfl (fun h101 => ?_) (fun h101 => ?_)
                    · exact absurd h101 (nI_pos (by omega))
                    · refine PW_iload3 (pc' := 105) dX7_goRound_104 rfl ?_
                      refine PW_if_ne (tgt := 124) (pc' := 108) dX7_goRound_105 rfl rfl (fun h105 => ?_) (fun h105 => ?_)
                      · refine PW_aload0 (pc' := 125) dX7_goRound_124 rfl ?_
                        refine PW_getR (pc' := 128) dX7_goRound_125 rfl fX7_43 rfl rfl ?_
                        refine PW_iload1 (pc' := 129) dX7_goRound_128 rfl ?_
                        refine PW_aload0 (pc' := 130) dX7_goRound_129 rfl ?_
                        refine PW_iload1 (pc' := 131) dX7_goRound_130 rfl ?_
                        refine PW_callV1f (pc' := 134) dX7_goRound_131 rfl oX7_casesOf lX7_169 rfl rfl rfl (Nat.le_of_ble_eq_true rfl) (c_X7_casesOf (n := H.1) (tl := s_till H r k) hn5 hk hc1 (fun y hy => ⟨h42 y hy, by have := htl y; omega⟩)) ?_
                        refine PW_iastn (pc' := 135) dX7_goRound_134 rfl rfl rfl (by omega) ?_
                        refine PW_aload0 (pc' := 136) dX7_goRound_135 rfl ?_
                        refine PW_dupR (pc' := 137) dX7_goRound_136 rfl ?_
                        refine PW_getI (pc' := 140) dX7_goRound_137 rfl fX7_163 rfl rfl ?_
                        rw [pv_up_at, if_neg (by omega), pv_up_at, if_neg (by omega), h22]
                        refine PW_iload2 (pc' := 141) dX7_goRound_140 rfl ?_
                        refine PW_if_lt (tgt := 157) (pc' := 144) dX7_goRound_141 rfl rfl (fun h141 => ?_) (fun h141 => ?_)
                        · exact absurd h141 (nI_pos (by omega))
                        · refine PW_iload3 (pc' := 145) dX7_goRound_144 rfl ?_
                          refine PW_if_ne (tgt := 157) (pc' := 148) dX7_goRound_145 rfl rfl (fun h145 => ?_) (fun h145 => ?_)
                          · refine PW_iconst (pc' := 158) dX7_goRound_157 rfl (v := nI 0) (by first | rfl | decide) ?_
                            refine PW_iadd (pc' := 159) dX7_goRound_158 rfl ?_
                            refine PW_putI (pc' := 162) dX7_goRound_159 rfl fX7_163 w6_22 rfl rfl ?_
                            refine PW_aload0 (pc' := 163) dX7_goRound_162 rfl ?_
                            refine PW_dupR (pc' := 164) dX7_goRound_163 rfl ?_
                            refine PW_getI (pc' := 167) dX7_goRound_164 rfl fX7_166 rfl rfl ?_
                            rw [pv_up_at, if_neg (by omega), pv_up_at, if_neg (by omega), pv_up_at, if_neg (by omega), h23]
                            refine PW_aload0 (pc' := 168) dX7_goRound_167 rfl ?_
                            refine PW_iload1 (pc' := 169) dX7_goRound_168 rfl ?_
                            refine PW_callV1f (pc' := 172) dX7_goRound_169 rfl oX7_missedIn lX7_175 rfl rfl rfl (Nat.le_of_ble_eq_true rfl) (c_X7_missedIn (H := H) (cs := s_set (fun y => decide (k < s_till H r k y)) H.1) (hH0.scr (((hfs.upf (by decide)).up (by decide)).upf (by decide))) hk hbl (by rw [pv_up_at, if_neg (by omega), pv_up_at, if_pos ⟨rfl, rfl⟩])) ?_
                            refine PW_iadd (pc' := 173) dX7_goRound_172 rfl ?_
                            refine PW_putI (pc' := 176) dX7_goRound_173 rfl fX7_166 w6_23 rfl rfl ?_
                            refine PW_iinc1 (pc' := 179) dX7_goRound_176 rfl rfl rfl nI_inc ?_
                            refine PW_goto (tgt := 38) dX7_goRound_179 rfl ?_
                            have hwk : s_wrn H nv r (k + 1) = some k := by
                              simp only [s_wrn, hw, hr]
                              exact if_pos hbad
                            have hw6 := s_wrn_mono (m - 1) (k + 1) hwk
                            rw [show k + 1 + (m - 1) = 6 by omega] at hw6
                            refine l_X7_goRound_w (x := k) (by omega) hk hw6 ?_ ?_ ?_ ?_
                            · rw [pv_up_p (by omega), pv_up_p (by omega), pv_up_p (by omega), pv_up_at, if_pos ⟨rfl, rfl⟩]
                            · exact (((hfs.upf (by decide)).up (by decide)).upf (by decide)).upf (by decide)
                            · simp only [pv_up_o (show 40 ≠ 29 by decide), pv_up_o (show 40 ≠ 41 by decide)]; exact h40
                            · rw [pv_up_p (by omega), pv_up_p (by omega), pv_up_p (by omega), pv_up_p (by omega)]; exact h24
                          · exact absurd h145 (by decide)
                      · exact absurd h105 (by decide)
                · refine PW_iload2 (pc' := 73) dX7_goRound_72 rfl ?_
                  refine PW_aload0 (pc' := 74) dX7_goRound_73 rfl ?_
                  refine PW_getI (pc' := 77) dX7_goRound_74 rfl fX7_71 rfl rfl ?_
                  rw [hnv3]
                  refine PW_icmp_ne (tgt := 84) (pc' := 80) dX7_goRound_77 rfl rfl (fun h77 => ?_) (fun h77 => ?_)
                  · rw [hcmp] at h69
                    rw [hnvt] at h77
                    exact absurd hc (fun z => z.elim h69 h77)
                  · refine PW_iconst (pc' := 81) dX7_goRound_80 rfl (v := 1) (by first | rfl | decide) ?_
                    refine PW_goto (tgt := 85) dX7_goRound_81 rfl ?_
                    refine PW_istore3 (pc' := 86) dX7_goRound_85 rfl rfl rfl ?_
                    refine PW_aload0 (pc' := 87) dX7_goRound_86 rfl ?_
                    refine PW_iload3 (pc' := 88) dX7_goRound_87 rfl ?_
                    refine PW_if_eq (tgt := 95) (pc' := 91) dX7_goRound_88 rfl rfl (fun h88 => ?_) (fun h88 => ?_)
                    · exact absurd h88 (by decide)
                    · refine PW_iload1 (pc' := 92) dX7_goRound_91 rfl ?_
                      refine PW_goto (tgt := 97) dX7_goRound_92 rfl ?_
                      refine PW_putI (pc' := 100) dX7_goRound_97 rfl fX7_160 w6_21 rfl rfl ?_
                      refine PW_iload2 (pc' := 101) dX7_goRound_100 rfl ?_
                      refine PW_if_lt (tgt := 124) (pc' := 104) dX7_goRound_101 rfl rfl (fun h101 => ?_) (fun h101 => ?_)
                      · exact absurd h101 (nI_pos (by omega))
                      · refine PW_iload3 (pc' := 105) dX7_goRound_104 rfl ?_
                        refine PW_if_ne (tgt := 124) (pc' := 108) dX7_goRound_105 rfl rfl (fun h105 => ?_) (fun h105 => ?_)
                        · refine PW_aload0 (pc' := 125) dX7_goRound_124 rfl ?_
                          refine PW_getR (pc' := 128) dX7_goRound_125 rfl fX7_43 rfl rfl ?_
                          refine PW_iload1 (pc' := 129) dX7_goRound_128 rfl ?_
                          refine PW_aload0 (pc' := 130) dX7_goRound_129 rfl ?_
                          refine PW_iload1 (pc' := 131) dX7_goRound_130 rfl ?_
                          refine PW_callV1f (pc' := 134) dX7_goRound_131 rfl oX7_casesOf lX7_169 rfl rfl rfl (Nat.le_of_ble_eq_true rfl) (c_X7_casesOf (n := H.1) (tl := s_till H r k) hn5 hk hc1 (fun y hy => ⟨h42 y hy, by have := htl y; omega⟩)) ?_
                          refine PW_iastn (pc' := 135) dX7_goRound_134 rfl rfl rfl (by omega) ?_
                          refine PW_aload0 (pc' := 136) dX7_goRound_135 rfl ?_
                          refine PW_dupR (pc' := 137) dX7_goRound_136 rfl ?_
                          refine PW_getI (pc' := 140) dX7_goRound_137 rfl fX7_163 rfl rfl ?_
                          rw [pv_up_at, if_neg (by omega), pv_up_at, if_neg (by omega), h22]
                          refine PW_iload2 (pc' := 141) dX7_goRound_140 rfl ?_
                          refine PW_if_lt (tgt := 157) (pc' := 144) dX7_goRound_141 rfl rfl (fun h141 => ?_) (fun h141 => ?_)
                          · exact absurd h141 (nI_pos (by omega))
                          · refine PW_iload3 (pc' := 145) dX7_goRound_144 rfl ?_
                            refine PW_if_ne (tgt := 157) (pc' := 148) dX7_goRound_145 rfl rfl (fun h145 => ?_) (fun h145 => ?_)
                            · refine PW_iconst (pc' := 158) dX7_goRound_157 rfl (v := nI 0) (by first | rfl | decide) ?_
                              refine PW_iadd (pc' := 159) dX7_goRound_158 rfl ?_
                              refine PW_putI (pc' := 162) dX7_goRound_159 rfl fX7_163 w6_22 rfl rfl ?_
                              refine PW_aload0 (pc' := 163) dX7_goRound_162 rfl ?_
                              refine PW_dupR (pc' := 164) dX7_goRound_163 rfl ?_
                              refine PW_getI (pc' := 167) dX7_goRound_164 rfl fX7_166 rfl rfl ?_
                              rw [pv_up_at, if_neg (by omega), pv_up_at, if_neg (by omega), pv_up_at, if_neg (by omega), h23]
                              refine PW_aload0 (pc' := 168) dX7_goRound_167 rfl ?_
                              refine PW_iload1 (pc' := 169) dX7_goRound_168 rfl ?_
                              refine PW_callV1f (pc' := 172) dX7_goRound_169 rfl oX7_missedIn lX7_175 rfl rfl rfl (Nat.le_of_ble_eq_true rfl) (c_X7_missedIn (H := H) (cs := s_set (fun y => decide (k < s_till H r k y)) H.1) (hH0.scr (((hfs.upf (by decide)).up (by decide)).upf (by decide))) hk hbl (by rw [pv_up_at, if_neg (by omega), pv_up_at, if_pos ⟨rfl, rfl⟩])) ?_
                              refine PW_iadd (pc' := 173) dX7_goRound_172 rfl ?_
                              refine PW_putI (pc' := 176) dX7_goRound_173 rfl fX7_166 w6_23 rfl rfl ?_
                              refine PW_iinc1 (pc' := 179) dX7_goRound_176 rfl rfl rfl nI_inc ?_
                              refine PW_goto (tgt := 38) dX7_goRound_179 rfl ?_
                              have hwk : s_wrn H nv r (k + 1) = some k := by
                                simp only [s_wrn, hw, hr]
                                exact if_pos hbad
                              have hw6 := s_wrn_mono (m - 1) (k + 1) hwk
                              rw [show k + 1 + (m - 1) = 6 by omega] at hw6
                              refine l_X7_goRound_w (x := k) (by omega) hk hw6 ?_ ?_ ?_ ?_
                              · rw [pv_up_p (by omega), pv_up_p (by omega), pv_up_p (by omega), pv_up_at, if_pos ⟨rfl, rfl⟩]
                              · exact (((hfs.upf (by decide)).up (by decide)).upf (by decide)).upf (by decide)
                              · simp only [pv_up_o (show 40 ≠ 29 by decide), pv_up_o (show 40 ≠ 41 by decide)]; exact h40
                              · rw [pv_up_p (by omega), pv_up_p (by omega), pv_up_p (by omega), pv_up_p (by omega)]; exact h24
                            · exact absurd h145 (by decide)
                        · exact absurd h105 (by decide)
        · have hbit : (s_cs H r k k).testBit t = false := by rw [hbt]; exact decide_eq_false q1
          have hwk : s_wrn H nv r (k + 1) = none := by
            simp only [s_wrn, hw, hr]
            exact if_neg (fun z => z.elim (fun y => by rw [hbit] at y; cases y) q2)
          have hcs := s_cs_set (at_ := k) hwk (fun h hh => hr2 h (by omega))
          have hcl := s_cs_lt (H := H) (r := r) (at_ := k) hn5 (k + 1) (fun h hh => hr2 h (by omega))
          have e22 : s_take H H.2.2.1 r (k + 1) = s_take H H.2.2.1 r k + s_gain H H.2.2.1 t k (s_cs H r k (k + 1)) := by
            have e1 : s_take H H.2.2.1 r (k + 1) = s_take H H.2.2.1 r k + s_gain H H.2.2.1 t k (s_cs H r k k) := by simp [s_take, hr]
            rw [e1]
            simp only [s_gain, s_last_cs hr]
          have h42b : ∀ y, y < 5 → (pv_up (pv_up M 29 21 (-9)) 42 t (iI ((s_till H r (k + 1) t : Int) - 1))) 42 y = iI ((s_till H r (k + 1) y : Int) - 1) := by
            intro y hy
            rw [pv_up_at]
            by_cases hyt : y = t
            · rw [if_pos ⟨rfl, hyt⟩, hyt]
            · rw [if_neg (fun z => hyt z.2), pv_up_p (by omega), h42 y hy]
              have : s_till H r (k + 1) y = s_till H r k y := by
                simp only [s_till]
                rw [if_neg (fun z => hyt (by rw [hr] at z; exact (Option.some.inj z).symm))]
              rw [this]
          have htv : nI k + nI (H.2.2.2 3 t) - 1 = iI ((s_till H r (k + 1) t : Int) - 1) := by
            have e : s_till H r (k + 1) t = k + H.2.2.2 3 t := by simp [s_till, hr]
            rw [nI_add, iI_nat (by omega), show (1 : Int32) = iI 1 from by decide, iI_sub, e]
          have htl2 : ∀ y, s_till H r (k + 1) y ≤ 12 := fun y => s_till_le hok y (k + 1) (by omega) (fun h hh => hr2 h (by omega))
          have hH2 : HM (pv_up (pv_up (pv_up M 29 21 (-9)) 42 t (iI ((s_till H r (k + 1) t : Int) - 1))) 41 k (nI (s_cs H r k (k + 1)))) H := hH0.scr (((hfs.upf (by decide)).up (by decide)).up (by decide))
          refine PW_iload1 (pc' := 39) dX7_goRound_38 rfl ?_
          refine PW_bipush (pc' := 41) dX7_goRound_39 rfl (v := nI 6) (by first | rfl | decide) ?_
          refine PW_icmp_ge (tgt := 182) (pc' := 44) dX7_goRound_41 rfl rfl (fun h41' => ?_) (fun h41' => ?_)
          · exact absurd h41' (nI_ge hk (by decide))
          · refine PW_aload0 (pc' := 45) dX7_goRound_44 rfl ?_
            refine PW_getI (pc' := 48) dX7_goRound_45 rfl fX7_160 rfl rfl ?_
            rw [h21]
            refine PW_if_ge (tgt := 182) (pc' := 51) dX7_goRound_48 rfl rfl (fun h48 => ?_) (fun h48 => ?_)
            · exact absurd h48 (by decide)
            · refine PW_aload0 (pc' := 52) dX7_goRound_51 rfl ?_
              refine PW_getR (pc' := 55) dX7_goRound_52 rfl fX7_40 rfl rfl ?_
              refine PW_iload1 (pc' := 56) dX7_goRound_55 rfl ?_
              refine PW_ialdn (pc' := 57) dX7_goRound_56 rfl rfl rfl (by omega) ?_
              rw [hrk]
              refine PW_istore2 (pc' := 58) dX7_goRound_57 rfl rfl rfl ?_
              refine PW_iload2 (pc' := 59) dX7_goRound_58 rfl ?_
              refine PW_if_lt (tgt := 84) (pc' := 62) dX7_goRound_59 rfl rfl (fun h59 => ?_) (fun h59 => ?_)
              · exact absurd h59 (nI_pos (by omega))
              · refine PW_aload0 (pc' := 63) dX7_goRound_62 rfl ?_
                refine PW_getR (pc' := 66) dX7_goRound_63 rfl fX7_46 rfl rfl ?_
                refine PW_iload2 (pc' := 67) dX7_goRound_66 rfl ?_
                refine PW_ialdn (pc' := 68) dX7_goRound_67 rfl rfl rfl (show t < 5 by omega) ?_
                rw [h42 t (by omega)]
                refine PW_iload1 (pc' := 69) dX7_goRound_68 rfl ?_
                refine PW_icmp_ge (tgt := 80) (pc' := 72) dX7_goRound_69 rfl rfl (fun h69 => ?_) (fun h69 => ?_)
                · rw [hcmp] at h69
                  exact absurd h69 q1
                · refine PW_iload2 (pc' := 73) dX7_goRound_72 rfl ?_
                  refine PW_aload0 (pc' := 74) dX7_goRound_73 rfl ?_
                  refine PW_getI (pc' := 77) dX7_goRound_74 rfl fX7_71 rfl rfl ?_
                  rw [hnv3]
                  refine PW_icmp_ne (tgt := 84) (pc' := 80) dX7_goRound_77 rfl rfl (fun h77 => ?_) (fun h77 => ?_)
                  · refine PW_iconst (pc' := 85) dX7_goRound_84 rfl (v := 0) (by first | rfl | decide) ?_
                    refine PW_istore3 (pc' := 86) dX7_goRound_85 rfl rfl rfl ?_
                    refine PW_aload0 (pc' := 87) dX7_goRound_86 rfl ?_
                    refine PW_iload3 (pc' := 88) dX7_goRound_87 rfl ?_
                    refine PW_if_eq (tgt := 95) (pc' := 91) dX7_goRound_88 rfl rfl (fun h88 => ?_) (fun h88 => ?_)
                    · refine PW_bipush (pc' := 97) dX7_goRound_95 rfl (v := -9) (by first | rfl | decide) ?_
                      refine PW_putI (pc' := 100) dX7_goRound_97 rfl fX7_160 w6_21 rfl rfl ?_
                      refine PW_iload2 (pc' := 101) dX7_goRound_100 rfl ?_
                      refine PW_if_lt (tgt := 124) (pc' := 104) dX7_goRound_101 rfl rfl (fun h101 => ?_) (fun h101 => ?_)
                      · exact absurd h101 (nI_pos (by omega))
                      · refine PW_iload3 (pc' := 105) dX7_goRound_104 rfl ?_
                        refine PW_if_ne (tgt := 124) (pc' := 108) dX7_goRound_105 rfl rfl (fun h105 => ?_) (fun h105 => ?_)
                        · exact absurd rfl h105
                        · refine PW_aload0 (pc' := 109) dX7_goRound_108 rfl ?_
                          refine PW_getR (pc' := 112) dX7_goRound_109 rfl fX7_46 rfl rfl ?_
                          refine PW_iload2 (pc' := 113) dX7_goRound_112 rfl ?_
                          refine PW_iload1 (pc' := 114) dX7_goRound_113 rfl ?_
                          refine PW_aload0 (pc' := 115) dX7_goRound_114 rfl ?_
                          refine PW_getR (pc' := 118) dX7_goRound_115 rfl fX7_19 rfl rfl ?_
                          refine PW_iload2 (pc' := 119) dX7_goRound_118 rfl ?_
                          refine PW_ialdn (pc' := 120) dX7_goRound_119 rfl rfl rfl (show t < 5 by omega) ?_
                          rw [pv_up_o (by decide), hlg]
                          refine PW_iadd (pc' := 121) dX7_goRound_120 rfl ?_
                          refine PW_iconst (pc' := 122) dX7_goRound_121 rfl (v := 1) (by first | rfl | decide) ?_
                          refine PW_isub (pc' := 123) dX7_goRound_122 rfl ?_
                          rw [htv]
                          refine PW_iastn (pc' := 124) dX7_goRound_123 rfl rfl rfl (show t < 5 by omega) ?_
                          refine PW_aload0 (pc' := 125) dX7_goRound_124 rfl ?_
                          refine PW_getR (pc' := 128) dX7_goRound_125 rfl fX7_43 rfl rfl ?_
                          refine PW_iload1 (pc' := 129) dX7_goRound_128 rfl ?_
                          refine PW_aload0 (pc' := 130) dX7_goRound_129 rfl ?_
                          refine PW_iload1 (pc' := 131) dX7_goRound_130 rfl ?_
                          refine PW_callV1f (pc' := 134) dX7_goRound_131 rfl oX7_casesOf lX7_169 rfl rfl rfl (Nat.le_of_ble_eq_true rfl) (c_X7_casesOf (n := H.1) (tl := s_till H r (k + 1)) hn5 hk hc1 (fun y hy => ⟨h42b y hy, by have := htl2 y; omega⟩)) ?_
                          rw [hcs]
                          refine PW_iastn (pc' := 135) dX7_goRound_134 rfl rfl rfl (by omega) ?_
                          refine PW_aload0 (pc' := 136) dX7_goRound_135 rfl ?_
                          refine PW_dupR (pc' := 137) dX7_goRound_136 rfl ?_
                          refine PW_getI (pc' := 140) dX7_goRound_137 rfl fX7_163 rfl rfl ?_
                          rw [pv_up_p (by omega), pv_up_p (by omega), pv_up_p (by omega), h22]
                          refine PW_iload2 (pc' := 141) dX7_goRound_140 rfl ?_
                          refine PW_if_lt (tgt := 157) (pc' := 144) dX7_goRound_141 rfl rfl (fun h141 => ?_) (fun h141 => ?_)
                          · exact absurd h141 (nI_pos (by omega))
                          · refine PW_iload3 (pc' := 145) dX7_goRound_144 rfl ?_
                            refine PW_if_ne (tgt := 157) (pc' := 148) dX7_goRound_145 rfl rfl (fun h145 => ?_) (fun h145 => ?_)
                            · exact absurd rfl h145
                            · refine PW_aload0 (pc' := 149) dX7_goRound_148 rfl ?_
                              refine PW_iload2 (pc' := 150) dX7_goRound_149 rfl ?_
                              refine PW_iload1 (pc' := 151) dX7_goRound_150 rfl ?_
                              refine PW_callV2f (pc' := 154) dX7_goRound_151 rfl oX7_takingOf lX7_172 rfl rfl rfl (Nat.le_of_ble_eq_true rfl) (c_X7_takingOf (cs := s_cs H r k (k + 1)) htn hH2 hk hcl (by rw [pv_up_at, if_pos ⟨rfl, rfl⟩])) ?_
                              refine PW_goto (tgt := 158) dX7_goRound_154 rfl ?_
                              refine PW_iadd (pc' := 159) dX7_goRound_158 rfl ?_
                              rw [nI_add, ← e22]
                              refine PW_putI (pc' := 162) dX7_goRound_159 rfl fX7_163 w6_22 rfl rfl ?_
                              refine PW_aload0 (pc' := 163) dX7_goRound_162 rfl ?_
                              refine PW_dupR (pc' := 164) dX7_goRound_163 rfl ?_
                              refine PW_getI (pc' := 167) dX7_goRound_164 rfl fX7_166 rfl rfl ?_
                              rw [pv_up_p (by omega), pv_up_p (by omega), pv_up_p (by omega), pv_up_p (by omega), h23]
                              refine PW_aload0 (pc' := 168) dX7_goRound_167 rfl ?_
                              refine PW_iload1 (pc' := 169) dX7_goRound_168 rfl ?_
                              refine PW_callV1f (pc' := 172) dX7_goRound_169 rfl oX7_missedIn lX7_175 rfl rfl rfl (Nat.le_of_ble_eq_true rfl) (c_X7_missedIn (H := H) (cs := s_cs H r k (k + 1)) (hH0.scr ((((hfs.upf (by decide)).up (by decide)).up (by decide)).upf (by decide))) hk hcl (by rw [pv_up_at, if_neg (by omega), pv_up_at, if_pos ⟨rfl, rfl⟩])) ?_
                              refine PW_iadd (pc' := 173) dX7_goRound_172 rfl ?_
                              rw [nI_add]
                              refine PW_putI (pc' := 176) dX7_goRound_173 rfl fX7_166 w6_23 rfl rfl ?_
                              refine PW_iinc1 (pc' := 179) dX7_goRound_176 rfl rfl rfl nI_inc ?_
                              refine PW_goto (tgt := 38) dX7_goRound_179 rfl ?_
                              refine ih (m - 1) (by omega) (k + 1) _ _ _ (by omega) hwk ⟨?_, ?_, ?_, ?_, ?_, ?_, fun y hy => ?_, fun h hh => ?_⟩ rfl
                              · exact ((((hfs.upf (by decide)).up (by decide)).up (by decide)).upf (by decide)).upf (by decide)
                              · simp only [pv_up_o (show 40 ≠ 29 by decide), pv_up_o (show 40 ≠ 41 by decide), pv_up_o (show 40 ≠ 42 by decide)]; exact h40
                              · rw [pv_up_p (by omega), pv_up_p (by omega), pv_up_p (by omega), pv_up_p (by omega), pv_up_p (by omega)]; exact h24
                              · rw [pv_up_p (by omega), pv_up_p (by omega), pv_up_p (by omega), pv_up_p (by omega), pv_up_at, if_pos ⟨rfl, rfl⟩]
                              · rw [pv_up_p (by omega), pv_up_at, if_pos ⟨rfl, rfl⟩]
                              · rw [pv_up_at, if_pos ⟨rfl, rfl⟩]; rfl
                              · rw [pv_up_p (by omega), pv_up_p (by omega), pv_up_p (by omega)]; exact h42b y hy
                              · rw [pv_up_p (by omega), pv_up_p (by omega), pv_up_at]
                                by_cases hhk : h = k
                                · rw [if_pos ⟨rfl, hhk⟩, hhk]
                                · rw [if_neg (fun z => hhk z.2), pv_up_p (by omega), pv_up_p (by omega)]; exact h41 h (by omega)
                    · exact absurd rfl h88
                  · rw [hnvt] at h77
                    exact absurd h77 q2
set_option maxHeartbeats 4000000 in
theorem l_X7_goRound0 {Γ : pv_G} {d : Nat} {H : s_H} {nv : Option Nat} {r : Nat → Option Nat} {M0 : pv_M} (hH0 : HM M0 H) (hrow : s_row M0 40 6 H.1 r) (hnv : M0 29 9 = s_rI nv) (hnv2 : ∀ t, nv = some t → t < 5) : ∀ (m j : Nat) (M : pv_M), j + m = 5 → frS M0 M → M 40 = M0 40 → M 29 = M0 29 → (∀ t, t < j → M 42 t = -1) →
    PW Γ (d + 2) vX7_goRound 2 [.ref 29, .int (nI j), .null, .null] [] M (fun rr M' => rr = some (.int (bi (s_wrn H nv r 6).isNone)) ∧ gp_post H nv r M0 M') := by
  intro m
  induction m using Nat.strongRecOn with
  | ind m ih =>
    intro j M hjm hfs h40 h29 h42
    refine PW_iload1 (pc' := 3) dX7_goRound_2 rfl ?_
    refine PW_iconst (pc' := 4) dX7_goRound_3 rfl (v := nI 5) (by first | rfl | decide) ?_
    refine PW_icmp_ge (tgt := 20) (pc' := 7) dX7_goRound_4 rfl rfl (fun h4 => ?_) (fun h4 => ?_)
    · have hj : j = 5 := by have := s_bge (by omega) (by omega) h4; omega
      subst hj
      refine PW_aload0 (pc' := 21) dX7_goRound_20 rfl ?_
      refine PW_bipush (pc' := 23) dX7_goRound_21 rfl (v := -9) (by first | rfl | decide) ?_
      refine PW_putI (pc' := 26) dX7_goRound_23 rfl fX7_160 w6_21 rfl rfl ?_
      refine PW_aload0 (pc' := 27) dX7_goRound_26 rfl ?_
      refine PW_iconst (pc' := 28) dX7_goRound_27 rfl (v := 0) (by first | rfl | decide) ?_
      refine PW_putI (pc' := 31) dX7_goRound_28 rfl fX7_163 w6_22 rfl rfl ?_
      refine PW_aload0 (pc' := 32) dX7_goRound_31 rfl ?_
      refine PW_iconst (pc' := 33) dX7_goRound_32 rfl (v := 0) (by first | rfl | decide) ?_
      refine PW_putI (pc' := 36) dX7_goRound_33 rfl fX7_166 w6_23 rfl rfl ?_
      refine PW_iconst (pc' := 37) dX7_goRound_36 rfl (v := nI 0) (by first | rfl | decide) ?_
      refine PW_istore1 (pc' := 38) dX7_goRound_37 rfl rfl rfl ?_
      refine l_X7_goRound hH0 hrow hnv hnv2 6 0 _ _ _ (by omega) rfl ⟨?_, ?_, ?_, ?_, ?_, ?_, fun t ht => ?_, fun h hh => absurd hh (Nat.not_lt_zero h)⟩ rfl
      · exact ((hfs.upf (by decide)).upf (by decide)).upf (by decide)
      · simp only [pv_up_o (show 40 ≠ 29 by decide)]; exact h40
      · rw [pv_up_p (by omega), pv_up_p (by omega), pv_up_p (by omega), h29]
      · rw [pv_up_p (by omega), pv_up_p (by omega), pv_up_at, if_pos ⟨rfl, rfl⟩]
      · rw [pv_up_p (by omega), pv_up_at, if_pos ⟨rfl, rfl⟩]; rfl
      · rw [pv_up_at, if_pos ⟨rfl, rfl⟩]; rfl
      · rw [pv_up_p (by omega), pv_up_p (by omega), pv_up_p (by omega), h42 t ht]; exact iI_m1
    · have hj : j < 5 := s_bnd (by omega) (by omega) h4
      refine PW_aload0 (pc' := 8) dX7_goRound_7 rfl ?_
      refine PW_getR (pc' := 11) dX7_goRound_8 rfl fX7_46 rfl rfl ?_
      refine PW_iload1 (pc' := 12) dX7_goRound_11 rfl ?_
      refine PW_iconst (pc' := 13) dX7_goRound_12 rfl (v := -1) (by first | rfl | decide) ?_
      refine PW_iastn (pc' := 14) dX7_goRound_13 rfl rfl rfl (by omega) ?_
      refine PW_iinc1 (pc' := 17) dX7_goRound_14 rfl rfl rfl nI_inc ?_
      refine PW_goto (tgt := 2) dX7_goRound_17 rfl ?_
      refine ih (m - 1) (by omega) (j + 1) _ (by omega) (hfs.up (by decide)) ?_ ?_ (fun t ht => ?_)
      · rw [pv_up_o (by decide)]; exact h40
      · rw [pv_up_o (by decide)]; exact h29
      · rw [pv_up_at]
        by_cases htj : t = j
        · rw [if_pos ⟨rfl, htj⟩]
        · rw [if_neg (fun z => htj z.2)]; exact h42 t (by omega)
set_option maxHeartbeats 4000000 in
theorem c_X7_goRound {Γ : pv_G} {d : Nat} {M : pv_M} {H : s_H} {nv : Option Nat} {r : Nat → Option Nat} (hH0 : HM M H) (hrow : s_row M 40 6 H.1 r) (hnv : M 29 9 = s_rI nv) (hnv2 : ∀ t, nv = some t → t < 5) : Ct Γ (d + 2) vX7_goRound [.ref 29] M (fun rr M' => rr = some (.int (bi (s_wrn H nv r 6).isNone)) ∧ gp_post H nv r M M') := by
  refine Ct.of oX7_goRound.1 rfl (pad := 3) rfl ?_
  show PW Γ (d + 2) vX7_goRound 0 [.ref 29, .null, .null, .null] [] M _
  refine PW_iconst (pc' := 1) dX7_goRound_0 rfl (v := nI 0) (by first | rfl | decide) ?_
  refine PW_istore1 (pc' := 2) dX7_goRound_1 rfl rfl rfl ?_
  exact l_X7_goRound0 hH0 hrow hnv hnv2 5 0 M (by omega) frS.rf rfl rfl (fun t ht => absurd ht (Nat.not_lt_zero t))
