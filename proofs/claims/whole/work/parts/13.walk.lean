/-! the class: its walk through all rounds -/
def s_ext (p : Nat → Option Nat) (h : Nat) (o : Option Nat) : Nat → Option Nat := fun x => if x = h then o else p x
def s_note (h t b : Nat) (σ : s_S) : s_S := if b < σ.1 then (σ.1, σ.2.1, σ.2.2.1, σ.2.2.2.1, σ.2.2.2.2.1, fun x => if x = h then σ.2.2.2.2.2 h ||| 2 ^ t else σ.2.2.2.2.2 x) else σ
/-- one thing more in hour h, where it can be -/
def s_one (W : (Nat → Option Nat) → Nat → Nat → s_S → s_S) (H : s_H) (κ : s_K) (p : Nat → Option Nat) (h tk ms cs t : Nat) (σ : s_S) : s_S :=
  if κ.1 ≠ some t ∧ cs.testBit t = false ∧ s_fit κ h (cs ||| 2 ^ t) = true then s_note h t σ.1 (W (s_ext p h (some t)) (tk + s_gain H H.2.2.1 t h cs) (ms + s_miss1 H t h) σ) else σ
def s_non (W : (Nat → Option Nat) → Nat → Nat → s_S → s_S) (κ : s_K) (p : Nat → Option Nat) (h tk ms cs : Nat) (σ : s_S) : s_S :=
  if s_fit κ h cs = true then s_note h 5 σ.1 (W (s_ext p h none) tk ms σ) else σ
def s_all (W : (Nat → Option Nat) → Nat → Nat → s_S → s_S) (H : s_H) (κ : s_K) (p : Nat → Option Nat) (h tk ms : Nat) (σ : s_S) (j : Nat) : s_S :=
  (List.range j).foldl (fun σ t => s_one W H κ p h tk ms (s_cs H p h h) t σ) (s_non W κ p h tk ms (s_cs H p h h) σ)
def s_walk (H : s_H) (κ : s_K) : Nat → (Nat → Option Nat) → Nat → Nat → s_S → s_S
  | 0 => fun p tk ms σ => s_arr κ H.2.1 p tk ms σ
  | m + 1 => fun p tk ms σ => s_all (s_walk H κ m) H κ p (5 - m) tk ms σ H.1
theorem s_all_succ (W : (Nat → Option Nat) → Nat → Nat → s_S → s_S) (H : s_H) (κ : s_K) (p : Nat → Option Nat) (h tk ms : Nat) (σ : s_S) (j : Nat) : s_all W H κ p h tk ms σ (j + 1) = s_one W H κ p h tk ms (s_cs H p h h) j (s_all W H κ p h tk ms σ j) := by
  simp [s_all, List.range_succ, List.foldl_append]
theorem s_note_1 (h t b : Nat) (σ : s_S) : (s_note h t b σ).1 = σ.1 := by
  unfold s_note
  split <;> rfl
theorem s_all_cnt {W : (Nat → Option Nat) → Nat → Nat → s_S → s_S} {c : Nat} (hW : ∀ p tk ms σ, (W p tk ms σ).1 ≤ σ.1 + c) (H : s_H) (κ : s_K) (p : Nat → Option Nat) (h tk ms : Nat) (σ : s_S) : ∀ j, (s_all W H κ p h tk ms σ j).1 ≤ σ.1 + (j + 1) * c
  | 0 => by
    have := hW (s_ext p h none) tk ms σ
    simp only [s_all, List.range_zero, List.foldl_nil, s_non]
    split
    · rw [s_note_1]; omega
    · omega
  | j + 1 => by
    have ih := s_all_cnt hW H κ p h tk ms σ j
    rw [s_all_succ]
    generalize s_all W H κ p h tk ms σ j = σ1 at ih
    have e : (j + 1 + 1) * c = (j + 1) * c + c := by rw [Nat.add_mul (j + 1) 1 c, Nat.one_mul]
    unfold s_one
    split
    · rw [s_note_1]
      have := hW (s_ext p h (some j)) (tk + s_gain H H.2.2.1 j h (s_cs H p h h)) (ms + s_miss1 H j h) σ1
      omega
    · omega
theorem s_walk_cnt {H : s_H} (hn : H.1 ≤ 5) (κ : s_K) : ∀ m p tk ms σ, (s_walk H κ m p tk ms σ).1 ≤ σ.1 + 6 ^ m
  | 0, p, tk, ms, σ => by simp [s_walk, s_arr]
  | m + 1, p, tk, ms, σ => by
    have h := s_all_cnt (s_walk_cnt hn κ m) H κ p (5 - m) tk ms σ H.1
    simp only [s_walk]
    have e : (H.1 + 1) * 6 ^ m ≤ 6 * 6 ^ m := Nat.mul_le_mul_right _ (by omega)
    have e2 : 6 ^ (m + 1) = 6 * 6 ^ m := by rw [Nat.pow_succ, Nat.mul_comm]
    omega
theorem SX.fr {S : List Nat} {M M' : pv_M} {σ : s_S} (h : SX M σ) (hf : fr S M M') (h1 : 21 ∉ S ∧ 23 ∉ S ∧ 24 ∉ S ∧ 25 ∉ S) : SX M' σ := by
  obtain ⟨a, b, c, e, g⟩ := h
  refine ⟨by rw [hf 21 h1.1]; exact a, by rw [hf 21 h1.1]; exact b, by rw [hf 21 h1.1]; exact c, e, fun x hx => ?_⟩
  rw [hf 23 h1.2.1, hf 24 h1.2.2.1, hf 25 h1.2.2.2]
  exact g x hx
theorem KX.fr {S : List Nat} {M M' : pv_M} {κ : s_K} (h : KX M κ) (hf : fr S M M') (h1 : 21 ∉ S ∧ 26 ∉ S ∧ 27 ∉ S) : KX M' κ := by
  obtain ⟨a, b, c, e⟩ := h
  refine ⟨by rw [hf 21 h1.1]; exact a, by rw [hf 21 h1.1]; exact b, c, fun x hx => ?_⟩
  rw [hf 26 h1.2.1, hf 27 h1.2.2]
  exact e x hx
theorem m_note_fr {b : Nat} {σ : s_S} {M : pv_M} {h t : Nat} : fr [25] M (m_note b σ M h t) := by
  unfold m_note
  split
  · exact fr.rf.up (by decide)
  · exact fr.rf
theorem SX.note {M : pv_M} {σ : s_S} {h t b : Nat} (hS : SX M σ) (hh : h < 6) (ht : t < 6) : SX (m_note b σ M h t) (s_note h t b σ) := by
  unfold m_note s_note
  split
  · obtain ⟨a, b, c, e, g⟩ := hS
    refine ⟨by simpa [pv_up_at] using a, by simpa [pv_up_at] using b, by simpa [pv_up_at] using c, e, fun x hx => ?_⟩
    obtain ⟨g1, g2, g3, g4⟩ := g x hx
    refine ⟨by simpa [pv_up_at] using g1, by simpa [pv_up_at] using g2, ?_, ?_⟩
    · by_cases hxh : x = h
      · subst hxh
        simp [pv_up_at]
      · simpa [pv_up_at, hxh] using g3
    · by_cases hxh : x = h
      · subst hxh
        simpa using (bt_or _ g4 t ht).2
      · simpa [hxh] using g4
  · exact hS
/-- what a walk from hour h on leaves -/
def s_post (H : s_H) (κ : s_K) (M : pv_M) (h : Nat) (σ : s_S) : pv_M → Prop := fun M' => SX M' σ ∧ KX M' κ ∧ fr [21, 22, 23, 24, 25] M M' ∧ ∀ x, x < h → M' 22 x = M 22 x
set_option maxHeartbeats 4000000 in
/-- the walk from hour h on (h + m = 6), given that of one hour less -/
theorem l_X6_walk {Γ : pv_G} {H : s_H} {κ : s_K} (hok : s_ok H) (hwo : ∀ x, κ.1 = some x → x < H.1) {m d h tk ms : Nat} {p : Nat → Option Nat} {σ : s_S} {M : pv_M} (hm : h + (m + 1) = 6) (htk : tk ≤ 45 * h) (hms : ms ≤ 6 * h) (hcnt : σ.1 + 6 ^ (m + 1) ≤ 1000000)
    (IH : ∀ (M : pv_M) (p : Nat → Option Nat) (tk ms : Nat) (σ : s_S), HX M H → KX M κ → SX M σ → s_row M 22 (h + 1) H.1 p → σ.1 + 6 ^ m ≤ 1000000 → tk ≤ 45 * (h + 1) → ms ≤ 6 * (h + 1) →
      Ct Γ (d + m + 3) vX6_walk [.ref 21, .ref 10, .int (nI (h + 1)), .int (nI tk), .int (nI ms)] M (fun r M' => r = none ∧ s_post H κ M (h + 1) (s_walk H κ m p tk ms σ) M')) (hp : ∀ x, x < h → ∀ t, p x = some t → t < H.1) (hrow0 : ∀ x, x < h → M 22 x = s_rI (p x)) :
    ∀ (q j : Nat) (M1 : pv_M) (x7 : Value), j + q = H.1 → HX M1 H → s_post H κ M h (s_all (s_walk H κ m) H κ p h tk ms σ j) M1 →
    PW Γ (d + m + 3 + 1) vX6_walk 76 [.ref 21, .ref 10, .int (nI h), .int (nI tk), .int (nI ms), .int (nI (s_cs H p h h)), .int (nI j), x7] [] M1 (fun r M' => r = none ∧ s_post H κ M h (s_all (s_walk H κ m) H κ p h tk ms σ H.1) M') := by
  have hn5 := hok.1
  have hcs : s_cs H p h h < 64 := s_cs_lt hn5 h hp
  intro q
  induction q using Nat.strongRecOn with
  | ind q ih =>
    intro j M1 x7 hjq hH hpost
    obtain ⟨hS, hK, hF, hR⟩ := id hpost
    obtain ⟨-, hc1, hc2, hc3, hf⟩ := id hH
    obtain ⟨s1, -, -, ⟨s0, -⟩, -⟩ := id hS
    obtain ⟨k1, -⟩ := id hK
    have hcj := s_all_cnt (s_walk_cnt hn5 κ m) H κ p h tk ms σ j
    have e6 : 6 ^ (m + 1) = 6 * 6 ^ m := by rw [Nat.pow_succ, Nat.mul_comm]
    generalize hσj : s_all (s_walk H κ m) H κ p h tk ms σ j = σj at *
    refine PW_iload6 (pc' := 78) dX6_walk_76 rfl ?_
    refine PW_aload1 (pc' := 79) dX6_walk_78 rfl ?_
    refine PW_getI (pc' := 82) dX6_walk_79 rfl fX6_78 rfl rfl ?_
    rw [hc1]
    refine PW_icmp_ge (tgt := 181) (pc' := 85) dX6_walk_82 rfl rfl (fun h82 => ?_) (fun h82 => ?_)
    · have hj : j = H.1 := by have := s_bge (by omega) (by omega) h82; omega
      subst hj
      refine PW_return dX6_walk_181 rfl ⟨rfl, ?_⟩
      rw [hσj]
      exact hpost
    · have hj : j < H.1 := s_bnd (by omega) (by omega) h82
      refine PW_iload6 (pc' := 87) dX6_walk_85 rfl ?_
      refine PW_aload0 (pc' := 88) dX6_walk_87 rfl ?_
      refine PW_getI (pc' := 91) dX6_walk_88 rfl fX6_237 rfl rfl ?_
      rw [k1]
      refine PW_icmp_eq (tgt := 175) (pc' := 94) dX6_walk_91 rfl rfl (fun h91 => ?_) (fun h91 => ?_)
      · refine PW_iinc6 (pc' := 178) dX6_walk_175 rfl rfl rfl nI_inc ?_
        refine PW_goto (tgt := 76) dX6_walk_178 rfl ?_
        refine ih (q - 1) (by omega) (j + 1) M1 _ (by omega) hH ?_
        rw [s_all_succ, hσj, s_one, if_neg (fun z => z.1 ((s_rI_eq hn5 hj hwo).mp h91.symm))]
        exact hpost
      · have q1 : κ.1 ≠ some j := fun z => h91 ((s_rI_eq hn5 hj hwo).mpr z).symm
        refine PW_iload5 (pc' := 96) dX6_walk_94 rfl ?_
        refine PW_iload6 (pc' := 98) dX6_walk_96 rfl ?_
        refine PW_callS2f (pc' := 101) dX6_walk_98 rfl oX6_isIn lX6_161 (Nat.le_of_ble_eq_true rfl) (c_X6_isIn hcs (by omega)) ?_
        refine PW_if_ne (tgt := 175) (pc' := 104) dX6_walk_101 rfl rfl (fun h101 => ?_) (fun h101 => ?_)
        · refine PW_iinc6 (pc' := 178) dX6_walk_175 rfl rfl rfl nI_inc ?_
          refine PW_goto (tgt := 76) dX6_walk_178 rfl ?_
          refine ih (q - 1) (by omega) (j + 1) M1 _ (by omega) hH ?_
          rw [s_all_succ, hσj, s_one, if_neg (fun z => by have := bi_t h101; rw [z.2.1] at this; cases this)]
          exact hpost
        · have q2 := bi_f h101
          refine PW_aload0 (pc' := 105) dX6_walk_104 rfl ?_
          refine PW_iload2 (pc' := 106) dX6_walk_105 rfl ?_
          refine PW_iload5 (pc' := 108) dX6_walk_106 rfl ?_
          refine PW_iconst (pc' := 109) dX6_walk_108 rfl (v := 1) (by first | rfl | decide) ?_
          refine PW_iload6 (pc' := 111) dX6_walk_109 rfl ?_
          refine PW_ishl (pc' := 112) dX6_walk_111 rfl ?_
          rw [bt_one j (by omega)]
          refine PW_ior (pc' := 113) dX6_walk_112 rfl ?_
          rw [(bt_orn _ hcs _ (Nat.pow_lt_pow_right (by decide) (show j < 6 by omega))).1]
          refine PW_callV2f (pc' := 116) dX6_walk_113 rfl oX2_fits lX6_251 rfl rfl rfl (Nat.le_of_ble_eq_true rfl) (c_X2_fits (by omega) ((bt_or _ hcs j (by omega)).2) hK) ?_
          refine PW_if_eq (tgt := 175) (pc' := 119) dX6_walk_116 rfl rfl (fun h116 => ?_) (fun h116 => ?_)
          · refine PW_iinc6 (pc' := 178) dX6_walk_175 rfl rfl rfl nI_inc ?_
            refine PW_goto (tgt := 76) dX6_walk_178 rfl ?_
            refine ih (q - 1) (by omega) (j + 1) M1 _ (by omega) hH ?_
            rw [s_all_succ, hσj, s_one, if_neg (fun z => by have := bi_f h116; rw [z.2.2] at this; cases this)]
            exact hpost
          · have q3 := bi_t h116
            refine PW_aload0 (pc' := 120) dX6_walk_119 rfl ?_
            refine PW_getI (pc' := 123) dX6_walk_120 rfl fX6_175 rfl rfl ?_
            rw [s1]
            refine PW_istore7 (pc' := 125) dX6_walk_123 rfl rfl rfl ?_
            refine PW_aload0 (pc' := 126) dX6_walk_125 rfl ?_
            refine PW_getR (pc' := 129) dX6_walk_126 rfl fX6_248 rfl rfl ?_
            refine PW_iload2 (pc' := 130) dX6_walk_129 rfl ?_
            refine PW_iload6 (pc' := 132) dX6_walk_130 rfl ?_
            refine PW_iastn (pc' := 133) dX6_walk_132 rfl rfl rfl (by omega) ?_
            have hrw : s_row (pv_up M1 22 h (nI j)) 22 (h + 1) H.1 (s_ext p h (some j)) := by
              intro x hx
              by_cases hxh : x = h
              · subst hxh
                exact ⟨by simp [pv_up_at, s_ext, s_rI], fun t ht => by simp [s_ext] at ht; omega⟩
              · refine ⟨?_, fun t ht => hp x (by omega) t (by simpa [s_ext, hxh] using ht)⟩
                rw [pv_up_at, if_neg (by omega), hR x (by omega), hrow0 x (by omega)]
                simp [s_ext, hxh]
            refine PW_aload0 (pc' := 134) dX6_walk_133 rfl ?_
            refine PW_aload1 (pc' := 135) dX6_walk_134 rfl ?_
            refine PW_iload2 (pc' := 136) dX6_walk_135 rfl ?_
            refine PW_iconst (pc' := 137) dX6_walk_136 rfl (v := 1) (by first | rfl | decide) ?_
            refine PW_iadd (pc' := 138) dX6_walk_137 rfl ?_
            rw [nI_1]
            refine PW_iload3 (pc' := 139) dX6_walk_138 rfl ?_
            refine PW_aload1 (pc' := 140) dX6_walk_139 rfl ?_
            refine PW_iload6 (pc' := 142) dX6_walk_140 rfl ?_
            refine PW_iload2 (pc' := 143) dX6_walk_142 rfl ?_
            refine PW_iload5 (pc' := 145) dX6_walk_143 rfl ?_
            refine PW_aload1 (pc' := 146) dX6_walk_145 rfl ?_
            refine PW_getI (pc' := 149) dX6_walk_146 rfl fX6_114 rfl rfl ?_
            rw [show (pv_up M1 22 h (nI j)) 10 3 = nI H.2.2.1 from hc3]
            refine PW_callV4f (pc' := 152) dX6_walk_149 rfl oX0_gain lX6_257 rfl rfl rfl (Nat.le_of_ble_eq_true rfl) (c_X0_gain hj (by omega) hcs hok.2.2.1 (hH.fr (S := [22]) (fr.rf.up (by decide)) (by decide) (by decide))) ?_
            refine PW_iadd (pc' := 153) dX6_walk_152 rfl ?_
            rw [nI_add]
            refine PW_iload4 (pc' := 155) dX6_walk_153 rfl ?_
            refine PW_aload1 (pc' := 156) dX6_walk_155 rfl ?_
            refine PW_iload6 (pc' := 158) dX6_walk_156 rfl ?_
            refine PW_iload2 (pc' := 159) dX6_walk_158 rfl ?_
            refine PW_callV2f (pc' := 162) dX6_walk_159 rfl oX0_missedByTake lX6_261 rfl rfl rfl (Nat.le_of_ble_eq_true rfl) (c_X0_missedByTake hj (by omega) (hH.fr (S := [22]) (fr.rf.up (by decide)) (by decide) (by decide))) ?_
            refine PW_iadd (pc' := 163) dX6_walk_162 rfl ?_
            rw [nI_add]
            refine PW_callS5w (pc' := 166) dX6_walk_163 rfl oX6_walk lX6_151 (Nat.le_of_ble_eq_true rfl) (IH _ (s_ext p h (some j)) _ _ σj (hH.fr (S := [22]) (fr.rf.up (by decide)) (by decide) (by decide)) (hK.fr (S := [22]) (fr.rf.up (by decide)) (by decide)) (hS.fr (S := [22]) (fr.rf.up (by decide)) (by decide)) hrw (by have := Nat.mul_le_mul_right (6 ^ m) (show j + 1 ≤ 5 by omega); omega) (by have := s_gain_le hok (lw := H.2.2.1) (h := h) (cs := s_cs H p h h) hj; omega) (by have := s_pop_le (H.2.2.2 4 j &&& s_span (H.2.2.2 3 j) h); simp only [s_miss1]; omega)) (fun M2 hM2 => ?_)
            obtain ⟨hS2, hK2, hF2, hR2⟩ := hM2
            have hH2 : HX M2 H := HX.fr (S := [21, 22, 23, 24, 25]) (hH.fr (S := [22]) (fr.rf.up (by decide)) (by decide) (by decide)) hF2 (by decide) (by decide)
            refine PW_aload0 (pc' := 167) dX6_walk_166 rfl ?_
            refine PW_iload2 (pc' := 168) dX6_walk_167 rfl ?_
            refine PW_iload6 (pc' := 170) dX6_walk_168 rfl ?_
            refine PW_iload7 (pc' := 172) dX6_walk_170 rfl ?_
            refine PW_callV3v (pc' := 175) dX6_walk_172 rfl oX2_note lX6_254 rfl rfl rfl (Nat.le_of_ble_eq_true rfl) (c_X2_note (by omega) (by omega) (by omega) hS2) ?_
            refine PW_iinc6 (pc' := 178) dX6_walk_175 rfl rfl rfl nI_inc ?_
            refine PW_goto (tgt := 76) dX6_walk_178 rfl ?_
            refine ih (q - 1) (by omega) (j + 1) _ _ (by omega) (hH2.fr m_note_fr (by decide) (by decide)) ?_
            rw [s_all_succ, hσj, s_one, if_pos ⟨q1, q2, q3⟩]
            refine ⟨hS2.note (by omega) (by omega), hK2.fr m_note_fr (by decide), ?_, fun x hx => ?_⟩
            · exact ((hF.tr (fr.up fr.rf (by decide))).tr hF2).tr (m_note_fr.sub (by decide))
            · rw [m_note_fr 22 (by decide), hR2 x (by omega), pv_up_at, if_neg (by omega), hR x hx]
set_option maxHeartbeats 4000000 in
theorem c_X6_walk {Γ : pv_G} {H : s_H} {κ : s_K} (hok : s_ok H) (hwo : ∀ x, κ.1 = some x → x < H.1) : ∀ (m d h : Nat) (M : pv_M) (p : Nat → Option Nat) (tk ms : Nat) (σ : s_S), h + m = 6 → HX M H → KX M κ → SX M σ → s_row M 22 h H.1 p → σ.1 + 6 ^ m ≤ 1000000 → tk ≤ 45 * h → ms ≤ 6 * h →
    Ct Γ (d + m + 3) vX6_walk [.ref 21, .ref 10, .int (nI h), .int (nI tk), .int (nI ms)] M (fun r M' => r = none ∧ s_post H κ M h (s_walk H κ m p tk ms σ) M') := by
  have hn5 := hok.1
  intro m
  induction m with
  | zero =>
    intro d h M p tk ms σ hm hH hK hS hrow hcnt htk hms
    obtain ⟨-, hc1, hc2, hc3, hf⟩ := id hH
    have hh : h = 6 := by omega
    subst hh
    refine Ct.of oX6_walk.1 rfl (pad := 3) rfl ?_
    show PW Γ (d + 3) vX6_walk 0 [.ref 21, .ref 10, .int (nI 6), .int (nI tk), .int (nI ms), .null, .null, .null] [] M _
    refine PW_iload2 (pc' := 1) dX6_walk_0 rfl ?_
    refine PW_bipush (pc' := 3) dX6_walk_1 rfl (v := 6) (by first | rfl | decide) ?_
    refine PW_icmp_lt (tgt := 18) (pc' := 6) dX6_walk_3 rfl rfl (fun h3 => ?_) (fun h3 => ?_)
    · exact absurd h3 (by decide)
    · refine PW_aload0 (pc' := 7) dX6_walk_6 rfl ?_
      refine PW_iload3 (pc' := 8) dX6_walk_7 rfl ?_
      refine PW_iload4 (pc' := 10) dX6_walk_8 rfl ?_
      refine PW_aload1 (pc' := 11) dX6_walk_10 rfl ?_
      refine PW_getI (pc' := 14) dX6_walk_11 rfl fX6_111 rfl rfl ?_
      rw [hc2]
      refine PW_callV3v (pc' := 17) dX6_walk_14 rfl oX2_arrive lX6_244 rfl rfl rfl (Nat.le_of_ble_eq_true rfl) (c_X2_arrive) ?_
      refine PW_return dX6_walk_17 rfl ?_
      have hA := m_arr_at (tk := tk) (ms := ms) (pen := H.2.1) (by omega) (by omega) hok.2.1 hS hK (by simp at hcnt; omega) (fun x hx => (hrow x hx).1)
      exact ⟨rfl, hA.1, hA.2.1, hA.2.2.sub (T := [21, 22, 23, 24, 25]) (by decide), fun x hx => by rw [hA.2.2 22 (by decide)]⟩
  | succ m IH =>
    intro d h M p tk ms σ hm hH hK hS hrow hcnt htk hms
    obtain ⟨-, hc1, hc2, hc3, hf⟩ := id hH
    obtain ⟨s1, -⟩ := id hS
    have hp : ∀ x, x < h → ∀ t, p x = some t → t < H.1 := fun x hx => (hrow x hx).2
    have hcs : s_cs H p h h < 64 := s_cs_lt hn5 h hp
    have e6 : 6 ^ (m + 1) = 6 * 6 ^ m := by rw [Nat.pow_succ, Nat.mul_comm]
    have h5m : 5 - m = h := by omega
    have IH2 := fun M p tk ms σ => IH d (h + 1) M p tk ms σ (by omega)
    have hloop := l_X6_walk (Γ := Γ) (d := d) (tk := tk) (ms := ms) (σ := σ) (M := M) hok hwo hm htk hms hcnt IH2 hp (fun x hx => (hrow x hx).1) H.1 0
    simp only [s_walk]
    rw [h5m]
    have hM1 : fr [22] M (pv_up M 22 h (-9)) := fr.rf.up (by decide)
    have hrw : s_row (pv_up M 22 h (-9)) 22 (h + 1) H.1 (s_ext p h none) := by
      intro x hx
      by_cases hxh : x = h
      · subst hxh
        exact ⟨by simp [pv_up_at, s_ext, s_rI], fun t ht => by simp [s_ext] at ht⟩
      · refine ⟨?_, fun t ht => hp x (by omega) t (by simpa [s_ext, hxh] using ht)⟩
        rw [pv_up_at, if_neg (by omega), (hrow x (by omega)).1]
        simp [s_ext, hxh]
    have hg1 : s_fit κ h (s_cs H p h h) = false → s_post H κ M h (s_all (s_walk H κ m) H κ p h tk ms σ 0) (pv_up M 22 h (-9)) := by
      intro q0
      have e : s_all (s_walk H κ m) H κ p h tk ms σ 0 = σ := by simp [s_all, s_non, q0]
      rw [e]
      exact ⟨hS.fr hM1 (by decide), hK.fr hM1 (by decide), hM1.sub (by decide), fun x hx => by rw [pv_up_at, if_neg (by omega)]⟩
    have hg2 : s_fit κ h (s_cs H p h h) = true → ∀ M2, SX M2 (s_walk H κ m (s_ext p h none) tk ms σ) → KX M2 κ → fr [21, 22, 23, 24, 25] (pv_up M 22 h (-9)) M2 → (∀ x, x < h + 1 → M2 22 x = (pv_up M 22 h (-9)) 22 x) → s_post H κ M h (s_all (s_walk H κ m) H κ p h tk ms σ 0) (m_note σ.1 (s_walk H κ m (s_ext p h none) tk ms σ) M2 h 5) := by
      intro q0 M2 hS2 hK2 hF2 hR2
      have e : s_all (s_walk H κ m) H κ p h tk ms σ 0 = s_note h 5 σ.1 (s_walk H κ m (s_ext p h none) tk ms σ) := by simp [s_all, s_non, q0]
      rw [e]
      refine ⟨hS2.note (by omega) (by decide), hK2.fr m_note_fr (by decide), ?_, fun x hx => ?_⟩
      · exact ((hM1.sub (by decide)).tr hF2).tr (m_note_fr.sub (by decide))
      · rw [m_note_fr 22 (by decide), hR2 x (by omega), pv_up_at, if_neg (by omega)]
    rw [show d + (m + 1) + 3 = d + m + 3 + 1 by omega]
    refine Ct.of oX6_walk.1 rfl (pad := 3) rfl ?_
    show PW Γ (d + m + 3 + 1) vX6_walk 0 [.ref 21, .ref 10, .int (nI h), .int (nI tk), .int (nI ms), .null, .null, .null] [] M _
    refine PW_iload2 (pc' := 1) dX6_walk_0 rfl ?_
    refine PW_bipush (pc' := 3) dX6_walk_1 rfl (v := 6) (by first | rfl | decide) ?_
    refine PW_icmp_lt (tgt := 18) (pc' := 6) dX6_walk_3 rfl rfl (fun h3 => ?_) (fun h3 => ?_)
    · refine PW_aload1 (pc' := 19) dX6_walk_18 rfl ?_
      refine PW_aload0 (pc' := 20) dX6_walk_19 rfl ?_
      refine PW_getR (pc' := 23) dX6_walk_20 rfl fX6_248 rfl rfl ?_
      refine PW_iload2 (pc' := 24) dX6_walk_23 rfl ?_
      refine PW_iload2 (pc' := 25) dX6_walk_24 rfl ?_
      refine PW_callV3f (pc' := 28) dX6_walk_25 rfl oX0_casesBy lX6_125 rfl rfl rfl (Nat.le_of_ble_eq_true rfl) (c_X0_casesBy (H := H) (r := p) rfl (by omega) (by omega) hH hrow) ?_
      refine PW_istore5 (pc' := 30) dX6_walk_28 rfl rfl rfl ?_
      refine PW_aload0 (pc' := 31) dX6_walk_30 rfl ?_
      refine PW_getR (pc' := 34) dX6_walk_31 rfl fX6_248 rfl rfl ?_
      refine PW_iload2 (pc' := 35) dX6_walk_34 rfl ?_
      refine PW_bipush (pc' := 37) dX6_walk_35 rfl (v := -9) (by first | rfl | decide) ?_
      refine PW_iastn (pc' := 38) dX6_walk_37 rfl rfl rfl (by omega) ?_
      refine PW_aload0 (pc' := 39) dX6_walk_38 rfl ?_
      refine PW_iload2 (pc' := 40) dX6_walk_39 rfl ?_
      refine PW_iload5 (pc' := 42) dX6_walk_40 rfl ?_
      refine PW_callV2f (pc' := 45) dX6_walk_42 rfl oX2_fits lX6_251 rfl rfl rfl (Nat.le_of_ble_eq_true rfl) (c_X2_fits (by omega) hcs (hK.fr hM1 (by decide))) ?_
      refine PW_if_eq (tgt := 73) (pc' := 48) dX6_walk_45 rfl rfl (fun h45 => ?_) (fun h45 => ?_)
      · have q0 := bi_f h45
        refine PW_iconst (pc' := 74) dX6_walk_73 rfl (v := nI 0) (by first | rfl | decide) ?_
        refine PW_istore6 (pc' := 76) dX6_walk_74 rfl rfl rfl ?_
        first
          | exact hloop _ _ (by omega) (hH.fr hM1 (by decide) (by decide)) (hg1 q0)
          | exact hloop _ _ (by omega) (hH2.fr m_note_fr (by decide) (by decide)) (hg2 q0 M2 hS2 hK2 hF2 hR2)
      · have q0 := bi_t h45
        refine PW_aload0 (pc' := 49) dX6_walk_48 rfl ?_
        refine PW_getI (pc' := 52) dX6_walk_49 rfl fX6_175 rfl rfl ?_
        refine PW_istore6 (pc' := 54) dX6_walk_52 rfl rfl rfl ?_
        rw [show (pv_up M 22 h (-9)) 21 8 = nI σ.1 from s1]
        refine PW_aload0 (pc' := 55) dX6_walk_54 rfl ?_
        refine PW_aload1 (pc' := 56) dX6_walk_55 rfl ?_
        refine PW_iload2 (pc' := 57) dX6_walk_56 rfl ?_
        refine PW_iconst (pc' := 58) dX6_walk_57 rfl (v := 1) (by first | rfl | decide) ?_
        refine PW_iadd (pc' := 59) dX6_walk_58 rfl ?_
        rw [nI_1]
        refine PW_iload3 (pc' := 60) dX6_walk_59 rfl ?_
        refine PW_iload4 (pc' := 62) dX6_walk_60 rfl ?_
        refine PW_callS5w (pc' := 65) dX6_walk_62 rfl oX6_walk lX6_151 (Nat.le_of_ble_eq_true rfl) (IH2 _ (s_ext p h none) _ _ σ (hH.fr hM1 (by decide) (by decide)) (hK.fr hM1 (by decide)) (hS.fr hM1 (by decide)) hrw (by omega) (by omega) (by omega)) (fun M2 hM2 => ?_)
        obtain ⟨hS2, hK2, hF2, hR2⟩ := hM2
        have hH2 : HX M2 H := HX.fr (S := [21, 22, 23, 24, 25]) (hH.fr hM1 (by decide) (by decide)) hF2 (by decide) (by decide)
        refine PW_aload0 (pc' := 66) dX6_walk_65 rfl ?_
        refine PW_iload2 (pc' := 67) dX6_walk_66 rfl ?_
        refine PW_iconst (pc' := 68) dX6_walk_67 rfl (v := nI 5) (by first | rfl | decide) ?_
        refine PW_iload6 (pc' := 70) dX6_walk_68 rfl ?_
        refine PW_callV3v (pc' := 73) dX6_walk_70 rfl oX2_note lX6_254 rfl rfl rfl (Nat.le_of_ble_eq_true rfl) (c_X2_note (by omega) (by decide) (by omega) hS2) ?_
        refine PW_iconst (pc' := 74) dX6_walk_73 rfl (v := nI 0) (by first | rfl | decide) ?_
        refine PW_istore6 (pc' := 76) dX6_walk_74 rfl rfl rfl ?_
        first
          | exact hloop _ _ (by omega) (hH.fr hM1 (by decide) (by decide)) (hg1 q0)
          | exact hloop _ _ (by omega) (hH2.fr m_note_fr (by decide) (by decide)) (hg2 q0 M2 hS2 hK2 hF2 hR2)
    · exact absurd (show nI h < 6 from nI_lt (a := h) (b := 6) (by omega) (by decide)) h3
