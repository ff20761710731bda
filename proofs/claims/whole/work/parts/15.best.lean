/-! the class: best rounds, rounds as read; small calls -/
def s_N : Nat → Option Nat := fun _ => none
/-- the search without a thing (or with all), as the class walks it -/
def s_best (H : s_H) (w : Option Nat) : s_S := s_walk H (w, 30, fun _ => 0, fun _ => 0) 6 s_N 0 0 s_S0
def s_mild (H : s_H) (v : Nat) : s_S := s_walk H (none, v, fun _ => 0, fun _ => 0) 6 s_N 0 0 s_S0
def s_read (H : s_H) (rd : s_R) : s_S := s_walk H (none, 30, fun h => s_mask rd true h rd.1, fun h => s_mask rd false h rd.1) 6 s_N 0 0 s_S0
abbrev s_22 : List Nat := [21, 22, 23, 24, 25, 26, 27]
theorem s_row0 (M : pv_M) (pl n : Nat) (r : Nat → Option Nat) : s_row M pl 0 n r := fun h hh => absurd hh (Nat.not_lt_zero h)
set_option maxHeartbeats 4000000 in
theorem c_X6_searchBest {Γ : pv_G} {d : Nat} {M : pv_M} {H : s_H} {w : Option Nat} (hw : ∀ x, w = some x → x < H.1) (hH : HX M H) : Ct Γ (d + 10) vX6_searchBest [.ref 0, .int (s_rI w)] M (fun r M' => r = none ∧ (SX M' (s_best H w) ∧ fr s_22 M M')) := by
  have hok := hH.1
  refine Ct.of oX6_searchBest.1 rfl (pad := 0) rfl ?_
  show PW Γ (d + 10) vX6_searchBest 0 [.ref 0, .int (s_rI w)] [] M _
  refine PW_aload0 (pc' := 1) dX6_searchBest_0 rfl ?_
  refine PW_getR (pc' := 4) dX6_searchBest_1 rfl fX6_35 rfl rfl ?_
  refine PW_callV0w (pc' := 7) dX6_searchBest_4 rfl oX2_clear lX6_145 rfl rfl rfl (Nat.le_of_ble_eq_true rfl) (c_X2_clear) (fun M1 hM1 => ?_)
  obtain ⟨hS1, hK1, hF1⟩ := hM1
  have hF1 : fr s_22 M (pv_up M1 21 6 (s_rI w)) := hF1.up (by decide)
  refine PW_aload0 (pc' := 8) dX6_searchBest_7 rfl ?_
  refine PW_getR (pc' := 11) dX6_searchBest_8 rfl fX6_35 rfl rfl ?_
  refine PW_iload1 (pc' := 12) dX6_searchBest_11 rfl ?_
  refine PW_putI (pc' := 15) dX6_searchBest_12 rfl fX6_237 w2_6 rfl rfl ?_
  have hS2 : SX (pv_up M1 21 6 (s_rI w)) s_S0 := by
    obtain ⟨a, b, c, e, g⟩ := hS1
    exact ⟨by simpa [pv_up_at] using a, by simpa [pv_up_at] using b, by simpa [pv_up_at] using c, e, fun x hx => by simpa [pv_up_at] using g x hx⟩
  have hK2 : KX (pv_up M1 21 6 (s_rI w)) (w, 30, fun _ => 0, fun _ => 0) := by
    obtain ⟨a, b, c, e⟩ := hK1
    exact ⟨by simp [pv_up_at], by simpa [pv_up_at, s_K0] using b, c, fun x hx => by simpa [pv_up_at, s_K0] using e x hx⟩
  refine PW_aload0 (pc' := 16) dX6_searchBest_15 rfl ?_
  refine PW_getR (pc' := 19) dX6_searchBest_16 rfl fX6_35 rfl rfl ?_
  refine PW_aload0 (pc' := 20) dX6_searchBest_19 rfl ?_
  refine PW_getR (pc' := 23) dX6_searchBest_20 rfl fX6_21 rfl rfl ?_
  refine PW_iconst (pc' := 24) dX6_searchBest_23 rfl (v := nI 0) (by first | rfl | decide) ?_
  refine PW_iconst (pc' := 25) dX6_searchBest_24 rfl (v := nI 0) (by first | rfl | decide) ?_
  refine PW_iconst (pc' := 26) dX6_searchBest_25 rfl (v := nI 0) (by first | rfl | decide) ?_
  refine PW_callS5w (pc' := 29) dX6_searchBest_26 rfl oX6_walk lX6_151 (Nat.le_of_ble_eq_true rfl) (c_X6_walk (κ := (w, 30, fun _ => 0, fun _ => 0)) hok hw 6 d 0 _ s_N 0 0 s_S0 (by decide) (hH.fr hF1 (by decide) (by decide)) hK2 hS2 (s_row0 _ _ _ _) (by decide) (by decide) (by decide)) (fun M2 hM2 => ?_)
  obtain ⟨hS3, hK3, hF3, hR3⟩ := hM2
  refine PW_return dX6_searchBest_29 rfl ?_
  exact ⟨rfl, hS3, hF1.tr (hF3.sub (by decide))⟩
set_option maxHeartbeats 4000000 in
theorem c_X6_searchRead {Γ : pv_G} {d : Nat} {M : pv_M} {H : s_H} {rd : s_R} (hH : HX M H) (hR : RX M H.1 rd) : Ct Γ (d + 10) vX6_searchRead [.ref 0] M (fun r M' => r = none ∧ (SX M' (s_read H rd) ∧ fr s_22 M M')) := by
  have hok := hH.1
  refine Ct.of oX6_searchRead.1 rfl (pad := 0) rfl ?_
  show PW Γ (d + 10) vX6_searchRead 0 [.ref 0] [] M _
  refine PW_aload0 (pc' := 1) dX6_searchRead_0 rfl ?_
  refine PW_getR (pc' := 4) dX6_searchRead_1 rfl fX6_35 rfl rfl ?_
  refine PW_callV0w (pc' := 7) dX6_searchRead_4 rfl oX2_clear lX6_145 rfl rfl rfl (Nat.le_of_ble_eq_true rfl) (c_X2_clear) (fun M1 hM1 => ?_)
  obtain ⟨hS1, hK1, hF1⟩ := hM1
  refine PW_aload0 (pc' := 8) dX6_searchRead_7 rfl ?_
  refine PW_getR (pc' := 11) dX6_searchRead_8 rfl fX6_28 rfl rfl ?_
  refine PW_aload0 (pc' := 12) dX6_searchRead_11 rfl ?_
  refine PW_getR (pc' := 15) dX6_searchRead_12 rfl fX6_35 rfl rfl ?_
  refine PW_callV1w (pc' := 18) dX6_searchRead_15 rfl oX1_bind lX6_240 rfl rfl rfl (Nat.le_of_ble_eq_true rfl) (c_X1_bind hok.1 (hR.fr hF1 (by decide)) (fun h hh => ⟨(hK1.2.2.2 h hh).1, (hK1.2.2.2 h hh).2.2.1⟩)) (fun M2 hM2 => ?_)
  obtain ⟨hF2, hB⟩ := hM2
  have hF12 : fr s_22 M M2 := hF1.tr (hF2.sub (by decide))
  have hS2 : SX M2 s_S0 := hS1.fr hF2 (by decide)
  have hK2 : KX M2 (none, 30, fun h => s_mask rd true h rd.1, fun h => s_mask rd false h rd.1) := by
    obtain ⟨a, b, c, e⟩ := hK1
    exact ⟨by rw [hF2 21 (by decide)]; exact a, by rw [hF2 21 (by decide)]; exact b, c, fun x hx => ⟨(hB x hx).1, s_mask_lt hok.1 _ (fun i hi => (hR.2.2 i hi).1.2), (hB x hx).2, s_mask_lt hok.1 _ (fun i hi => (hR.2.2 i hi).1.2)⟩⟩
  refine PW_aload0 (pc' := 19) dX6_searchRead_18 rfl ?_
  refine PW_getR (pc' := 22) dX6_searchRead_19 rfl fX6_35 rfl rfl ?_
  refine PW_aload0 (pc' := 23) dX6_searchRead_22 rfl ?_
  refine PW_getR (pc' := 26) dX6_searchRead_23 rfl fX6_21 rfl rfl ?_
  refine PW_iconst (pc' := 27) dX6_searchRead_26 rfl (v := nI 0) (by first | rfl | decide) ?_
  refine PW_iconst (pc' := 28) dX6_searchRead_27 rfl (v := nI 0) (by first | rfl | decide) ?_
  refine PW_iconst (pc' := 29) dX6_searchRead_28 rfl (v := nI 0) (by first | rfl | decide) ?_
  refine PW_callS5w (pc' := 32) dX6_searchRead_29 rfl oX6_walk lX6_151 (Nat.le_of_ble_eq_true rfl) (c_X6_walk (κ := (none, 30, fun h => s_mask rd true h rd.1, fun h => s_mask rd false h rd.1)) hok (fun x hx => by cases hx) 6 d 0 _ s_N 0 0 s_S0 (by decide) (hH.fr hF12 (by decide) (by decide)) hK2 hS2 (s_row0 _ _ _ _) (by decide) (by decide) (by decide)) (fun M3 hM3 => ?_)
  obtain ⟨hS3, hK3, hF3, hR3⟩ := hM3
  refine PW_return dX6_searchRead_32 rfl ?_
  exact ⟨rfl, hS3, hF12.tr (hF3.sub (by decide))⟩
/-- in how many of the first k hours thing t is taken -/
def s_tk (b : Nat → Option Nat) (t : Nat) : Nat → Nat
  | 0 => 0
  | k + 1 => if b k = some t then s_tk b t k + 1 else s_tk b t k
theorem s_tk_le (b : Nat → Option Nat) (t : Nat) : ∀ k, s_tk b t k ≤ k
  | 0 => Nat.le_refl _
  | k + 1 => by
    have := s_tk_le b t k
    simp only [s_tk]
    split <;> omega
/-- the rows that a search keeps hold things of the house -/
def s_in (n : Nat) (σ : s_S) : Prop := ∀ h t, (σ.2.1 h = some t → t < n) ∧ (σ.2.2.1 h = some t → t < n)
theorem s_ext_in {p : Nat → Option Nat} {n h : Nat} {o : Option Nat} (hp : ∀ x t, p x = some t → t < n) (ho : ∀ t, o = some t → t < n) : ∀ x t, s_ext p h o x = some t → t < n := by
  intro x t hx
  unfold s_ext at hx
  split at hx
  · exact ho t hx
  · exact hp x t hx
theorem s_note_in {n h t b : Nat} {σ : s_S} (hσ : s_in n σ) : s_in n (s_note h t b σ) := by
  unfold s_note
  split
  · exact hσ
  · exact hσ
theorem s_arr_in {n pen tk ms : Nat} {κ : s_K} {p : Nat → Option Nat} {σ : s_S} (hp : ∀ x t, p x = some t → t < n) (hσ : s_in n σ) : s_in n (s_arr κ pen p tk ms σ) := by
  intro h t
  simp only [s_arr]
  refine ⟨fun q => ?_, fun q => ?_⟩
  · split at q
    · exact hp h t q
    · exact (hσ h t).1 q
  · split at q
    · exact hp h t q
    · exact (hσ h t).2 q
theorem s_all_in {W : (Nat → Option Nat) → Nat → Nat → s_S → s_S} {H : s_H} {κ : s_K} {p : Nat → Option Nat} {h tk ms : Nat} {σ : s_S} (hW : ∀ p tk ms σ, (∀ x t, p x = some t → t < H.1) → s_in H.1 σ → s_in H.1 (W p tk ms σ)) (hp : ∀ x t, p x = some t → t < H.1) (hσ : s_in H.1 σ) : ∀ j, j ≤ H.1 → s_in H.1 (s_all W H κ p h tk ms σ j)
  | 0, _ => by
    simp only [s_all, List.range_zero, List.foldl_nil, s_non]
    split
    · exact s_note_in (hW _ _ _ _ (s_ext_in hp (fun t ht => by cases ht)) hσ)
    · exact hσ
  | j + 1, hj => by
    have ih := s_all_in (κ := κ) (h := h) (tk := tk) (ms := ms) hW hp hσ j (by omega)
    rw [s_all_succ]
    unfold s_one
    split
    · exact s_note_in (hW _ _ _ _ (s_ext_in hp (fun t ht => by cases ht; omega)) ih)
    · exact ih
theorem s_walk_in {H : s_H} {κ : s_K} : ∀ m p tk ms σ, (∀ x t, p x = some t → t < H.1) → s_in H.1 σ → s_in H.1 (s_walk H κ m p tk ms σ)
  | 0, p, tk, ms, σ, hp, hσ => s_arr_in hp hσ
  | m + 1, p, tk, ms, σ, hp, hσ => s_all_in (fun p tk ms σ => s_walk_in m p tk ms σ) hp hσ H.1 (Nat.le_refl _)
theorem s_S0_in (n : Nat) : s_in n s_S0 := fun h t => ⟨fun q => (by cases q), fun q => (by cases q)⟩
theorem s_best_in (H : s_H) (w : Option Nat) : s_in H.1 (s_best H w) := s_walk_in 6 _ _ _ _ (fun x t q => by cases q) (s_S0_in _)
theorem s_read_in (H : s_H) (rd : s_R) : s_in H.1 (s_read H rd) := s_walk_in 6 _ _ _ _ (fun x t q => by cases q) (s_S0_in _)
def s_takes (H : s_H) (t : Nat) : Nat := s_tk (s_best H none).2.2.1 t 6
set_option maxHeartbeats 4000000 in
theorem l_X6_takesByBest {Γ : pv_G} {d t : Nat} {M0 M : pv_M} {H : s_H} (hn5 : H.1 ≤ 5) (ht : t < H.1) (hS : SX M (s_best H none)) (hF : fr s_22 M0 M) : ∀ (m j : Nat), j + m = 6 →
    PW Γ (d + 11) vX6_takesByBest 10 [.ref 0, .int (nI t), .int (nI (s_tk (s_best H none).2.2.1 t j)), .int (nI j)] [] M (fun r M' => r = some (.int (nI (s_takes H t))) ∧ fr s_22 M0 M') := by
  obtain ⟨-, -, -, -, hb⟩ := id hS
  intro m
  induction m using Nat.strongRecOn with
  | ind m ih =>
    intro j hjm
    refine PW_iload3 (pc' := 11) dX6_takesByBest_10 rfl ?_
    refine PW_bipush (pc' := 13) dX6_takesByBest_11 rfl (v := nI 6) (by first | rfl | decide) ?_
    refine PW_icmp_ge (tgt := 38) (pc' := 16) dX6_takesByBest_13 rfl rfl (fun h13 => ?_) (fun h13 => ?_)
    · have hj : j = 6 := by have := s_bge (by omega) (by omega) h13; omega
      subst hj
      refine PW_iload2 (pc' := 39) dX6_takesByBest_38 rfl ?_
      exact PW_ireturn .int dX6_takesByBest_39 rfl rfl ⟨rfl, hF⟩
    · have hj : j < 6 := s_bnd (by omega) (by omega) h13
      have hin := s_best_in H none j
      refine PW_aload0 (pc' := 17) dX6_takesByBest_16 rfl ?_
      refine PW_getR (pc' := 20) dX6_takesByBest_17 rfl fX6_35 rfl rfl ?_
      refine PW_getR (pc' := 23) dX6_takesByBest_20 rfl fX6_142 rfl rfl ?_
      refine PW_iload3 (pc' := 24) dX6_takesByBest_23 rfl ?_
      refine PW_ialdn (pc' := 25) dX6_takesByBest_24 rfl rfl rfl (by omega) ?_
      rw [(hb j hj).2.1]
      refine PW_iload1 (pc' := 26) dX6_takesByBest_25 rfl ?_
      refine PW_icmp_ne (tgt := 32) (pc' := 29) dX6_takesByBest_26 rfl rfl (fun h26 => ?_) (fun h26 => ?_)
      · have e : s_tk (s_best H none).2.2.1 t (j + 1) = s_tk (s_best H none).2.2.1 t j := by simp only [s_tk]; rw [if_neg (fun z => h26 ((s_rI_eq hn5 ht (fun x => (hin x).2)).mpr z))]
        refine PW_iinc3 (pc' := 35) dX6_takesByBest_32 rfl rfl rfl nI_inc ?_
        refine PW_goto (tgt := 10) dX6_takesByBest_35 rfl ?_
        rw [← e]
        exact ih (m - 1) (by omega) (j + 1) (by omega)
      · have e : s_tk (s_best H none).2.2.1 t (j + 1) = s_tk (s_best H none).2.2.1 t j + 1 := by simp only [s_tk]; rw [if_pos ((s_rI_eq hn5 ht (fun x => (hin x).2)).mp h26)]
        refine PW_iinc2 (pc' := 32) dX6_takesByBest_29 rfl rfl rfl nI_inc ?_
        refine PW_iinc3 (pc' := 35) dX6_takesByBest_32 rfl rfl rfl nI_inc ?_
        refine PW_goto (tgt := 10) dX6_takesByBest_35 rfl ?_
        rw [← e]
        exact ih (m - 1) (by omega) (j + 1) (by omega)
set_option maxHeartbeats 4000000 in
theorem c_X6_takesByBest {Γ : pv_G} {d : Nat} {M : pv_M} {t : Nat} {H : s_H} (ht : t < H.1) (hH : HX M H) : Ct Γ (d + 11) vX6_takesByBest [.ref 0, .int (nI t)] M (fun r M' => r = some (.int (nI (s_takes H t))) ∧ fr s_22 M M') := by
  have hok := hH.1
  refine Ct.of oX6_takesByBest.1 rfl (pad := 2) rfl ?_
  show PW Γ (d + 11) vX6_takesByBest 0 [.ref 0, .int (nI t), .null, .null] [] M _
  refine PW_aload0 (pc' := 1) dX6_takesByBest_0 rfl ?_
  refine PW_bipush (pc' := 3) dX6_takesByBest_1 rfl (v := s_rI none) (by first | rfl | decide) ?_
  refine PW_callV1w (pc' := 6) dX6_takesByBest_3 rfl oX6_searchBest lX6_135 rfl rfl rfl (Nat.le_of_ble_eq_true rfl) (c_X6_searchBest (w := none) (fun x hx => by cases hx) hH) (fun M1 hM1 => ?_)
  obtain ⟨hS1, hF1⟩ := hM1
  refine PW_iconst (pc' := 7) dX6_takesByBest_6 rfl (v := nI (s_tk (s_best H none).2.2.1 t 0)) (by first | rfl | decide) ?_
  refine PW_istore2 (pc' := 8) dX6_takesByBest_7 rfl rfl rfl ?_
  refine PW_iconst (pc' := 9) dX6_takesByBest_8 rfl (v := nI 0) (by first | rfl | decide) ?_
  refine PW_istore3 (pc' := 10) dX6_takesByBest_9 rfl rfl rfl ?_
  exact l_X6_takesByBest hok.1 ht hS1 hF1 6 0 (by omega)
def s_rng (x : Int32) (lo hi : Int) : Bool := decide (lo ≤ x.toInt) && decide (x.toInt ≤ hi)
theorem s_rng_of {x : Int32} {n : Nat} (h : s_rng x 0 n = true) : ∃ j, j ≤ n ∧ x = nI j := by
  simp only [s_rng, Bool.and_eq_true, decide_eq_true_eq] at h
  have hb := x.toInt_lt
  refine ⟨x.toInt.toNat, by omega, Int32.toInt_inj.mp ?_⟩
  rw [nI_toInt (by omega)]
  omega
theorem s_rng_nI {n j : Nat} (hj : j ≤ n) (hn : n < 2 ^ 31) : s_rng (nI j) 0 n = true := by
  simp only [s_rng, Bool.and_eq_true, decide_eq_true_eq]
  rw [nI_toInt (by omega)]
  omega
theorem z_lt {x : Int32} : x < 0 ↔ x.toInt < 0 := by
  rw [Int32.lt_iff_toInt_lt]
  rfl
theorem z_ge {x : Int32} {n : Nat} (hn : n < 2 ^ 31) : nI n ≤ x ↔ (n : Int) ≤ x.toInt := by
  rw [Int32.le_iff_toInt_le, nI_toInt hn]
theorem z_gt {x : Int32} {n : Nat} (hn : n < 2 ^ 31) : nI n < x ↔ (n : Int) < x.toInt := by
  rw [Int32.lt_iff_toInt_lt, nI_toInt hn]
set_option maxHeartbeats 4000000 in
theorem c_X6_isSheet {Γ : pv_G} {d : Nat} {M : pv_M} {x : Int32} : Ct Γ d vX6_isSheet [.int x] M (pv_fn (some (.int (bi (s_rng x 0 3)))) M) := by
  refine Ct.of oX6_isSheet.1 rfl (pad := 0) rfl ?_
  show PW Γ d vX6_isSheet 0 [.int x] [] M _
  refine PW_iload0 (pc' := 1) dX6_isSheet_0 rfl ?_
  refine PW_if_lt (tgt := 13) (pc' := 4) dX6_isSheet_1 rfl rfl (fun h1 => ?_) (fun h1 => ?_)
  · refine PW_iconst (pc' := 14) dX6_isSheet_13 rfl (v := 0) (by first | rfl | decide) ?_
    refine PW_ireturn .boolean dX6_isSheet_14 rfl (by first | rfl | exact bi_nar _) ?_
    refine ⟨?_, rfl⟩
    first
      | rw [bi_zero (show s_rng x 0 3 = false by rw [z_lt] at h1; simp only [s_rng, Bool.and_eq_false_iff, decide_eq_false_iff_not]; omega)]
      | rw [bi_zero (show s_rng x 0 3 = false by rw [z_ge (by decide)] at h6; simp only [s_rng, Bool.and_eq_false_iff, decide_eq_false_iff_not]; omega)]
      | rw [bi_one (show s_rng x 0 3 = true by rw [z_lt] at h1; rw [z_ge (by decide)] at h6; simp only [s_rng, Bool.and_eq_true, decide_eq_true_eq]; omega)]
  · refine PW_iload0 (pc' := 5) dX6_isSheet_4 rfl ?_
    refine PW_iconst (pc' := 6) dX6_isSheet_5 rfl (v := nI 4) (by first | rfl | decide) ?_
    refine PW_icmp_ge (tgt := 13) (pc' := 9) dX6_isSheet_6 rfl rfl (fun h6 => ?_) (fun h6 => ?_)
    · refine PW_iconst (pc' := 14) dX6_isSheet_13 rfl (v := 0) (by first | rfl | decide) ?_
      refine PW_ireturn .boolean dX6_isSheet_14 rfl (by first | rfl | exact bi_nar _) ?_
      refine ⟨?_, rfl⟩
      first
        | rw [bi_zero (show s_rng x 0 3 = false by rw [z_lt] at h1; simp only [s_rng, Bool.and_eq_false_iff, decide_eq_false_iff_not]; omega)]
        | rw [bi_zero (show s_rng x 0 3 = false by rw [z_ge (by decide)] at h6; simp only [s_rng, Bool.and_eq_false_iff, decide_eq_false_iff_not]; omega)]
        | rw [bi_one (show s_rng x 0 3 = true by rw [z_lt] at h1; rw [z_ge (by decide)] at h6; simp only [s_rng, Bool.and_eq_true, decide_eq_true_eq]; omega)]
    · refine PW_iconst (pc' := 10) dX6_isSheet_9 rfl (v := 1) (by first | rfl | decide) ?_
      refine PW_goto (tgt := 14) dX6_isSheet_10 rfl ?_
      refine PW_ireturn .boolean dX6_isSheet_14 rfl (by first | rfl | exact bi_nar _) ?_
      refine ⟨?_, rfl⟩
      first
        | rw [bi_zero (show s_rng x 0 3 = false by rw [z_lt] at h1; simp only [s_rng, Bool.and_eq_false_iff, decide_eq_false_iff_not]; omega)]
        | rw [bi_zero (show s_rng x 0 3 = false by rw [z_ge (by decide)] at h6; simp only [s_rng, Bool.and_eq_false_iff, decide_eq_false_iff_not]; omega)]
        | rw [bi_one (show s_rng x 0 3 = true by rw [z_lt] at h1; rw [z_ge (by decide)] at h6; simp only [s_rng, Bool.and_eq_true, decide_eq_true_eq]; omega)]
set_option maxHeartbeats 4000000 in
theorem c_X6_isLane {Γ : pv_G} {d : Nat} {M : pv_M} {x : Int32} : Ct Γ d vX6_isLane [.int x] M (pv_fn (some (.int (bi (s_rng x 0 2)))) M) := by
  refine Ct.of oX6_isLane.1 rfl (pad := 0) rfl ?_
  show PW Γ d vX6_isLane 0 [.int x] [] M _
  refine PW_iload0 (pc' := 1) dX6_isLane_0 rfl ?_
  refine PW_if_lt (tgt := 13) (pc' := 4) dX6_isLane_1 rfl rfl (fun h1 => ?_) (fun h1 => ?_)
  · refine PW_iconst (pc' := 14) dX6_isLane_13 rfl (v := 0) (by first | rfl | decide) ?_
    refine PW_ireturn .boolean dX6_isLane_14 rfl (by first | rfl | exact bi_nar _) ?_
    refine ⟨?_, rfl⟩
    first
      | rw [bi_zero (show s_rng x 0 2 = false by rw [z_lt] at h1; simp only [s_rng, Bool.and_eq_false_iff, decide_eq_false_iff_not]; omega)]
      | rw [bi_zero (show s_rng x 0 2 = false by rw [z_ge (by decide)] at h6; simp only [s_rng, Bool.and_eq_false_iff, decide_eq_false_iff_not]; omega)]
      | rw [bi_one (show s_rng x 0 2 = true by rw [z_lt] at h1; rw [z_ge (by decide)] at h6; simp only [s_rng, Bool.and_eq_true, decide_eq_true_eq]; omega)]
  · refine PW_iload0 (pc' := 5) dX6_isLane_4 rfl ?_
    refine PW_iconst (pc' := 6) dX6_isLane_5 rfl (v := nI 3) (by first | rfl | decide) ?_
    refine PW_icmp_ge (tgt := 13) (pc' := 9) dX6_isLane_6 rfl rfl (fun h6 => ?_) (fun h6 => ?_)
    · refine PW_iconst (pc' := 14) dX6_isLane_13 rfl (v := 0) (by first | rfl | decide) ?_
      refine PW_ireturn .boolean dX6_isLane_14 rfl (by first | rfl | exact bi_nar _) ?_
      refine ⟨?_, rfl⟩
      first
        | rw [bi_zero (show s_rng x 0 2 = false by rw [z_lt] at h1; simp only [s_rng, Bool.and_eq_false_iff, decide_eq_false_iff_not]; omega)]
        | rw [bi_zero (show s_rng x 0 2 = false by rw [z_ge (by decide)] at h6; simp only [s_rng, Bool.and_eq_false_iff, decide_eq_false_iff_not]; omega)]
        | rw [bi_one (show s_rng x 0 2 = true by rw [z_lt] at h1; rw [z_ge (by decide)] at h6; simp only [s_rng, Bool.and_eq_true, decide_eq_true_eq]; omega)]
    · refine PW_iconst (pc' := 10) dX6_isLane_9 rfl (v := 1) (by first | rfl | decide) ?_
      refine PW_goto (tgt := 14) dX6_isLane_10 rfl ?_
      refine PW_ireturn .boolean dX6_isLane_14 rfl (by first | rfl | exact bi_nar _) ?_
      refine ⟨?_, rfl⟩
      first
        | rw [bi_zero (show s_rng x 0 2 = false by rw [z_lt] at h1; simp only [s_rng, Bool.and_eq_false_iff, decide_eq_false_iff_not]; omega)]
        | rw [bi_zero (show s_rng x 0 2 = false by rw [z_ge (by decide)] at h6; simp only [s_rng, Bool.and_eq_false_iff, decide_eq_false_iff_not]; omega)]
        | rw [bi_one (show s_rng x 0 2 = true by rw [z_lt] at h1; rw [z_ge (by decide)] at h6; simp only [s_rng, Bool.and_eq_true, decide_eq_true_eq]; omega)]
set_option maxHeartbeats 4000000 in
theorem c_X6_isHour {Γ : pv_G} {d : Nat} {M : pv_M} {x : Int32} : Ct Γ d vX6_isHour [.int x] M (pv_fn (some (.int (bi (s_rng x 0 5)))) M) := by
  refine Ct.of oX6_isHour.1 rfl (pad := 0) rfl ?_
  show PW Γ d vX6_isHour 0 [.int x] [] M _
  refine PW_iload0 (pc' := 1) dX6_isHour_0 rfl ?_
  refine PW_if_lt (tgt := 14) (pc' := 4) dX6_isHour_1 rfl rfl (fun h1 => ?_) (fun h1 => ?_)
  · refine PW_iconst (pc' := 15) dX6_isHour_14 rfl (v := 0) (by first | rfl | decide) ?_
    refine PW_ireturn .boolean dX6_isHour_15 rfl (by first | rfl | exact bi_nar _) ?_
    refine ⟨?_, rfl⟩
    first
      | rw [bi_zero (show s_rng x 0 5 = false by rw [z_lt] at h1; simp only [s_rng, Bool.and_eq_false_iff, decide_eq_false_iff_not]; omega)]
      | rw [bi_zero (show s_rng x 0 5 = false by rw [z_ge (by decide)] at h7; simp only [s_rng, Bool.and_eq_false_iff, decide_eq_false_iff_not]; omega)]
      | rw [bi_one (show s_rng x 0 5 = true by rw [z_lt] at h1; rw [z_ge (by decide)] at h7; simp only [s_rng, Bool.and_eq_true, decide_eq_true_eq]; omega)]
  · refine PW_iload0 (pc' := 5) dX6_isHour_4 rfl ?_
    refine PW_bipush (pc' := 7) dX6_isHour_5 rfl (v := nI 6) (by first | rfl | decide) ?_
    refine PW_icmp_ge (tgt := 14) (pc' := 10) dX6_isHour_7 rfl rfl (fun h7 => ?_) (fun h7 => ?_)
    · refine PW_iconst (pc' := 15) dX6_isHour_14 rfl (v := 0) (by first | rfl | decide) ?_
      refine PW_ireturn .boolean dX6_isHour_15 rfl (by first | rfl | exact bi_nar _) ?_
      refine ⟨?_, rfl⟩
      first
        | rw [bi_zero (show s_rng x 0 5 = false by rw [z_lt] at h1; simp only [s_rng, Bool.and_eq_false_iff, decide_eq_false_iff_not]; omega)]
        | rw [bi_zero (show s_rng x 0 5 = false by rw [z_ge (by decide)] at h7; simp only [s_rng, Bool.and_eq_false_iff, decide_eq_false_iff_not]; omega)]
        | rw [bi_one (show s_rng x 0 5 = true by rw [z_lt] at h1; rw [z_ge (by decide)] at h7; simp only [s_rng, Bool.and_eq_true, decide_eq_true_eq]; omega)]
    · refine PW_iconst (pc' := 11) dX6_isHour_10 rfl (v := 1) (by first | rfl | decide) ?_
      refine PW_goto (tgt := 15) dX6_isHour_11 rfl ?_
      refine PW_ireturn .boolean dX6_isHour_15 rfl (by first | rfl | exact bi_nar _) ?_
      refine ⟨?_, rfl⟩
      first
        | rw [bi_zero (show s_rng x 0 5 = false by rw [z_lt] at h1; simp only [s_rng, Bool.and_eq_false_iff, decide_eq_false_iff_not]; omega)]
        | rw [bi_zero (show s_rng x 0 5 = false by rw [z_ge (by decide)] at h7; simp only [s_rng, Bool.and_eq_false_iff, decide_eq_false_iff_not]; omega)]
        | rw [bi_one (show s_rng x 0 5 = true by rw [z_lt] at h1; rw [z_ge (by decide)] at h7; simp only [s_rng, Bool.and_eq_true, decide_eq_true_eq]; omega)]
set_option maxHeartbeats 4000000 in
theorem c_X6_answerFault {Γ : pv_G} {d : Nat} {M : pv_M} {x : Int32} : Ct Γ d vX6_answerFault [.ref 0, .int x] M (pv_fn (some (.int (-10 - x))) (pv_up M 0 5 x)) := by
  refine Ct.of oX6_answerFault.1 rfl (pad := 0) rfl ?_
  show PW Γ d vX6_answerFault 0 [.ref 0, .int x] [] M _
  refine PW_aload0 (pc' := 1) dX6_answerFault_0 rfl ?_
  refine PW_iload1 (pc' := 2) dX6_answerFault_1 rfl ?_
  refine PW_putI (pc' := 5) dX6_answerFault_2 rfl fX6_43 w5_5 rfl rfl ?_
  refine PW_bipush (pc' := 7) dX6_answerFault_5 rfl (v := -10) (by first | rfl | decide) ?_
  refine PW_iload1 (pc' := 8) dX6_answerFault_7 rfl ?_
  refine PW_isub (pc' := 9) dX6_answerFault_8 rfl ?_
  refine PW_ireturn .int dX6_answerFault_9 rfl rfl ?_
  exact ⟨rfl, rfl⟩
set_option maxHeartbeats 4000000 in
theorem c_X6_leave {Γ : pv_G} {d : Nat} {M : pv_M} {x : Int32} : Ct Γ d vX6_leave [.ref 0, .int x] M (pv_fn none (pv_up M 0 6 (31 * M 0 6 + x))) := by
  refine Ct.of oX6_leave.1 rfl (pad := 0) rfl ?_
  show PW Γ d vX6_leave 0 [.ref 0, .int x] [] M _
  refine PW_aload0 (pc' := 1) dX6_leave_0 rfl ?_
  refine PW_bipush (pc' := 3) dX6_leave_1 rfl (v := 31) (by first | rfl | decide) ?_
  refine PW_aload0 (pc' := 4) dX6_leave_3 rfl ?_
  refine PW_getI (pc' := 7) dX6_leave_4 rfl fX6_234 rfl rfl ?_
  refine PW_imul (pc' := 8) dX6_leave_7 rfl ?_
  refine PW_iload1 (pc' := 9) dX6_leave_8 rfl ?_
  refine PW_iadd (pc' := 10) dX6_leave_9 rfl ?_
  refine PW_putI (pc' := 13) dX6_leave_10 rfl fX6_234 w5_6 rfl rfl ?_
  refine PW_return dX6_leave_13 rfl ?_
  exact ⟨rfl, rfl⟩
