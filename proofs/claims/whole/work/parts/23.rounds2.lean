/-! the class: a museum by a text; rounds that are told; best rounds -/
theorem s_ffl_congr {c c' : Nat → Int32} : ∀ k, (∀ x, x < k → c x = c' x) → s_ffl c k = s_ffl c' k
  | 0, _ => rfl
  | k + 1, h => by
    have ih := s_ffl_congr k (fun x hx => h x (by omega))
    have e1 : c k = c' k := h k (by omega)
    have e2 : (if k = 0 then (0 : Int32) else c (k - 1)) = if k = 0 then 0 else c' (k - 1) := by
      by_cases hk : k = 0
      · simp [hk]
      · rw [if_neg hk, if_neg hk]; exact h (k - 1) (by omega)
    simp only [s_ffl, ih, e1, e2]
theorem s_ff_congr {c c' : Nat → Int32} {n : Nat} (h : ∀ x, x < n → c x = c' x) : s_ff c n = s_ff c' n := by
  simp only [s_ff, s_ffl_congr n h]
theorem HX.congr {M : pv_M} {H H' : s_H} (h : HX M H) (h1 : H.1 = H'.1) (h2 : H.2.1 = H'.2.1) (h3 : H.2.2.1 = H'.2.2.1) (h4 : ∀ t, t < H.1 → ∀ f, f < 5 → H.2.2.2 f t = H'.2.2.2 f t) : HX M H' := by
  obtain ⟨⟨o1, o2, o3, o4⟩, a, b, c, e⟩ := h
  refine ⟨⟨by rw [← h1]; exact o1, by rw [← h2]; exact o2, by rw [← h3]; exact o3, fun t ht => ?_⟩, by rw [← h1]; exact a, by rw [← h2]; exact b, by rw [← h3]; exact c, fun t ht f hf => by rw [← h4 t (by rw [h1]; exact ht) f hf]; exact e t (by rw [h1]; exact ht) f hf⟩
  have g := o4 t (by rw [h1]; exact ht)
  have k := fun f hf => h4 t (by rw [h1]; exact ht) f hf
  rw [← k 0 (by decide), ← k 1 (by decide), ← k 2 (by decide), ← k 3 (by decide), ← k 4 (by decide)]
  exact g
theorem s_fld_congr {c c' : Nat → Int32} {f t : Nat} (e : ∀ q, q < 7 → c (2 + 7 * t + q) = c' (2 + 7 * t + q)) : s_fld c f t = s_fld c' f t := by
  have e1 := e 1 (by decide)
  have e2 := e 2 (by decide)
  have e3 := e 3 (by decide)
  have e4 := e 4 (by decide)
  have e5 := e 5 (by decide)
  have e6 := e 6 (by decide)
  unfold s_fld
  rw [e1, e2, e3, e4, e5, e6]
theorem s_gen_congr {M : pv_M} {c c' : Nat → Int32} {g p p' : Nat} (hp : p = p') (e : ∀ t, t < g → ∀ q, q < 7 → c (2 + 7 * t + q) = c' (2 + 7 * t + q)) (hH : HX M (g, p, 3, s_fld c)) : HX M (g, p', 3, s_fld c') := by
  subst hp
  have e1 : ∀ t, t < g → ∀ f, f < 5 → s_fld c f t = s_fld c' f t := fun t ht f _ => s_fld_congr (e t ht)
  exact HX.congr (H := (g, p, 3, s_fld c)) (H' := (g, p, 3, s_fld c')) hH (Eq.refl g) (Eq.refl p) (Eq.refl 3) e1
theorem s_fill_lt {n g t q : Nat} (h1 : n = 2 + 7 * g) (ht : t < g) (hq : q < 7) : 2 + 7 * t + q < n := by omega
theorem s_fill_congr {M : pv_M} {c c' : Nat → Int32} {n : Nat} (hff : s_ff c n = none) (h : ∀ x, x < n → c x = c' x) (hH : HX M (s_fill c n)) : HX M (s_fill c' n) := by
  obtain ⟨-, h1, h2, h3⟩ := s_ff_none hff
  have e0 : s_dg (c 1) = s_dg (c' 1) := congrArg s_dg (h 1 (by omega))
  exact s_gen_congr e0 (fun t ht q hq => h _ (s_fill_lt h1 ht hq)) hH
def op_museum (k l i n : Int32) (a : s_A) : s_O := if s_rng k 0 3 = true then (if s_rng l 0 2 = true then (if s_foc (a.2.2.1 (ix k)) l i n = 0 then
    (match s_ff (fun x => a.2.2.2.1 (ix k) (ix i + x)) (ix n) with
      | some p => (-100 - nI p, a_flt a 0)
      | none => (nI ((ix n - 2) / 7), a_rd (a_hs (a_flt a 0) (s_fill (fun x => a.2.2.2.1 (ix k) (ix i + x)) (ix n))) (0, a.2.1.2.1, a.2.1.2.2.1, a.2.1.2.2.2)))
    else (-10 - nI (s_foc (a.2.2.1 (ix k)) l i n), a_flt a (nI (s_foc (a.2.2.1 (ix k)) l i n)))) else (-2, a_flt a 0)) else (-1, a_flt a 0)
theorem s_ffl_lt {c : Nat → Int32} : ∀ k p, s_ffl c k = some p → p < k
  | 0, p, h => by cases h
  | k + 1, p, h => by
    simp only [s_ffl] at h
    cases hk : s_ffl c k with
    | some x => rw [hk] at h; cases h; have := s_ffl_lt k p hk; omega
    | none =>
      rw [hk] at h
      by_cases hg : s_goes k (if k = 0 then 0 else c (k - 1)) (c k) = true
      · simp only [hg, if_true] at h; cases h
      · simp only [hg] at h; cases h; omega
theorem s_ff_le {c : Nat → Int32} {n p : Nat} (h : s_ff c n = some p) : p ≤ n := by
  unfold s_ff at h
  cases hk : s_ffl c n with
  | some x => rw [hk] at h; cases h; have := s_ffl_lt n p hk; omega
  | none =>
    rw [hk] at h
    by_cases hc : 2 < n ∧ (n - 2) % 7 = 0
    · simp only [if_pos hc] at h; cases h
    · simp only [if_neg hc] at h; cases h; omega
set_option maxHeartbeats 4000000 in
theorem c_X6_museum {Γ : pv_G} {d : Nat} {M : pv_M} {a : s_A} {k l i n : Int32} (hA : AX M a) : Ct Γ (d + 3) vX6_museum [.ref 0, .int k, .int l, .int i, .int n] M (o_X (op_museum k l i n a) M) := by
  obtain ⟨hH, hR, hSh, hfl, htr⟩ := id hA
  obtain ⟨hok, hc1, hc2, hc3, hf⟩ := id hH
  have hn5 := hok.1
  refine Ct.of oX6_museum.1 rfl (pad := 3) rfl ?_
  show PW Γ (d + 3) vX6_museum 0 [.ref 0, .int k, .int l, .int i, .int n, .null, .null, .null] [] M _
  refine PW_aload0 (pc' := 1) dX6_museum_0 rfl ?_
  refine PW_iconst (pc' := 2) dX6_museum_1 rfl (v := 0) (by first | rfl | decide) ?_
  refine PW_putI (pc' := 5) dX6_museum_2 rfl fX6_43 w5_5 rfl rfl ?_
  generalize hM1 : pv_up M 0 5 0 = M1
  have hA1 : AX M1 (a_flt a 0) := by rw [← hM1]; exact hA.fault 0
  have hF1 : frX M M1 := by rw [← hM1]; exact frX.rf.up (by decide)
  have hH1 : HX M1 a.1 := hA1.1
  have hc11 : M1 10 1 = nI a.1.1 := hH1.2.1
  have hS1 : ∀ k, k < 4 → s_sh M1 k (a.2.2.1 k) (a.2.2.2.1 k) := hA1.2.2.1
  refine PW_iload1 (pc' := 6) dX6_museum_5 rfl ?_
  refine PW_callS1f (pc' := 9) dX6_museum_6 rfl oX6_isSheet lX6_47 (Nat.le_of_ble_eq_true rfl) (c_X6_isSheet) ?_
  refine PW_if_ne (tgt := 14) (pc' := 12) dX6_museum_9 rfl rfl (fun h9 => ?_) (fun h9 => ?_)
  · have q := bi_t h9
    obtain ⟨u, hu, rfl⟩ := s_rng_of (n := 3) q
    have hu2 : u < 2 ^ 31 := by omega
    refine PW_iload2 (pc' := 15) dX6_museum_14 rfl ?_
    refine PW_callS1f (pc' := 18) dX6_museum_15 rfl oX6_isLane lX6_51 (Nat.le_of_ble_eq_true rfl) (c_X6_isLane) ?_
    refine PW_if_ne (tgt := 24) (pc' := 21) dX6_museum_18 rfl rfl (fun h18 => ?_) (fun h18 => ?_)
    · have q2 := bi_t h18
      refine PW_aload0 (pc' := 25) dX6_museum_24 rfl ?_
      refine PW_getR (pc' := 28) dX6_museum_25 rfl fX6_13 rfl rfl ?_
      refine PW_iload1 (pc' := 29) dX6_museum_28 rfl ?_
      refine PW_aald2 (pc' := 30) dX6_museum_29 rfl (by omega) ?_
      refine PW_astore5 (pc' := 32) dX6_museum_30 rfl rfl rfl ?_
      refine PW_aload5 (pc' := 34) dX6_museum_32 rfl ?_
      refine PW_iload2 (pc' := 35) dX6_museum_34 rfl ?_
      refine PW_iload3 (pc' := 36) dX6_museum_35 rfl ?_
      refine PW_iload4 (pc' := 38) dX6_museum_36 rfl ?_
      refine PW_callV3f (pc' := 41) dX6_museum_38 rfl oX3_faultOfCells lX6_54 (pv_lay_sheet (by omega)) rfl rfl (Nat.le_of_ble_eq_true rfl) (c_X3_faultOfCells (show u < 4 by omega)) ?_
      rw [v_foc_eq (hS1 u (by omega))]
      have hle := s_foc_le (a.2.2.1 u) l i n
      refine PW_istore6 (pc' := 43) dX6_museum_41 rfl rfl rfl ?_
      refine PW_iload6 (pc' := 45) dX6_museum_43 rfl ?_
      refine PW_if_eq (tgt := 55) (pc' := 48) dX6_museum_45 rfl rfl (fun h45 => ?_) (fun h45 => ?_)
      · have q4 : s_foc (a.2.2.1 u) l i n = 0 := nI_inj (by omega) (by decide) h45
        obtain ⟨g1, g2, g3⟩ := s_foc_0 q4
        obtain ⟨-, -, w3, w4, w5⟩ := s_hol_of g3
        obtain ⟨t1, t2, t3, t4, t5⟩ := (hS1 u (by omega)).2 g1
        obtain ⟨y, hy⟩ : ∃ y, y = ix i := ⟨_, rfl⟩
        obtain ⟨z, hz⟩ : ∃ z, z = ix n := ⟨_, rfl⟩
        rw [← hy] at w3 w4
        rw [← hz] at w3 w5
        subst w4
        subst w5
        have ec : ∀ x, x < z → M1 (6 + u) (y + x) = a.2.2.2.1 u (y + x) := fun x hx => t5 _ (by omega)
        refine PW_aload5 (pc' := 57) dX6_museum_55 rfl ?_
        refine PW_getR (pc' := 60) dX6_museum_57 rfl fX6_62 (pv_lay_sheet (by omega)) rfl ?_
        refine PW_iload3 (pc' := 61) dX6_museum_60 rfl ?_
        refine PW_iload4 (pc' := 63) dX6_museum_61 rfl ?_
        refine PW_callS3f (pc' := 66) dX6_museum_63 rfl oX4_firstFault lX6_65 (Nat.le_of_ble_eq_true rfl) (c_X4_firstFault (show u < 4 by omega) (show y + z ≤ 60 by omega)) ?_
        rw [s_ff_congr ec]
        refine PW_istore7 (pc' := 68) dX6_museum_66 rfl rfl rfl ?_
        refine PW_iload7 (pc' := 70) dX6_museum_68 rfl ?_
        refine PW_bipush (pc' := 72) dX6_museum_70 rfl (v := -9) (by first | rfl | decide) ?_
        refine PW_icmp_eq (tgt := 81) (pc' := 75) dX6_museum_72 rfl rfl (fun h72 => ?_) (fun h72 => ?_)
        · have q6 : s_ff (fun x => a.2.2.2.1 u (y + x)) z = none := by
            cases hzz : s_ff (fun x => a.2.2.2.1 u (y + x)) z with
            | none => rfl
            | some x =>
              rw [hzz] at h72
              have hx := s_ff_le hzz
              have : ∀ x, x ≤ 60 → ¬ nI x = -9 := by decide +kernel
              exact absurd h72 (this x (by omega))
          have q5 : s_ff (fun x => M1 (6 + u) (y + x)) z = none := (s_ff_congr ec).trans q6
          refine PW_aload0 (pc' := 82) dX6_museum_81 rfl ?_
          refine PW_getR (pc' := 85) dX6_museum_82 rfl fX6_21 rfl rfl ?_
          refine PW_aload5 (pc' := 87) dX6_museum_85 rfl ?_
          refine PW_getR (pc' := 90) dX6_museum_87 rfl fX6_62 (pv_lay_sheet (by omega)) rfl ?_
          refine PW_iload3 (pc' := 91) dX6_museum_90 rfl ?_
          refine PW_iload4 (pc' := 93) dX6_museum_91 rfl ?_
          refine PW_callS4w (pc' := 96) dX6_museum_93 rfl oX4_fill lX6_71 (Nat.le_of_ble_eq_true rfl) (c_X4_fill (show u < 4 by omega) (show y + z ≤ 60 by omega) q5) (fun M2 hM2 => ?_)
          obtain ⟨hH2, hF2⟩ := hM2
          refine PW_aload0 (pc' := 97) dX6_museum_96 rfl ?_
          refine PW_getR (pc' := 100) dX6_museum_97 rfl fX6_28 rfl rfl ?_
          refine PW_iconst (pc' := 101) dX6_museum_100 rfl (v := 0) (by first | rfl | decide) ?_
          refine PW_putI (pc' := 104) dX6_museum_101 rfl fX6_75 w1_3 rfl rfl ?_
          refine PW_aload0 (pc' := 105) dX6_museum_104 rfl ?_
          refine PW_getR (pc' := 108) dX6_museum_105 rfl fX6_21 rfl rfl ?_
          refine PW_getI (pc' := 111) dX6_museum_108 rfl fX6_78 rfl rfl ?_
          rw [show (pv_up M2 17 3 0) 10 1 = nI ((z - 2) / 7) from hH2.2.1]
          refine PW_ireturn .int dX6_museum_111 rfl rfl ?_
          refine ⟨by simp [op_museum, q, q2, ix_nI hu2, q4, q6, ← hy, ← hz], ?_, (hF1.tr (frX.of hF2 (by simp))).up (by decide)⟩
          have hH3 := s_fill_congr q5 ec hH2
          have hF3 : fr [10, 12, 13, 14, 15, 16, 17] M1 (pv_up M2 17 3 0) := (hF2.sub (by decide)).up (by decide)
          have hA3 : AX (pv_up M2 17 3 0) (a_rd (a_hs (a_flt a 0) (s_fill (fun x => a.2.2.2.1 u (y + x)) z)) (0, a.2.1.2.1, a.2.1.2.2.1, a.2.1.2.2.2)) := by
            refine ⟨hH3.fr (S := [17]) (fr.up fr.rf (by decide)) (by decide) (by decide), ⟨by simp [pv_up_at, a_rd]; rfl, by simp [a_rd], fun x hx => absurd hx (Nat.not_lt_zero x)⟩, fun x hx => ?_, ?_, ?_⟩
            · unfold s_sh
              rw [hF3 (2 + x) (by simp; omega), hF3 (6 + x) (by simp; omega)]
              exact hS1 x hx
            · rw [hF3 0 (by decide)]; exact hA1.2.2.2.1
            · rw [hF3 0 (by decide)]; exact hA1.2.2.2.2
          simpa [op_museum, q, q2, ix_nI hu2, q4, q6, ← hy, ← hz] using hA3
        · obtain ⟨x, hx⟩ : ∃ x, s_ff (fun x => a.2.2.2.1 u (y + x)) z = some x := by
            cases hzz : s_ff (fun x => a.2.2.2.1 u (y + x)) z with
            | none => rw [hzz] at h72; exact absurd rfl h72
            | some x => exact ⟨x, rfl⟩
          refine PW_bipush (pc' := 77) dX6_museum_75 rfl (v := -100) (by first | rfl | decide) ?_
          refine PW_iload7 (pc' := 79) dX6_museum_77 rfl ?_
          refine PW_isub (pc' := 80) dX6_museum_79 rfl ?_
          refine PW_ireturn .int dX6_museum_80 rfl rfl ?_
          exact ⟨by simp [op_museum, q, q2, ix_nI hu2, q4, hx, s_oI, ← hy, ← hz], by simpa [op_museum, q, q2, ix_nI hu2, q4, hx, ← hy, ← hz] using hA1, hF1⟩
      · have q4 : ¬ s_foc (a.2.2.1 u) l i n = 0 := fun z => h45 (by rw [z]; rfl)
        refine PW_aload0 (pc' := 49) dX6_museum_48 rfl ?_
        refine PW_iload6 (pc' := 51) dX6_museum_49 rfl ?_
        refine PW_callV1f (pc' := 54) dX6_museum_51 rfl oX6_answerFault lX6_58 rfl rfl rfl (Nat.le_of_ble_eq_true rfl) (c_X6_answerFault) ?_
        refine PW_ireturn .int dX6_museum_54 rfl rfl ?_
        exact ⟨by simp [op_museum, q, q2, ix_nI hu2, q4], by simpa [op_museum, q, q2, ix_nI hu2, q4, a_flt] using hA1.fault (nI (s_foc (a.2.2.1 u) l i n)), hF1.up (by decide)⟩
    · have q2 := bi_f h18
      refine PW_bipush (pc' := 23) dX6_museum_21 rfl (v := -2) (by first | rfl | decide) ?_
      refine PW_ireturn .int dX6_museum_23 rfl rfl ?_
      exact ⟨by simp [op_museum, q, q2], by simpa [op_museum, q, q2] using hA1, hF1⟩
  · have q := bi_f h9
    refine PW_iconst (pc' := 13) dX6_museum_12 rfl (v := -1) (by first | rfl | decide) ?_
    refine PW_ireturn .int dX6_museum_13 rfl rfl ?_
    exact ⟨by simp [op_museum, q], by simpa [op_museum, q] using hA1, hF1⟩
theorem v_sub10 : ∀ x, 10 ≤ x → x ≤ 15 → (nI x - 10 : Int32) = nI (x - 10) := by
  intro x h1 h2
  have : ∀ x, x < 16 → 10 ≤ x → (nI x - 10 : Int32) = nI (x - 10) := by decide +kernel
  exact this x (by omega) h1
theorem s_rng_10 {w : Int32} (h : s_rng w 10 15 = true) : ∃ x, 10 ≤ x ∧ x ≤ 15 ∧ w = nI x := by
  simp only [s_rng, Bool.and_eq_true, decide_eq_true_eq] at h
  refine ⟨w.toInt.toNat, by omega, by omega, Int32.toInt_inj.mp ?_⟩
  rw [nI_toInt (by omega)]
  omega
def s_wans (o : Option Nat) : Int32 := -100 - s_oI o
def op_round (k l i w : Int32) (a : s_A) : s_O :=
  let o := a_hear k l i (s_rng w 0 3 || s_rng w 10 15) a
  let r := s_rw a (ix k) (ix i)
  let wr := s_wrong a.1 r 6
  (if o.1 = 0 then (if w = 1 then s_oI wr else if wr.isSome = true then s_wans wr else if s_rng w 10 15 = true then nI (s_cs a.1 r (ix w - 10) (ix w - 10 + 1)) else if w = 2 then nI (s_miss a.1 r 6) else if w = 0 then nI (s_take a.1 a.1.2.2.1 r 6) else nI (s_take a.1 a.1.2.2.1 r 6) - nI a.1.2.1 * nI (s_miss a.1 r 6) + 1000) else o.1, a_flt a o.2)
theorem s_wrong_lt {H : s_H} {r : Nat → Option Nat} {h : Nat} : ∀ k, s_wrong H r k = some h → h < k
  | 0, q => by cases q
  | k + 1, q => by
    simp only [s_wrong] at q
    cases hk : s_wrong H r k with
    | some x => rw [hk] at q; cases q; have := s_wrong_lt k hk; omega
    | none =>
      rw [hk] at q
      cases hr : r k with
      | none => rw [hr] at q; cases q
      | some t =>
        rw [hr] at q
        by_cases hb : (s_cs H r k k).testBit t = true
        · simp only [hb, if_true] at q; cases q; omega
        · simp only [hb] at q; cases q
theorem s_oI_none {H : s_H} {r : Nat → Option Nat} (h : s_oI (s_wrong H r 6) = -9) : s_wrong H r 6 = none := by
  cases hz : s_wrong H r 6 with
  | none => rfl
  | some x =>
    rw [hz] at h
    have hx := s_wrong_lt 6 hz
    have : ∀ x, x < 6 → ¬ nI x = -9 := by decide +kernel
    exact absurd h (this x hx)
theorem s_oI_some {o : Option Nat} (h : ¬ s_oI o = -9) : o.isSome = true := by
  cases o with
  | none => exact absurd rfl h
  | some x => rfl
set_option maxHeartbeats 4000000 in
theorem l_X6_round {Γ : pv_G} {d : Nat} {a : s_A} {k l i w : Int32} {ok oh : Bool} {M : pv_M} {x6 x7 x8 x9 : Value} (hc6 : x6.category = 1) (hc7 : x7.category = 1) (hc8 : x8.category = 1) (hA : AX M a) (hok2 : ok = (s_rng w 0 3 || s_rng w 10 15)) (hoh : oh = s_rng w 10 15) :
    PW Γ (d + 4) vX6_round 46 [.ref 0, .int k, .int l, .int i, .int w, .int (bi oh), x6, x7, x8, x9] [.int (bi ok), .int i, .int l, .int k, .ref 0] M (o_X (op_round k l i w a) M) := by
  obtain ⟨hH, hR, hSh, hfl, htr⟩ := id hA
  obtain ⟨hok, hc1, hc2, hc3, hf⟩ := id hH
  have hn5 := hok.1
  refine PW_callV4r (pc' := 49) dX6_round_46 rfl oX6_hearRound lX6_117 rfl rfl rfl (Nat.le_of_ble_eq_true rfl) (c_X6_hearRound hA) (fun M1 hM1 => ?_)
  obtain ⟨hA1, hF1, hrw⟩ := hM1
  have hH1 : HX M1 a.1 := hA1.1
  refine PW_istore6 (pc' := 51) dX6_round_49 rfl rfl (by first | rfl | simp [pv_nl, hc6, hc7, hc8, Value.category]) ?_
  refine PW_iload6 (pc' := 53) dX6_round_51 rfl ?_
  refine PW_if_eq (tgt := 59) (pc' := 56) dX6_round_53 rfl rfl (fun h53 => ?_) (fun h53 => ?_)
  · rw [hok2] at h53 hA1 hrw
    refine PW_aload0 (pc' := 60) dX6_round_59 rfl ?_
    refine PW_getR (pc' := 63) dX6_round_60 rfl fX6_21 rfl rfl ?_
    refine PW_aload0 (pc' := 64) dX6_round_63 rfl ?_
    refine PW_getR (pc' := 67) dX6_round_64 rfl fX6_39 rfl rfl ?_
    refine PW_callV1f (pc' := 70) dX6_round_67 rfl oX0_firstWrong lX6_121 rfl rfl rfl (Nat.le_of_ble_eq_true rfl) (c_X0_firstWrong (pl := 28) rfl hH1 (hrw h53)) ?_
    refine PW_istore7 (pc' := 72) dX6_round_70 rfl rfl (by first | rfl | simp [pv_nl, hc6, hc7, hc8, Value.category]) ?_
    refine PW_iload4 (pc' := 74) dX6_round_72 rfl ?_
    refine PW_iconst (pc' := 75) dX6_round_74 rfl (v := 1) (by first | rfl | decide) ?_
    refine PW_icmp_ne (tgt := 81) (pc' := 78) dX6_round_75 rfl rfl (fun h75 => ?_) (fun h75 => ?_)
    · refine PW_iload7 (pc' := 83) dX6_round_81 rfl ?_
      refine PW_bipush (pc' := 85) dX6_round_83 rfl (v := -9) (by first | rfl | decide) ?_
      refine PW_icmp_eq (tgt := 94) (pc' := 88) dX6_round_85 rfl rfl (fun h85 => ?_) (fun h85 => ?_)
      · have q5 := s_oI_none h85
        refine PW_iload5 (pc' := 96) dX6_round_94 rfl ?_
        refine PW_if_eq (tgt := 123) (pc' := 99) dX6_round_96 rfl rfl (fun h96 => ?_) (fun h96 => ?_)
        · have q6 := bi_f h96
          rw [hoh] at q6
          refine PW_aload0 (pc' := 124) dX6_round_123 rfl ?_
          refine PW_getR (pc' := 127) dX6_round_124 rfl fX6_21 rfl rfl ?_
          refine PW_aload0 (pc' := 128) dX6_round_127 rfl ?_
          refine PW_getR (pc' := 131) dX6_round_128 rfl fX6_39 rfl rfl ?_
          refine PW_callV1f (pc' := 134) dX6_round_131 rfl oX0_missedBy lX6_128 rfl rfl rfl (Nat.le_of_ble_eq_true rfl) (c_X0_missedBy (pl := 28) rfl hH1 (hrw h53)) ?_
          refine PW_istore8 (pc' := 136) dX6_round_134 rfl rfl (by first | rfl | simp [pv_nl, hc6, hc7, hc8, Value.category]) ?_
          refine PW_iload4 (pc' := 138) dX6_round_136 rfl ?_
          refine PW_iconst (pc' := 139) dX6_round_138 rfl (v := 2) (by first | rfl | decide) ?_
          refine PW_icmp_ne (tgt := 145) (pc' := 142) dX6_round_139 rfl rfl (fun h139 => ?_) (fun h139 => ?_)
          · refine PW_aload0 (pc' := 146) dX6_round_145 rfl ?_
            refine PW_getR (pc' := 149) dX6_round_146 rfl fX6_21 rfl rfl ?_
            refine PW_aload0 (pc' := 150) dX6_round_149 rfl ?_
            refine PW_getR (pc' := 153) dX6_round_150 rfl fX6_39 rfl rfl ?_
            refine PW_aload0 (pc' := 154) dX6_round_153 rfl ?_
            refine PW_getR (pc' := 157) dX6_round_154 rfl fX6_21 rfl rfl ?_
            refine PW_getI (pc' := 160) dX6_round_157 rfl fX6_114 rfl rfl ?_
            rw [hH1.2.2.2.1]
            refine PW_callV2f (pc' := 163) dX6_round_160 rfl oX0_takingsBy lX6_131 rfl rfl rfl (Nat.le_of_ble_eq_true rfl) (c_X0_takingsBy (pl := 28) rfl hok.2.2.1 hH1 (hrw h53)) ?_
            refine PW_istore9 (pc' := 165) dX6_round_163 rfl rfl (by first | rfl | simp [pv_nl, hc6, hc7, hc8, Value.category]) ?_
            refine PW_iload4 (pc' := 167) dX6_round_165 rfl ?_
            refine PW_if_ne (tgt := 175) (pc' := 170) dX6_round_167 rfl rfl (fun h167 => ?_) (fun h167 => ?_)
            · refine PW_iload9 (pc' := 177) dX6_round_175 rfl ?_
              refine PW_aload0 (pc' := 178) dX6_round_177 rfl ?_
              refine PW_getR (pc' := 181) dX6_round_178 rfl fX6_21 rfl rfl ?_
              refine PW_getI (pc' := 184) dX6_round_181 rfl fX6_111 rfl rfl ?_
              rw [hH1.2.2.1]
              refine PW_iload8 (pc' := 186) dX6_round_184 rfl ?_
              refine PW_imul (pc' := 187) dX6_round_186 rfl ?_
              refine PW_isub (pc' := 188) dX6_round_187 rfl ?_
              refine PW_sipush (pc' := 191) dX6_round_188 rfl (v := 1000) (by first | rfl | decide) ?_
              refine PW_iadd (pc' := 192) dX6_round_191 rfl ?_
              refine PW_ireturn .int dX6_round_192 rfl rfl ?_
              refine ⟨?_, hA1, hF1⟩
              simp only [op_round]
              rw [if_pos h53, if_neg h75, q5, if_neg (by decide), if_neg (by rw [q6]; decide), if_neg h139]
              first | rw [if_pos h167] | rw [if_neg h167]
            · refine PW_iload9 (pc' := 172) dX6_round_170 rfl ?_
              refine PW_goto (tgt := 192) dX6_round_172 rfl ?_
              refine PW_ireturn .int dX6_round_192 rfl rfl ?_
              refine ⟨?_, hA1, hF1⟩
              simp only [op_round]
              rw [if_pos h53, if_neg h75, q5, if_neg (by decide), if_neg (by rw [q6]; decide), if_neg h139]
              first | rw [if_pos h167] | rw [if_neg h167]
          · refine PW_iload8 (pc' := 144) dX6_round_142 rfl ?_
            refine PW_ireturn .int dX6_round_144 rfl rfl ?_
            refine ⟨?_, hA1, hF1⟩
            simp only [op_round]
            rw [if_pos h53, if_neg h75, q5, if_neg (by decide), if_neg (by rw [q6]; decide), if_pos h139]
        · have q6 := bi_t h96
          rw [hoh] at q6
          obtain ⟨x, hx1, hx2, rfl⟩ := s_rng_10 q6
          have hx3 : x < 2 ^ 31 := by omega
          refine PW_aload0 (pc' := 100) dX6_round_99 rfl ?_
          refine PW_getR (pc' := 103) dX6_round_100 rfl fX6_21 rfl rfl ?_
          refine PW_aload0 (pc' := 104) dX6_round_103 rfl ?_
          refine PW_getR (pc' := 107) dX6_round_104 rfl fX6_39 rfl rfl ?_
          refine PW_iload4 (pc' := 109) dX6_round_107 rfl ?_
          refine PW_bipush (pc' := 111) dX6_round_109 rfl (v := 10) (by first | rfl | decide) ?_
          refine PW_isub (pc' := 112) dX6_round_111 rfl ?_
          rw [show (nI x - 10 : Int32) = nI (x - 10) from v_sub10 x hx1 hx2]
          refine PW_iconst (pc' := 113) dX6_round_112 rfl (v := 1) (by first | rfl | decide) ?_
          refine PW_iadd (pc' := 114) dX6_round_113 rfl ?_
          rw [nI_1]
          refine PW_iload4 (pc' := 116) dX6_round_114 rfl ?_
          refine PW_bipush (pc' := 118) dX6_round_116 rfl (v := 10) (by first | rfl | decide) ?_
          refine PW_isub (pc' := 119) dX6_round_118 rfl ?_
          rw [show (nI x - 10 : Int32) = nI (x - 10) from v_sub10 x hx1 hx2]
          refine PW_callV3f (pc' := 122) dX6_round_119 rfl oX0_casesBy lX6_125 rfl rfl rfl (Nat.le_of_ble_eq_true rfl) (c_X0_casesBy (pl := 28) rfl (show x - 10 + 1 ≤ 6 by omega) (show x - 10 < 6 by omega) hH1 (fun z hz => hrw h53 z (by omega))) ?_
          refine PW_ireturn .int dX6_round_122 rfl rfl ?_
          refine ⟨?_, hA1, hF1⟩
          simp only [op_round]
          rw [if_pos h53, if_neg h75, q5, if_neg (by decide), if_pos q6, ix_nI hx3]
      · have q5 := s_oI_some h85
        refine PW_bipush (pc' := 90) dX6_round_88 rfl (v := -100) (by first | rfl | decide) ?_
        refine PW_iload7 (pc' := 92) dX6_round_90 rfl ?_
        refine PW_isub (pc' := 93) dX6_round_92 rfl ?_
        refine PW_ireturn .int dX6_round_93 rfl rfl ?_
        refine ⟨?_, hA1, hF1⟩
        simp only [op_round]
        rw [if_pos h53, if_neg h75, if_pos q5]
        rfl
    · refine PW_iload7 (pc' := 80) dX6_round_78 rfl ?_
      refine PW_ireturn .int dX6_round_80 rfl rfl ?_
      refine ⟨?_, hA1, hF1⟩
      simp only [op_round]
      rw [if_pos h53, if_pos h75]
  · rw [hok2] at h53 hA1 hrw
    refine PW_iload6 (pc' := 58) dX6_round_56 rfl ?_
    refine PW_ireturn .int dX6_round_58 rfl rfl ?_
    rw [hok2]
    refine ⟨?_, hA1, hF1⟩
    simp only [op_round]
    rw [if_neg h53]
set_option maxHeartbeats 4000000 in
theorem c_X6_round {Γ : pv_G} {d : Nat} {M : pv_M} {a : s_A} {k l i w : Int32} (hA : AX M a) : Ct Γ (d + 4) vX6_round [.ref 0, .int k, .int l, .int i, .int w] M (o_X (op_round k l i w a) M) := by
  obtain ⟨hH, hR, hSh, hfl, htr⟩ := id hA
  obtain ⟨hok, hc1, hc2, hc3, hf⟩ := id hH
  have hn5 := hok.1
  refine Ct.of oX6_round.1 rfl (pad := 5) rfl ?_
  show PW Γ (d + 4) vX6_round 0 [.ref 0, .int k, .int l, .int i, .int w, .null, .null, .null, .null, .null] [] M _
  refine PW_iload4 (pc' := 2) dX6_round_0 rfl ?_
  refine PW_bipush (pc' := 4) dX6_round_2 rfl (v := nI 10) (by first | rfl | decide) ?_
  refine PW_icmp_lt (tgt := 18) (pc' := 7) dX6_round_4 rfl rfl (fun h4 => ?_) (fun h4 => ?_)
  · simp only [Int32.lt_iff_toInt_lt, Int32.le_iff_toInt_le, nI_toInt (show 10 < 2 ^ 31 by decide), Int.cast_ofNat_Int] at h4
    have qa : s_rng w 10 15 = false := by
      simp only [s_rng, Bool.and_eq_false_iff, decide_eq_false_iff_not]
      omega
    refine PW_iconst (pc' := 19) dX6_round_18 rfl (v := 0) (by first | rfl | decide) ?_
    refine PW_istore5 (pc' := 21) dX6_round_19 rfl rfl rfl ?_
    refine PW_aload0 (pc' := 22) dX6_round_21 rfl ?_
    refine PW_iload1 (pc' := 23) dX6_round_22 rfl ?_
    refine PW_iload2 (pc' := 24) dX6_round_23 rfl ?_
    refine PW_iload3 (pc' := 25) dX6_round_24 rfl ?_
    refine PW_iload5 (pc' := 27) dX6_round_25 rfl ?_
    refine PW_if_ne (tgt := 41) (pc' := 30) dX6_round_27 rfl rfl (fun h27 => ?_) (fun h27 => ?_)
    · refine PW_iconst (pc' := 42) dX6_round_41 rfl (v := 1) (by first | rfl | decide) ?_
      refine PW_goto (tgt := 46) dX6_round_42 rfl ?_
      first
        | exact (h27 rfl).elim
        | exact absurd h27 (by decide)
        | exact l_X6_round (ok := true) (oh := true) rfl rfl rfl hA (by simp [qa]) (by simp [qa])
        | exact l_X6_round (ok := true) (oh := false) rfl rfl rfl hA (by simp [qb]) (by simp [qa])
        | exact l_X6_round (ok := false) (oh := false) rfl rfl rfl hA (by simp [qa, qb]) (by simp [qa])
    · refine PW_iload4 (pc' := 32) dX6_round_30 rfl ?_
      refine PW_if_lt (tgt := 45) (pc' := 35) dX6_round_32 rfl rfl (fun h32 => ?_) (fun h32 => ?_)
      · rw [z_lt] at h32
        have qb : s_rng w 0 3 = false := by
          simp only [s_rng, Bool.and_eq_false_iff, decide_eq_false_iff_not]
          omega
        refine PW_iconst (pc' := 46) dX6_round_45 rfl (v := 0) (by first | rfl | decide) ?_
        first
          | exact (h27 rfl).elim
          | exact absurd h27 (by decide)
          | exact l_X6_round (ok := true) (oh := true) rfl rfl rfl hA (by simp [qa]) (by simp [qa])
          | exact l_X6_round (ok := true) (oh := false) rfl rfl rfl hA (by simp [qb]) (by simp [qa])
          | exact l_X6_round (ok := false) (oh := false) rfl rfl rfl hA (by simp [qa, qb]) (by simp [qa])
      · rw [z_lt] at h32
        refine PW_iload4 (pc' := 37) dX6_round_35 rfl ?_
        refine PW_iconst (pc' := 38) dX6_round_37 rfl (v := nI 3) (by first | rfl | decide) ?_
        refine PW_icmp_gt (tgt := 45) (pc' := 41) dX6_round_38 rfl rfl (fun h38 => ?_) (fun h38 => ?_)
        · simp only [Int32.lt_iff_toInt_lt, Int32.le_iff_toInt_le, nI_toInt (show 3 < 2 ^ 31 by decide), Int.cast_ofNat_Int] at h38
          have qb : s_rng w 0 3 = false := by
            simp only [s_rng, Bool.and_eq_false_iff, decide_eq_false_iff_not]
            omega
          refine PW_iconst (pc' := 46) dX6_round_45 rfl (v := 0) (by first | rfl | decide) ?_
          first
            | exact (h27 rfl).elim
            | exact absurd h27 (by decide)
            | exact l_X6_round (ok := true) (oh := true) rfl rfl rfl hA (by simp [qa]) (by simp [qa])
            | exact l_X6_round (ok := true) (oh := false) rfl rfl rfl hA (by simp [qb]) (by simp [qa])
            | exact l_X6_round (ok := false) (oh := false) rfl rfl rfl hA (by simp [qa, qb]) (by simp [qa])
        · simp only [Int32.lt_iff_toInt_lt, Int32.le_iff_toInt_le, nI_toInt (show 3 < 2 ^ 31 by decide), Int.cast_ofNat_Int] at h38
          have qb : s_rng w 0 3 = true := by
            simp only [s_rng, Bool.and_eq_true, decide_eq_true_eq]
            omega
          refine PW_iconst (pc' := 42) dX6_round_41 rfl (v := 1) (by first | rfl | decide) ?_
          refine PW_goto (tgt := 46) dX6_round_42 rfl ?_
          first
            | exact (h27 rfl).elim
            | exact absurd h27 (by decide)
            | exact l_X6_round (ok := true) (oh := true) rfl rfl rfl hA (by simp [qa]) (by simp [qa])
            | exact l_X6_round (ok := true) (oh := false) rfl rfl rfl hA (by simp [qb]) (by simp [qa])
            | exact l_X6_round (ok := false) (oh := false) rfl rfl rfl hA (by simp [qa, qb]) (by simp [qa])
  · simp only [Int32.lt_iff_toInt_lt, Int32.le_iff_toInt_le, nI_toInt (show 10 < 2 ^ 31 by decide), Int.cast_ofNat_Int] at h4
    refine PW_iload4 (pc' := 9) dX6_round_7 rfl ?_
    refine PW_bipush (pc' := 11) dX6_round_9 rfl (v := nI 16) (by first | rfl | decide) ?_
    refine PW_icmp_ge (tgt := 18) (pc' := 14) dX6_round_11 rfl rfl (fun h11 => ?_) (fun h11 => ?_)
    · simp only [Int32.lt_iff_toInt_lt, Int32.le_iff_toInt_le, nI_toInt (show 16 < 2 ^ 31 by decide), Int.cast_ofNat_Int] at h11
      have qa : s_rng w 10 15 = false := by
        simp only [s_rng, Bool.and_eq_false_iff, decide_eq_false_iff_not]
        omega
      refine PW_iconst (pc' := 19) dX6_round_18 rfl (v := 0) (by first | rfl | decide) ?_
      refine PW_istore5 (pc' := 21) dX6_round_19 rfl rfl rfl ?_
      refine PW_aload0 (pc' := 22) dX6_round_21 rfl ?_
      refine PW_iload1 (pc' := 23) dX6_round_22 rfl ?_
      refine PW_iload2 (pc' := 24) dX6_round_23 rfl ?_
      refine PW_iload3 (pc' := 25) dX6_round_24 rfl ?_
      refine PW_iload5 (pc' := 27) dX6_round_25 rfl ?_
      refine PW_if_ne (tgt := 41) (pc' := 30) dX6_round_27 rfl rfl (fun h27 => ?_) (fun h27 => ?_)
      · refine PW_iconst (pc' := 42) dX6_round_41 rfl (v := 1) (by first | rfl | decide) ?_
        refine PW_goto (tgt := 46) dX6_round_42 rfl ?_
        first
          | exact (h27 rfl).elim
          | exact absurd h27 (by decide)
          | exact l_X6_round (ok := true) (oh := true) rfl rfl rfl hA (by simp [qa]) (by simp [qa])
          | exact l_X6_round (ok := true) (oh := false) rfl rfl rfl hA (by simp [qb]) (by simp [qa])
          | exact l_X6_round (ok := false) (oh := false) rfl rfl rfl hA (by simp [qa, qb]) (by simp [qa])
      · refine PW_iload4 (pc' := 32) dX6_round_30 rfl ?_
        refine PW_if_lt (tgt := 45) (pc' := 35) dX6_round_32 rfl rfl (fun h32 => ?_) (fun h32 => ?_)
        · rw [z_lt] at h32
          have qb : s_rng w 0 3 = false := by
            simp only [s_rng, Bool.and_eq_false_iff, decide_eq_false_iff_not]
            omega
          refine PW_iconst (pc' := 46) dX6_round_45 rfl (v := 0) (by first | rfl | decide) ?_
          first
            | exact (h27 rfl).elim
            | exact absurd h27 (by decide)
            | exact l_X6_round (ok := true) (oh := true) rfl rfl rfl hA (by simp [qa]) (by simp [qa])
            | exact l_X6_round (ok := true) (oh := false) rfl rfl rfl hA (by simp [qb]) (by simp [qa])
            | exact l_X6_round (ok := false) (oh := false) rfl rfl rfl hA (by simp [qa, qb]) (by simp [qa])
        · rw [z_lt] at h32
          refine PW_iload4 (pc' := 37) dX6_round_35 rfl ?_
          refine PW_iconst (pc' := 38) dX6_round_37 rfl (v := nI 3) (by first | rfl | decide) ?_
          refine PW_icmp_gt (tgt := 45) (pc' := 41) dX6_round_38 rfl rfl (fun h38 => ?_) (fun h38 => ?_)
          · simp only [Int32.lt_iff_toInt_lt, Int32.le_iff_toInt_le, nI_toInt (show 3 < 2 ^ 31 by decide), Int.cast_ofNat_Int] at h38
            have qb : s_rng w 0 3 = false := by
              simp only [s_rng, Bool.and_eq_false_iff, decide_eq_false_iff_not]
              omega
            refine PW_iconst (pc' := 46) dX6_round_45 rfl (v := 0) (by first | rfl | decide) ?_
            first
              | exact (h27 rfl).elim
              | exact absurd h27 (by decide)
              | exact l_X6_round (ok := true) (oh := true) rfl rfl rfl hA (by simp [qa]) (by simp [qa])
              | exact l_X6_round (ok := true) (oh := false) rfl rfl rfl hA (by simp [qb]) (by simp [qa])
              | exact l_X6_round (ok := false) (oh := false) rfl rfl rfl hA (by simp [qa, qb]) (by simp [qa])
          · simp only [Int32.lt_iff_toInt_lt, Int32.le_iff_toInt_le, nI_toInt (show 3 < 2 ^ 31 by decide), Int.cast_ofNat_Int] at h38
            have qb : s_rng w 0 3 = true := by
              simp only [s_rng, Bool.and_eq_true, decide_eq_true_eq]
              omega
            refine PW_iconst (pc' := 42) dX6_round_41 rfl (v := 1) (by first | rfl | decide) ?_
            refine PW_goto (tgt := 46) dX6_round_42 rfl ?_
            first
              | exact (h27 rfl).elim
              | exact absurd h27 (by decide)
              | exact l_X6_round (ok := true) (oh := true) rfl rfl rfl hA (by simp [qa]) (by simp [qa])
              | exact l_X6_round (ok := true) (oh := false) rfl rfl rfl hA (by simp [qb]) (by simp [qa])
              | exact l_X6_round (ok := false) (oh := false) rfl rfl rfl hA (by simp [qa, qb]) (by simp [qa])
    · simp only [Int32.lt_iff_toInt_lt, Int32.le_iff_toInt_le, nI_toInt (show 16 < 2 ^ 31 by decide), Int.cast_ofNat_Int] at h11
      have qa : s_rng w 10 15 = true := by
        simp only [s_rng, Bool.and_eq_true, decide_eq_true_eq]
        omega
      refine PW_iconst (pc' := 15) dX6_round_14 rfl (v := 1) (by first | rfl | decide) ?_
      refine PW_goto (tgt := 19) dX6_round_15 rfl ?_
      refine PW_istore5 (pc' := 21) dX6_round_19 rfl rfl rfl ?_
      refine PW_aload0 (pc' := 22) dX6_round_21 rfl ?_
      refine PW_iload1 (pc' := 23) dX6_round_22 rfl ?_
      refine PW_iload2 (pc' := 24) dX6_round_23 rfl ?_
      refine PW_iload3 (pc' := 25) dX6_round_24 rfl ?_
      refine PW_iload5 (pc' := 27) dX6_round_25 rfl ?_
      refine PW_if_ne (tgt := 41) (pc' := 30) dX6_round_27 rfl rfl (fun h27 => ?_) (fun h27 => ?_)
      · refine PW_iconst (pc' := 42) dX6_round_41 rfl (v := 1) (by first | rfl | decide) ?_
        refine PW_goto (tgt := 46) dX6_round_42 rfl ?_
        first
          | exact (h27 rfl).elim
          | exact absurd h27 (by decide)
          | exact l_X6_round (ok := true) (oh := true) rfl rfl rfl hA (by simp [qa]) (by simp [qa])
          | exact l_X6_round (ok := true) (oh := false) rfl rfl rfl hA (by simp [qb]) (by simp [qa])
          | exact l_X6_round (ok := false) (oh := false) rfl rfl rfl hA (by simp [qa, qb]) (by simp [qa])
      · refine PW_iload4 (pc' := 32) dX6_round_30 rfl ?_
        refine PW_if_lt (tgt := 45) (pc' := 35) dX6_round_32 rfl rfl (fun h32 => ?_) (fun h32 => ?_)
        · rw [z_lt] at h32
          have qb : s_rng w 0 3 = false := by
            simp only [s_rng, Bool.and_eq_false_iff, decide_eq_false_iff_not]
            omega
          refine PW_iconst (pc' := 46) dX6_round_45 rfl (v := 0) (by first | rfl | decide) ?_
          first
            | exact (h27 rfl).elim
            | exact absurd h27 (by decide)
            | exact l_X6_round (ok := true) (oh := true) rfl rfl rfl hA (by simp [qa]) (by simp [qa])
            | exact l_X6_round (ok := true) (oh := false) rfl rfl rfl hA (by simp [qb]) (by simp [qa])
            | exact l_X6_round (ok := false) (oh := false) rfl rfl rfl hA (by simp [qa, qb]) (by simp [qa])
        · rw [z_lt] at h32
          refine PW_iload4 (pc' := 37) dX6_round_35 rfl ?_
          refine PW_iconst (pc' := 38) dX6_round_37 rfl (v := nI 3) (by first | rfl | decide) ?_
          refine PW_icmp_gt (tgt := 45) (pc' := 41) dX6_round_38 rfl rfl (fun h38 => ?_) (fun h38 => ?_)
          · simp only [Int32.lt_iff_toInt_lt, Int32.le_iff_toInt_le, nI_toInt (show 3 < 2 ^ 31 by decide), Int.cast_ofNat_Int] at h38
            have qb : s_rng w 0 3 = false := by
              simp only [s_rng, Bool.and_eq_false_iff, decide_eq_false_iff_not]
              omega
            refine PW_iconst (pc' := 46) dX6_round_45 rfl (v := 0) (by first | rfl | decide) ?_
            first
              | exact (h27 rfl).elim
              | exact absurd h27 (by decide)
              | exact l_X6_round (ok := true) (oh := true) rfl rfl rfl hA (by simp [qa]) (by simp [qa])
              | exact l_X6_round (ok := true) (oh := false) rfl rfl rfl hA (by simp [qb]) (by simp [qa])
              | exact l_X6_round (ok := false) (oh := false) rfl rfl rfl hA (by simp [qa, qb]) (by simp [qa])
          · simp only [Int32.lt_iff_toInt_lt, Int32.le_iff_toInt_le, nI_toInt (show 3 < 2 ^ 31 by decide), Int.cast_ofNat_Int] at h38
            have qb : s_rng w 0 3 = true := by
              simp only [s_rng, Bool.and_eq_true, decide_eq_true_eq]
              omega
            refine PW_iconst (pc' := 42) dX6_round_41 rfl (v := 1) (by first | rfl | decide) ?_
            refine PW_goto (tgt := 46) dX6_round_42 rfl ?_
            first
              | exact (h27 rfl).elim
              | exact absurd h27 (by decide)
              | exact l_X6_round (ok := true) (oh := true) rfl rfl rfl hA (by simp [qa]) (by simp [qa])
              | exact l_X6_round (ok := true) (oh := false) rfl rfl rfl hA (by simp [qb]) (by simp [qa])
              | exact l_X6_round (ok := false) (oh := false) rfl rfl rfl hA (by simp [qa, qb]) (by simp [qa])
