/-! the class: a house out of a text -/
theorem pv_up_o {M : pv_M} {p k q : Nat} {v : Int32} (h : q ≠ p) : pv_up M p k v q = M q := by simp only [pv_up, pv_row, if_neg h]
theorem pv_row_o {M : pv_M} {p q : Nat} {f : Nat → Int32} (h : q ≠ p) : pv_row M p f q = M q := by simp only [pv_row, if_neg h]
def s_dg (x : Int32) : Nat := (x.toInt - 48).toNat
def v_kind (x : Int32) : Int32 := if x = 108 then 2 else if x = 104 then 1 else 0
def s_kd (x : Int32) : Nat := if x = 108 then 2 else if x = 104 then 1 else 0
theorem v_kind_eq (x : Int32) : v_kind x = nI (s_kd x) := by
  unfold v_kind s_kd
  split
  · rfl
  · split <;> rfl
def s_fld (c : Nat → Int32) (f t : Nat) : Nat := if f = 0 then s_kd (c (2 + 7 * t + 1)) else if f = 1 then s_dg (c (2 + 7 * t + 2)) else if f = 2 then s_dg (c (2 + 7 * t + 3)) else if f = 3 then s_dg (c (2 + 7 * t + 4)) else 10 * s_dg (c (2 + 7 * t + 5)) + s_dg (c (2 + 7 * t + 6))
def s_fill (c : Nat → Int32) (n : Nat) : s_H := ((n - 2) / 7, s_dg (c 1), 3, s_fld c)
theorem v_dig_of {x : Int32} {lo hi : Nat} (hh : hi ≤ 9) (hl : lo ≤ 9) (h : v_dig x (nI lo) (nI hi) = true) : x = nI (48 + s_dg x) ∧ lo ≤ s_dg x ∧ s_dg x ≤ hi := by
  have e1 : (48 : Int32) + nI lo = nI (48 + lo) := nI_add 48 lo
  have e2 : (48 : Int32) + nI hi = nI (48 + hi) := nI_add 48 hi
  simp only [v_dig, e1, e2, Bool.and_eq_true, Bool.not_eq_true', decide_eq_false_iff_not] at h
  obtain ⟨h1, h2⟩ := h
  rw [Int32.lt_iff_toInt_lt, nI_toInt (by omega)] at h1
  rw [z_gt (by omega)] at h2
  have e : x.toInt = ((48 + s_dg x : Nat) : Int) := by
    simp only [s_dg]
    omega
  refine ⟨Int32.toInt_inj.mp (by rw [nI_toInt (by simp only [s_dg]; omega)]; exact e), by simp only [s_dg]; omega, by simp only [s_dg]; omega⟩
theorem v_dig_sub {x : Int32} {d : Nat} (h : x = nI (48 + d)) : x - 48 = nI d := by
  rw [h, show (48 : Int32) = nI 48 from rfl]
  have e : nI (48 + d) = nI d + nI 48 := by rw [nI_add, Nat.add_comm]
  rw [e]
  exact Int32.add_sub_cancel _ _
/-- a text that is taken: as many codes as things want, each as it must be -/
theorem s_ffl_none {c : Nat → Int32} : ∀ k, s_ffl c k = none → ∀ p, p < k → s_goes p (if p = 0 then 0 else c (p - 1)) (c p) = true
  | 0, _, p, hp => absurd hp (Nat.not_lt_zero p)
  | k + 1, h, p, hp => by
    simp only [s_ffl] at h
    cases hk : s_ffl c k with
    | some x => rw [hk] at h; cases h
    | none =>
      rw [hk] at h
      by_cases hg : s_goes k (if k = 0 then 0 else c (k - 1)) (c k) = true
      · rcases Nat.lt_succ_iff_lt_or_eq.mp hp with q | q
        · exact s_ffl_none k hk p q
        · rw [q]; exact hg
      · simp only [hg] at h
        cases h
theorem s_ff_none {c : Nat → Int32} {n : Nat} (h : s_ff c n = none) : (∀ p, p < n → s_goes p (if p = 0 then 0 else c (p - 1)) (c p) = true) ∧ n = 2 + 7 * ((n - 2) / 7) ∧ 1 ≤ (n - 2) / 7 ∧ (n - 2) / 7 ≤ 5 := by
  unfold s_ff at h
  cases hk : s_ffl c n with
  | some x => rw [hk] at h; cases h
  | none =>
    rw [hk] at h
    by_cases hc : 2 < n ∧ (n - 2) % 7 = 0
    · have hall := s_ffl_none n hk
      have h37 : n ≤ 37 := by
        rcases Nat.lt_or_ge 37 n with q | q
        · have := hall 37 q
          simp [s_goes] at this
        · exact q
      exact ⟨hall, by omega, by omega, by omega⟩
    · simp only [if_neg hc] at h
      cases h
theorem s_goes_at {c : Nat → Int32} {n t q : Nat} (hall : ∀ p, p < n → s_goes p (if p = 0 then 0 else c (p - 1)) (c p) = true) (ht : 2 + 7 * t + 7 ≤ n) (hn : n ≤ 37) (hq : q < 7) :
    (if q = 0 then decide (c (2 + 7 * t + q) = 59) else if q = 1 then (decide (c (2 + 7 * t + q) = 116) || (decide (c (2 + 7 * t + q) = 104) || decide (c (2 + 7 * t + q) = 108))) else if q = 2 then v_dig (c (2 + 7 * t + q)) 0 3 else if q = 3 then v_dig (c (2 + 7 * t + q)) 1 9 else if q = 4 then v_dig (c (2 + 7 * t + q)) 1 6 else if q = 5 then v_dig (c (2 + 7 * t + q)) 0 6 else v_dig (c (2 + 7 * t + q)) 0 (if c (2 + 7 * t + q - 1) = 54 then 3 else 9)) = true := by
  have h := hall (2 + 7 * t + q) (by omega)
  have e : (2 + 7 * t + q - 2) % 7 = q := by omega
  rw [if_neg (by omega)] at h
  simp only [s_goes] at h
  rw [if_neg (by omega), if_neg (by omega), if_neg (by omega), e] at h
  exact h
/-- the digits of thing t -/
theorem s_goes_th {c : Nat → Int32} {n t : Nat} (hall : ∀ p, p < n → s_goes p (if p = 0 then 0 else c (p - 1)) (c p) = true) (ht : 2 + 7 * t + 7 ≤ n) (hn : n ≤ 37) :
    (c (2 + 7 * t + 2) = nI (48 + s_dg (c (2 + 7 * t + 2))) ∧ s_dg (c (2 + 7 * t + 2)) ≤ 3) ∧ (c (2 + 7 * t + 3) = nI (48 + s_dg (c (2 + 7 * t + 3))) ∧ 1 ≤ s_dg (c (2 + 7 * t + 3)) ∧ s_dg (c (2 + 7 * t + 3)) ≤ 9) ∧
    (c (2 + 7 * t + 4) = nI (48 + s_dg (c (2 + 7 * t + 4))) ∧ 1 ≤ s_dg (c (2 + 7 * t + 4)) ∧ s_dg (c (2 + 7 * t + 4)) ≤ 6) ∧ c (2 + 7 * t + 5) = nI (48 + s_dg (c (2 + 7 * t + 5))) ∧ c (2 + 7 * t + 6) = nI (48 + s_dg (c (2 + 7 * t + 6))) ∧ 10 * s_dg (c (2 + 7 * t + 5)) + s_dg (c (2 + 7 * t + 6)) < 64 := by
  have g := fun q hq => s_goes_at (q := q) hall ht hn hq
  have g2 := g 2 (by decide)
  have g3 := g 3 (by decide)
  have g4 := g 4 (by decide)
  have g5 := g 5 (by decide)
  have g6 := g 6 (by decide)
  simp at g2 g3 g4 g5 g6
  obtain ⟨a2, -, b2⟩ := v_dig_of (lo := 0) (hi := 3) (by decide) (by decide) g2
  obtain ⟨a3, l3, b3⟩ := v_dig_of (lo := 1) (hi := 9) (by decide) (by decide) g3
  obtain ⟨a4, l4, b4⟩ := v_dig_of (lo := 1) (hi := 6) (by decide) (by decide) g4
  obtain ⟨a5, -, b5⟩ := v_dig_of (lo := 0) (hi := 6) (by decide) (by decide) g5
  refine ⟨⟨a2, b2⟩, ⟨a3, l3, b3⟩, ⟨a4, l4, b4⟩, a5, ?_⟩
  by_cases h54 : c (2 + 7 * t + 5) = 54
  · rw [if_pos h54] at g6
    obtain ⟨a6, -, b6⟩ := v_dig_of (lo := 0) (hi := 3) (by decide) (by decide) g6
    exact ⟨a6, by omega⟩
  · rw [if_neg h54] at g6
    obtain ⟨a6, -, b6⟩ := v_dig_of (lo := 0) (hi := 9) (by decide) (by decide) g6
    refine ⟨a6, ?_⟩
    have h6 : s_dg (c (2 + 7 * t + 5)) ≠ 6 := fun z => h54 (by rw [a5, z]; rfl)
    omega
theorem s_goes_pen {c : Nat → Int32} {n : Nat} (hall : ∀ p, p < n → s_goes p (if p = 0 then 0 else c (p - 1)) (c p) = true) (hn : 2 ≤ n) : c 1 = nI (48 + s_dg (c 1)) ∧ s_dg (c 1) ≤ 9 := by
  have h := hall 1 (by omega)
  simp [s_goes] at h
  obtain ⟨a, -, b⟩ := v_dig_of (lo := 0) (hi := 9) (by decide) (by decide) h
  exact ⟨a, b⟩
theorem s_kd_le (x : Int32) : s_kd x ≤ 2 := by
  unfold s_kd
  split
  · omega
  · split <;> omega
theorem s_fill_ok {c : Nat → Int32} {n : Nat} (h : s_ff c n = none) : s_ok (s_fill c n) := by
  obtain ⟨hall, h1, h2, h3⟩ := s_ff_none h
  refine ⟨h3, (s_goes_pen hall (by omega)).2, Nat.le_refl _, fun t ht => ?_⟩
  have ht : t < (n - 2) / 7 := ht
  obtain ⟨⟨a2, b2⟩, ⟨a3, l3, b3⟩, ⟨a4, l4, b4⟩, a5, a6, b6⟩ := s_goes_th hall (t := t) (by omega) (by omega)
  exact ⟨s_kd_le _, b2, ⟨l3, b3⟩, ⟨l4, b4⟩, b6⟩
set_option maxHeartbeats 4000000 in
theorem c_X4_kindOf {Γ : pv_G} {d : Nat} {M : pv_M} {x : Int32} : Ct Γ d vX4_kindOf [.int x] M (pv_fn (some (.int (v_kind x))) M) := by
  refine Ct.of oX4_kindOf.1 rfl (pad := 0) rfl ?_
  show PW Γ d vX4_kindOf 0 [.int x] [] M _
  refine PW_iload0 (pc' := 1) dX4_kindOf_0 rfl ?_
  refine PW_bipush (pc' := 3) dX4_kindOf_1 rfl (v := 108) (by first | rfl | decide) ?_
  refine PW_icmp_ne (tgt := 8) (pc' := 6) dX4_kindOf_3 rfl rfl (fun h3 => ?_) (fun h3 => ?_)
  · refine PW_iload0 (pc' := 9) dX4_kindOf_8 rfl ?_
    refine PW_bipush (pc' := 11) dX4_kindOf_9 rfl (v := 104) (by first | rfl | decide) ?_
    refine PW_icmp_ne (tgt := 18) (pc' := 14) dX4_kindOf_11 rfl rfl (fun h11 => ?_) (fun h11 => ?_)
    · refine PW_iconst (pc' := 19) dX4_kindOf_18 rfl (v := 0) (by first | rfl | decide) ?_
      refine PW_ireturn .int dX4_kindOf_19 rfl rfl ?_
      refine ⟨?_, rfl⟩
      simp_all [v_kind]
    · refine PW_iconst (pc' := 15) dX4_kindOf_14 rfl (v := 1) (by first | rfl | decide) ?_
      refine PW_goto (tgt := 19) dX4_kindOf_15 rfl ?_
      refine PW_ireturn .int dX4_kindOf_19 rfl rfl ?_
      refine ⟨?_, rfl⟩
      simp_all [v_kind]
  · refine PW_iconst (pc' := 7) dX4_kindOf_6 rfl (v := 2) (by first | rfl | decide) ?_
    refine PW_ireturn .int dX4_kindOf_7 rfl rfl ?_
    refine ⟨?_, rfl⟩
    simp_all [v_kind]
abbrev s_12 : List Nat := [10, 12, 13, 14, 15, 16]
theorem s_12_in {j : Nat} (hj : j < 5) : 12 + j ∈ s_12 := by
  match j, hj with
  | 0, _ => decide
  | 1, _ => decide
  | 2, _ => decide
  | 3, _ => decide
  | 4, _ => decide
theorem s_12_no {k : Nat} (hk : k < 4) : 6 + k ∉ s_12 := by
  match k, hk with
  | 0, _ => decide
  | 1, _ => decide
  | 2, _ => decide
  | 3, _ => decide
set_option maxHeartbeats 4000000 in
theorem l_X4_fill {Γ : pv_G} {d k i n : Nat} {M0 : pv_M} (hk : k < 4) (hin : i + n ≤ 60) (hff : s_ff (fun x => M0 (6 + k) (i + x)) n = none) : ∀ (m j : Nat) (M : pv_M) (x5 x6 : Value), j + m = (n - 2) / 7 → x5.category = 1 → fr s_12 M0 M → M 10 1 = nI ((n - 2) / 7) → M 10 2 = nI (s_fill (fun x => M0 (6 + k) (i + x)) n).2.1 → M 10 3 = nI 3 →
      (∀ t, t < j → ∀ f, f < 5 → M (12 + t) f = nI ((s_fill (fun x => M0 (6 + k) (i + x)) n).2.2.2 f t)) →
    PW Γ (d + 1) vX4_fill 30 [.ref 10, .ref (6 + k), .int (nI i), .int (nI n), .int (nI j), x5, x6] [] M (fun r M' => r = none ∧ (HX M' (s_fill (fun x => M0 (6 + k) (i + x)) n) ∧ fr s_12 M0 M')) := by
  obtain ⟨hall, hn1, hn2, hn3⟩ := s_ff_none hff
  have hok := s_fill_ok hff
  intro m
  induction m using Nat.strongRecOn with
  | ind m ih =>
    intro j M x5 x6 hjm hx5 hfr e1 e2 e3 hth
    have hc5 : pv_nl 6 [.ref 10, .ref (6 + k), .int (nI i), .int (nI n), .int (nI j), x5, x6] = true := by simp [pv_nl, hx5]
    refine PW_iload4 (pc' := 32) dX4_fill_30 rfl ?_
    refine PW_aload0 (pc' := 33) dX4_fill_32 rfl ?_
    refine PW_getI (pc' := 36) dX4_fill_33 rfl fX4_18 rfl rfl ?_
    rw [e1]
    refine PW_icmp_ge (tgt := 149) (pc' := 39) dX4_fill_36 rfl rfl (fun h36 => ?_) (fun h36 => ?_)
    · have hj : j = (n - 2) / 7 := by have := s_bge (by omega) (by omega) h36; omega
      refine PW_return dX4_fill_149 rfl ⟨rfl, ⟨hok, e1, e2, e3, fun t ht f hf => ?_⟩, hfr⟩
      have ht : t < (n - 2) / 7 := ht
      exact hth t (by omega) f hf
    · have hj : j < (n - 2) / 7 := s_bnd (by omega) (by omega) h36
      have hne : 6 + k ≠ 12 + j := by omega
      have hcell : ∀ x, M (6 + k) (i + x) = M0 (6 + k) (i + x) := fun x => by rw [hfr (6 + k) (s_12_no hk)]
      obtain ⟨⟨a2, b2⟩, ⟨a3, l3, b3⟩, ⟨a4, l4, b4⟩, a5, a6, b6⟩ := s_goes_th hall (t := j) (by omega) (by omega)
      refine PW_iload2 (pc' := 40) dX4_fill_39 rfl ?_
      refine PW_iconst (pc' := 41) dX4_fill_40 rfl (v := nI 2) (by first | rfl | decide) ?_
      refine PW_iadd (pc' := 42) dX4_fill_41 rfl ?_
      refine PW_iload4 (pc' := 44) dX4_fill_42 rfl ?_
      refine PW_bipush (pc' := 46) dX4_fill_44 rfl (v := nI 7) (by first | rfl | decide) ?_
      refine PW_imul (pc' := 47) dX4_fill_46 rfl ?_
      rw [nI_mul]
      refine PW_iadd (pc' := 48) dX4_fill_47 rfl ?_
      rw [nI_add, nI_add, show i + 2 + j * 7 = i + (2 + 7 * j) by omega]
      refine PW_istore5 (pc' := 50) dX4_fill_48 rfl rfl rfl ?_
      refine PW_aload0 (pc' := 51) dX4_fill_50 rfl ?_
      refine PW_getR (pc' := 54) dX4_fill_51 rfl fX4_30 rfl rfl ?_
      refine PW_iload4 (pc' := 56) dX4_fill_54 rfl ?_
      refine PW_aald3 (pc' := 57) dX4_fill_56 rfl (by omega) ?_
      refine PW_astore6 (pc' := 59) dX4_fill_57 rfl rfl rfl ?_
      refine PW_aload6 (pc' := 61) dX4_fill_59 rfl ?_
      refine PW_aload1 (pc' := 62) dX4_fill_61 rfl ?_
      refine PW_iload5 (pc' := 64) dX4_fill_62 rfl ?_
      refine PW_iconst (pc' := 65) dX4_fill_64 rfl (v := nI 1) (by first | rfl | decide) ?_
      refine PW_iadd (pc' := 66) dX4_fill_65 rfl ?_
      rw [nI_add, show i + (2 + 7 * j) + 1 = i + (2 + 7 * j + 1) by omega]
      refine PW_ialdn (pc' := 67) dX4_fill_66 rfl (pv_lay_cells (by omega)) rfl (by omega) ?_
      try simp only [pv_up_o hne]
      rw [hcell (2 + 7 * j + 1)]
      refine PW_callS1f (pc' := 70) dX4_fill_67 rfl oX4_kindOf lX4_34 (Nat.le_of_ble_eq_true rfl) (c_X4_kindOf) ?_
      refine PW_putI (pc' := 73) dX4_fill_70 rfl fX4_38 w4_0 (pv_lay_thing (by omega)) rfl ?_
      refine PW_aload6 (pc' := 75) dX4_fill_73 rfl ?_
      refine PW_aload1 (pc' := 76) dX4_fill_75 rfl ?_
      refine PW_iload5 (pc' := 78) dX4_fill_76 rfl ?_
      refine PW_iconst (pc' := 79) dX4_fill_78 rfl (v := nI 2) (by first | rfl | decide) ?_
      refine PW_iadd (pc' := 80) dX4_fill_79 rfl ?_
      rw [nI_add, show i + (2 + 7 * j) + 2 = i + (2 + 7 * j + 2) by omega]
      refine PW_ialdn (pc' := 81) dX4_fill_80 rfl (pv_lay_cells (by omega)) rfl (by omega) ?_
      try simp only [pv_up_o hne]
      rw [hcell (2 + 7 * j + 2)]
      refine PW_bipush (pc' := 83) dX4_fill_81 rfl (v := 48) (by first | rfl | decide) ?_
      refine PW_isub (pc' := 84) dX4_fill_83 rfl ?_
      refine PW_putI (pc' := 87) dX4_fill_84 rfl fX4_43 w4_1 (pv_lay_thing (by omega)) rfl ?_
      refine PW_aload6 (pc' := 89) dX4_fill_87 rfl ?_
      refine PW_aload1 (pc' := 90) dX4_fill_89 rfl ?_
      refine PW_iload5 (pc' := 92) dX4_fill_90 rfl ?_
      refine PW_iconst (pc' := 93) dX4_fill_92 rfl (v := nI 3) (by first | rfl | decide) ?_
      refine PW_iadd (pc' := 94) dX4_fill_93 rfl ?_
      rw [nI_add, show i + (2 + 7 * j) + 3 = i + (2 + 7 * j + 3) by omega]
      refine PW_ialdn (pc' := 95) dX4_fill_94 rfl (pv_lay_cells (by omega)) rfl (by omega) ?_
      try simp only [pv_up_o hne]
      rw [hcell (2 + 7 * j + 3)]
      refine PW_bipush (pc' := 97) dX4_fill_95 rfl (v := 48) (by first | rfl | decide) ?_
      refine PW_isub (pc' := 98) dX4_fill_97 rfl ?_
      refine PW_putI (pc' := 101) dX4_fill_98 rfl fX4_46 w4_2 (pv_lay_thing (by omega)) rfl ?_
      refine PW_aload6 (pc' := 103) dX4_fill_101 rfl ?_
      refine PW_aload1 (pc' := 104) dX4_fill_103 rfl ?_
      refine PW_iload5 (pc' := 106) dX4_fill_104 rfl ?_
      refine PW_iconst (pc' := 107) dX4_fill_106 rfl (v := nI 4) (by first | rfl | decide) ?_
      refine PW_iadd (pc' := 108) dX4_fill_107 rfl ?_
      rw [nI_add, show i + (2 + 7 * j) + 4 = i + (2 + 7 * j + 4) by omega]
      refine PW_ialdn (pc' := 109) dX4_fill_108 rfl (pv_lay_cells (by omega)) rfl (by omega) ?_
      try simp only [pv_up_o hne]
      rw [hcell (2 + 7 * j + 4)]
      refine PW_bipush (pc' := 111) dX4_fill_109 rfl (v := 48) (by first | rfl | decide) ?_
      refine PW_isub (pc' := 112) dX4_fill_111 rfl ?_
      refine PW_putI (pc' := 115) dX4_fill_112 rfl fX4_49 w4_3 (pv_lay_thing (by omega)) rfl ?_
      refine PW_aload6 (pc' := 117) dX4_fill_115 rfl ?_
      refine PW_bipush (pc' := 119) dX4_fill_117 rfl (v := 10) (by first | rfl | decide) ?_
      refine PW_aload1 (pc' := 120) dX4_fill_119 rfl ?_
      refine PW_iload5 (pc' := 122) dX4_fill_120 rfl ?_
      refine PW_iconst (pc' := 123) dX4_fill_122 rfl (v := nI 5) (by first | rfl | decide) ?_
      refine PW_iadd (pc' := 124) dX4_fill_123 rfl ?_
      rw [nI_add, show i + (2 + 7 * j) + 5 = i + (2 + 7 * j + 5) by omega]
      refine PW_ialdn (pc' := 125) dX4_fill_124 rfl (pv_lay_cells (by omega)) rfl (by omega) ?_
      try simp only [pv_up_o hne]
      rw [hcell (2 + 7 * j + 5)]
      refine PW_bipush (pc' := 127) dX4_fill_125 rfl (v := 48) (by first | rfl | decide) ?_
      refine PW_isub (pc' := 128) dX4_fill_127 rfl ?_
      refine PW_imul (pc' := 129) dX4_fill_128 rfl ?_
      refine PW_aload1 (pc' := 130) dX4_fill_129 rfl ?_
      refine PW_iload5 (pc' := 132) dX4_fill_130 rfl ?_
      refine PW_bipush (pc' := 134) dX4_fill_132 rfl (v := nI 6) (by first | rfl | decide) ?_
      refine PW_iadd (pc' := 135) dX4_fill_134 rfl ?_
      rw [nI_add, show i + (2 + 7 * j) + 6 = i + (2 + 7 * j + 6) by omega]
      refine PW_ialdn (pc' := 136) dX4_fill_135 rfl (pv_lay_cells (by omega)) rfl (by omega) ?_
      try simp only [pv_up_o hne]
      rw [hcell (2 + 7 * j + 6)]
      refine PW_iadd (pc' := 137) dX4_fill_136 rfl ?_
      refine PW_bipush (pc' := 139) dX4_fill_137 rfl (v := 48) (by first | rfl | decide) ?_
      refine PW_isub (pc' := 140) dX4_fill_139 rfl ?_
      refine PW_putI (pc' := 143) dX4_fill_140 rfl fX4_52 w4_4 (pv_lay_thing (by omega)) rfl ?_
      refine PW_iinc4 (pc' := 146) dX4_fill_143 rfl rfl rfl nI_inc ?_
      refine PW_goto (tgt := 30) dX4_fill_146 rfl ?_
      have d2 := v_dig_sub a2
      have d3 := v_dig_sub a3
      have d4 := v_dig_sub a4
      have d5 := v_dig_sub a5
      refine ih (m - 1) (by omega) (j + 1) _ _ _ (by omega) rfl (((((hfr.up (s_12_in (by omega))).up (s_12_in (by omega))).up (s_12_in (by omega))).up (s_12_in (by omega))).up (s_12_in (by omega))) ?_ ?_ ?_ (fun t ht f hf => ?_)
      · simp only [pv_up_o (show 10 ≠ 12 + j by omega)]; exact e1
      · simp only [pv_up_o (show 10 ≠ 12 + j by omega)]; exact e2
      · simp only [pv_up_o (show 10 ≠ 12 + j by omega)]; exact e3
      · by_cases htj : t = j
        · subst htj
          have d6 : (10 : Int32) * (M0 (6 + k) (i + (2 + 7 * t + 5)) - 48) + M0 (6 + k) (i + (2 + 7 * t + 6)) - 48 = nI (10 * s_dg (M0 (6 + k) (i + (2 + 7 * t + 5))) + s_dg (M0 (6 + k) (i + (2 + 7 * t + 6)))) := by
            rw [d5, show (10 : Int32) = nI 10 from rfl, nI_mul, a6, nI_add]
            rw [show 10 * s_dg (M0 (6 + k) (i + (2 + 7 * t + 5))) + (48 + s_dg (M0 (6 + k) (i + (2 + 7 * t + 6)))) = 48 + (10 * s_dg (M0 (6 + k) (i + (2 + 7 * t + 5))) + s_dg (M0 (6 + k) (i + (2 + 7 * t + 6)))) by omega]
            rw [v_dig_sub rfl, ← a6]
          rcases (show f = 0 ∨ f = 1 ∨ f = 2 ∨ f = 3 ∨ f = 4 by omega) with rfl | rfl | rfl | rfl | rfl
          · simp [pv_up_at, s_fill, s_fld, v_kind_eq]
          · simp only [pv_up_at, s_fill, s_fld, d2]; simp
          · simp only [pv_up_at, s_fill, s_fld, d3]; simp
          · simp only [pv_up_at, s_fill, s_fld, d4]; simp
          · simp only [pv_up_at, s_fill, s_fld, d6]; simp
        · simp only [pv_up_o (show 12 + t ≠ 12 + j by omega)]
          exact hth t (by omega) f hf
set_option maxHeartbeats 4000000 in
theorem c_X4_fill {Γ : pv_G} {d : Nat} {M : pv_M} {k i n : Nat} (hk : k < 4) (hin : i + n ≤ 60) (hff : s_ff (fun x => M (6 + k) (i + x)) n = none) : Ct Γ (d + 1) vX4_fill [.ref 10, .ref (6 + k), .int (nI i), .int (nI n)] M (fun r M' => r = none ∧ (HX M' (s_fill (fun x => M (6 + k) (i + x)) n) ∧ fr s_12 M M')) := by
  obtain ⟨hall, hn1, hn2, hn3⟩ := s_ff_none hff
  refine Ct.of oX4_fill.1 rfl (pad := 3) rfl ?_
  show PW Γ (d + 1) vX4_fill 0 [.ref 10, .ref (6 + k), .int (nI i), .int (nI n), .null, .null, .null] [] M _
  refine PW_aload0 (pc' := 1) dX4_fill_0 rfl ?_
  refine PW_iload3 (pc' := 2) dX4_fill_1 rfl ?_
  refine PW_iconst (pc' := 3) dX4_fill_2 rfl (v := 2) (by first | rfl | decide) ?_
  refine PW_isub (pc' := 4) dX4_fill_3 rfl ?_
  rw [v_sub2 n (by omega) (by omega)]
  refine PW_bipush (pc' := 6) dX4_fill_4 rfl (v := 7) (by first | rfl | decide) ?_
  refine PW_idiv (pc' := 7) dX4_fill_6 rfl (by decide) ?_
  rw [v_div7 _ (by omega)]
  refine PW_putI (pc' := 10) dX4_fill_7 rfl fX4_18 w0_1 rfl rfl ?_
  refine PW_aload0 (pc' := 11) dX4_fill_10 rfl ?_
  refine PW_aload1 (pc' := 12) dX4_fill_11 rfl ?_
  refine PW_iload2 (pc' := 13) dX4_fill_12 rfl ?_
  refine PW_iconst (pc' := 14) dX4_fill_13 rfl (v := nI 1) (by first | rfl | decide) ?_
  refine PW_iadd (pc' := 15) dX4_fill_14 rfl ?_
  rw [nI_add]
  refine PW_ialdn (pc' := 16) dX4_fill_15 rfl (pv_lay_cells (by omega)) rfl (by omega) ?_
  refine PW_bipush (pc' := 18) dX4_fill_16 rfl (v := 48) (by first | rfl | decide) ?_
  refine PW_isub (pc' := 19) dX4_fill_18 rfl ?_
  simp only [pv_up_o (show 6 + k ≠ 10 by omega)]
  rw [v_dig_sub (s_goes_pen hall (by omega)).1]
  refine PW_putI (pc' := 22) dX4_fill_19 rfl fX4_24 w0_2 rfl rfl ?_
  refine PW_aload0 (pc' := 23) dX4_fill_22 rfl ?_
  refine PW_iconst (pc' := 24) dX4_fill_23 rfl (v := nI 3) (by first | rfl | decide) ?_
  refine PW_putI (pc' := 27) dX4_fill_24 rfl fX4_27 w0_3 rfl rfl ?_
  refine PW_iconst (pc' := 28) dX4_fill_27 rfl (v := nI 0) (by first | rfl | decide) ?_
  refine PW_istore4 (pc' := 30) dX4_fill_28 rfl rfl rfl ?_
  refine l_X4_fill hk hin hff ((n - 2) / 7) 0 _ _ _ (by omega) rfl (((fr.rf.up (by decide)).up (by decide)).up (by decide)) ?_ ?_ ?_ (fun t ht => absurd ht (Nat.not_lt_zero t))
  · simp [pv_up_at]
  · simp [pv_up_at, s_fill]
  · simp [pv_up_at]
