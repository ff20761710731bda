/-! the reference: a thing of a text -/
theorem s_ff_at {c : Nat → Int32} {n p : Nat} (h : s_ffl c p = none) (hp : p ≤ n) (hg : p < n → s_goes p (if p = 0 then 0 else c (p - 1)) (c p) = false) (he : p = n → ¬ (2 < n ∧ (n - 2) % 7 = 0)) : s_ff c n = some p := by
  unfold s_ff
  by_cases hn : p = n
  · have h2 := he hn
    rw [← hn] at h2 ⊢
    rw [h]
    exact if_neg h2
  · have e : s_ffl c (p + 1) = some p := by
      simp only [s_ffl, h]
      exact if_neg (by rw [hg (by omega)]; decide)
    have e2 := s_ffl_mono (n - (p + 1)) (p + 1) e
    rw [show p + 1 + (n - (p + 1)) = n by omega] at e2
    rw [e2]
theorem s_ffl_at {c : Nat → Int32} {p : Nat} (h : s_ffl c p = none) (hg : s_goes p (if p = 0 then 0 else c (p - 1)) (c p) = true) : s_ffl c (p + 1) = none := by
  simp only [s_ffl, h]
  exact if_pos hg
theorem s_goes_q {t q : Nat} (ht : t < 5) (hq : q < 7) (bf x : Int32) : s_goes (2 + 7 * t + q) bf x = (if q = 0 then decide (x = 59) else if q = 1 then (decide (x = 116) || (decide (x = 104) || decide (x = 108))) else if q = 2 then v_dig x 0 3 else if q = 3 then v_dig x 1 9 else if q = 4 then v_dig x 1 6 else if q = 5 then v_dig x 0 6 else v_dig x 0 (if bf = 54 then 3 else 9)) := by
  have e : (2 + 7 * t + q - 2) % 7 = q := by omega
  simp only [s_goes]
  rw [if_neg (by omega), if_neg (by omega), if_neg (by omega), e]
/-- the text that the reference reads -/
def t_c (M0 : pv_M) (b : Nat) : Nat → Int32 := fun x => M0 48 (b + x)
/-- its reading stands at code q of thing t -/
def t_S (M0 : pv_M) (b n : Nat) (pn : Int32) (t q : Nat) (M : pv_M) : Prop := frS M0 M ∧ M 29 10 = nI (2 + 7 * t + q) ∧ M 29 11 = pn ∧ M 29 12 = nI t ∧ 2 + 7 * t + q ≤ n ∧ s_ffl (t_c M0 b) (2 + 7 * t + q) = none ∧ ∀ x, x < t → ∀ f, f < 5 → M (35 + f) x = nI (s_fld (t_c M0 b) f x)
/-- it has come to the first fault -/
def t_F (M0 : pv_M) (b n : Nat) (M : pv_M) : Prop := frS M0 M ∧ ∃ p, p ≤ 100 ∧ M 29 10 = nI p ∧ s_ff (t_c M0 b) n = some p
def t_P (M0 : pv_M) (b n : Nat) (pn : Int32) (t : Nat) : pv_Q := fun r M => ∃ ok : Bool, r = some (.int (bi ok)) ∧ (ok = true → t < 5 ∧ t_S M0 b n pn (t + 1) 0 M) ∧ (ok = false → t_F M0 b n M)
theorem t_P.no {M0 M : pv_M} {b n t : Nat} {pn : Int32} (h : t_F M0 b n M) : t_P M0 b n pn t (some (.int 0)) M := ⟨false, rfl, (fun z => by cases z), fun _ => h⟩
theorem t_P.yes {M0 M : pv_M} {b n t : Nat} {pn : Int32} (ht : t < 5) (h : t_S M0 b n pn (t + 1) 0 M) : t_P M0 b n pn t (some (.int 1)) M := ⟨true, rfl, fun _ => ⟨ht, h⟩, (fun z => by cases z)⟩
theorem t_S.put {M0 M : pv_M} {b n t q p : Nat} {pn : Int32} (h : t_S M0 b n pn t q M) (hp : p = 2 + 7 * t + q) : t_S M0 b n pn t q (pv_up M 29 10 (nI p)) := by
  obtain ⟨h1, h2, h3, h4, h5, h6, h7⟩ := h
  subst hp
  exact ⟨h1.upf (by decide), by rw [pv_up_at, if_pos ⟨rfl, rfl⟩], by rw [pv_up_at, if_neg (by omega)]; exact h3, by rw [pv_up_at, if_neg (by omega)]; exact h4, h5, h6, fun x hx f hf => by rw [pv_up_o (by omega)]; exact h7 x hx f hf⟩
theorem t_S.next {M0 M : pv_M} {b n t q p : Nat} {pn : Int32} (h : t_S M0 b n pn t q M) (hl : 2 + 7 * t + q < n) (hg : s_goes (2 + 7 * t + q) (t_c M0 b (2 + 7 * t + q - 1)) (t_c M0 b (2 + 7 * t + q)) = true) (hp : p = 2 + 7 * t + (q + 1)) : t_S M0 b n pn t (q + 1) (pv_up M 29 10 (nI p)) := by
  obtain ⟨h1, h2, h3, h4, h5, h6, h7⟩ := h
  subst hp
  refine ⟨h1.upf (by decide), by rw [pv_up_at, if_pos ⟨rfl, rfl⟩], by rw [pv_up_at, if_neg (by omega)]; exact h3, by rw [pv_up_at, if_neg (by omega)]; exact h4, by omega, ?_, fun x hx f hf => by rw [pv_up_o (by omega)]; exact h7 x hx f hf⟩
  exact s_ffl_at (p := 2 + 7 * t + q) h6 (by rw [if_neg (show ¬ 2 + 7 * t + q = 0 by omega)]; exact hg)
theorem t_S.fail {M0 M : pv_M} {b n t q : Nat} {pn : Int32} (h : t_S M0 b n pn t q M) (ht : t ≤ 5) (hq : q < 7) (h0 : q = 0 → t = 0 ∨ 2 + 7 * t + q < n) (hg : 2 + 7 * t + q < n → s_goes (2 + 7 * t + q) (t_c M0 b (2 + 7 * t + q - 1)) (t_c M0 b (2 + 7 * t + q)) = false) : t_F M0 b n M := by
  obtain ⟨h1, h2, h3, h4, h5, h6, h7⟩ := h
  refine ⟨h1, 2 + 7 * t + q, by omega, h2, s_ff_at h6 h5 (fun z => by rw [if_neg (show ¬ 2 + 7 * t + q = 0 by omega)]; exact hg z) (fun z y => ?_)⟩
  by_cases hq0 : q = 0
  · rcases h0 hq0 with w | w <;> omega
  · omega
theorem t_S.cd {M0 M : pv_M} {b n t q : Nat} {pn : Int32} (h : t_S M0 b n pn t q M) : v_cd M b n (2 + 7 * t + q) = if 2 + 7 * t + q < n then t_c M0 b (2 + 7 * t + q) else -9 := by
  have e : M 48 = M0 48 := h.1.1 48 (by decide)
  simp only [v_cd, t_c, e]
theorem t_S.is {M0 M : pv_M} {b n t q : Nat} {pn x : Int32} (h : t_S M0 b n pn t q M) (hx : v_cd M b n (2 + 7 * t + q) = x) (h9 : ¬ x = -9) : 2 + 7 * t + q < n ∧ t_c M0 b (2 + 7 * t + q) = x := by
  rw [h.cd] at hx
  by_cases hl : 2 + 7 * t + q < n
  · rw [if_pos hl] at hx; exact ⟨hl, hx⟩
  · rw [if_neg hl] at hx; exact absurd hx.symm h9
theorem t_S.isnt {M0 M : pv_M} {b n t q : Nat} {pn x : Int32} (h : t_S M0 b n pn t q M) (hx : ¬ v_cd M b n (2 + 7 * t + q) = x) (hl : 2 + 7 * t + q < n) : ¬ t_c M0 b (2 + 7 * t + q) = x := by
  rw [h.cd, if_pos hl] at hx
  exact hx
/-! a figure -/
def t_g (c : Nat → Int32) (n p lo hi : Nat) : Bool := decide (p < n) && v_dig (c p) (nI lo) (nI hi)
def t_v (g : Bool) (x : Int32) : Int32 := if g = true then nI (s_dg x) else -9
def t_m (M : pv_M) (p : Nat) (g : Bool) : pv_M := pv_up M 29 10 (nI (if g = true then p + 1 else p))
theorem s_dg_lt (x : Int32) : s_dg x < 2 ^ 31 := by
  have := x.toInt_lt
  simp only [s_dg]
  omega
theorem t_v_ge {g : Bool} {x : Int32} (h : 0 ≤ t_v g x) : g = true := by
  cases g with
  | true => rfl
  | false => exact absurd h (by show ¬ (0 : Int32) ≤ -9; decide)
theorem t_v_lt {g : Bool} {x : Int32} (h : ¬ 0 ≤ t_v g x) : g = false := by
  cases g with
  | false => rfl
  | true => exact absurd (nI_pos' (s_dg_lt x)) (by simpa [t_v] using h)
theorem t_fg9 {lo hi : Nat} (hh : hi ≤ 9) (hl : lo ≤ 9) : v_fg (-9) (nI lo) (nI hi) = false := by
  rw [v_fg_dig hh hl]
  have e1 : (48 : Int32) + nI lo = nI (48 + lo) := nI_add 48 lo
  have e2 : (-9 : Int32) < nI (48 + lo) := by
    rw [Int32.lt_iff_toInt_lt, nI_toInt (by omega)]
    exact Int.lt_of_lt_of_le (show (-9 : Int32).toInt < 0 by decide) (Int.natCast_nonneg _)
  simp [v_dig, e1, e2]
theorem t_fg {M0 M : pv_M} {b n t q : Nat} {pn : Int32} (h : t_S M0 b n pn t q M) {lo hi : Nat} (hh : hi ≤ 9) (hl : lo ≤ 9) : v_fg (v_cd M b n (2 + 7 * t + q)) (nI lo) (nI hi) = t_g (t_c M0 b) n (2 + 7 * t + q) lo hi := by
  rw [h.cd]
  unfold t_g
  by_cases hp : 2 + 7 * t + q < n
  · rw [if_pos hp, v_fg_dig hh hl, decide_eq_true hp, Bool.true_and]
  · rw [if_neg hp, t_fg9 hh hl, decide_eq_false hp, Bool.false_and]
theorem t_g_of {c : Nat → Int32} {n p lo hi : Nat} (h : t_g c n p lo hi = true) : p < n ∧ v_dig (c p) (nI lo) (nI hi) = true := by
  simp only [t_g, Bool.and_eq_true, decide_eq_true_eq] at h
  exact h
theorem t_g_no {c : Nat → Int32} {n p lo hi : Nat} (h : t_g c n p lo hi = false) (hp : p < n) : v_dig (c p) (nI lo) (nI hi) = false := by
  simpa [t_g, hp] using h
set_option maxHeartbeats 4000000 in
theorem c_X7_fig {Γ : pv_G} {d : Nat} {M0 M : pv_M} {b n t q lo hi : Nat} {pn : Int32} (hl : lo ≤ 9) (hh : hi ≤ 9) (hb : b + n ≤ 240) (ht : t ≤ 5) (hq : q < 7) (hS : t_S M0 b n pn t q M) : Ct Γ (d + 1) vX7_figure [.ref 29, .int (nI b), .int (nI n), .int (nI lo), .int (nI hi)] M (pv_fn (some (.int (t_v (t_g (t_c M0 b) n (2 + 7 * t + q) lo hi) (t_c M0 b (2 + 7 * t + q))))) (t_m M (2 + 7 * t + q) (t_g (t_c M0 b) n (2 + 7 * t + q) lo hi))) := by
  have k := c_X7_figure (Γ := Γ) (d := d) (lo := nI lo) (hi := nI hi) hb hS.2.1 (show 2 + 7 * t + q ≤ 100 by omega)
  rw [t_fg hS hh hl] at k
  have e : (if t_g (t_c M0 b) n (2 + 7 * t + q) lo hi = true then v_cd M b n (2 + 7 * t + q) - 48 else -9) = t_v (t_g (t_c M0 b) n (2 + 7 * t + q) lo hi) (t_c M0 b (2 + 7 * t + q)) := by
    unfold t_v
    by_cases hg : t_g (t_c M0 b) n (2 + 7 * t + q) lo hi = true
    · rw [if_pos hg, if_pos hg, hS.cd, if_pos (t_g_of hg).1]
      exact v_dig_sub (v_dig_of hh hl (t_g_of hg).2).1
    · rw [if_neg hg, if_neg hg]
  rw [e] at k
  exact k
theorem t_S.fig {M0 M : pv_M} {b n t q lo hi : Nat} {pn : Int32} (h : t_S M0 b n pn t q M) (hg : t_g (t_c M0 b) n (2 + 7 * t + q) lo hi = true) (he : s_goes (2 + 7 * t + q) (t_c M0 b (2 + 7 * t + q - 1)) (t_c M0 b (2 + 7 * t + q)) = v_dig (t_c M0 b (2 + 7 * t + q)) (nI lo) (nI hi)) : t_S M0 b n pn t (q + 1) (t_m M (2 + 7 * t + q) true) :=
  h.next (t_g_of hg).1 (he.trans (t_g_of hg).2) rfl
theorem t_S.nofig {M0 M : pv_M} {b n t q lo hi : Nat} {pn : Int32} (h : t_S M0 b n pn t q M) (ht : t < 5) (hq : q < 7) (hq0 : q ≠ 0) (hg : t_g (t_c M0 b) n (2 + 7 * t + q) lo hi = false) (he : s_goes (2 + 7 * t + q) (t_c M0 b (2 + 7 * t + q - 1)) (t_c M0 b (2 + 7 * t + q)) = v_dig (t_c M0 b (2 + 7 * t + q)) (nI lo) (nI hi)) : t_F M0 b n (t_m M (2 + 7 * t + q) false) :=
  (h.put rfl).fail (by omega) hq (fun z => absurd z hq0) (fun z => he.trans (t_g_no hg z))
theorem t_S.fin {M0 M : pv_M} {b n t : Nat} {pn : Int32} (ht : t < 5) (h : t_S M0 b n pn t 7 M) : t_S M0 b n pn (t + 1) 0 (pv_up (pv_up (pv_up (pv_up (pv_up (pv_up M 35 t (nI (s_fld (t_c M0 b) 0 t))) 36 t (nI (s_fld (t_c M0 b) 1 t))) 37 t (nI (s_fld (t_c M0 b) 2 t))) 38 t (nI (s_fld (t_c M0 b) 3 t))) 39 t (nI (s_fld (t_c M0 b) 4 t))) 29 12 (nI (t + 1))) := by
  obtain ⟨h1, h2, h3, h4, h5, h6, h7⟩ := h
  have e : 2 + 7 * (t + 1) + 0 = 2 + 7 * t + 7 := by omega
  refine ⟨(((((h1.up (by decide)).up (by decide)).up (by decide)).up (by decide)).up (by decide)).upf (by decide), ?_, ?_, by rw [pv_up_at, if_pos ⟨rfl, rfl⟩], by omega, by rw [e]; exact h6, fun x hx f hf => ?_⟩
  · rw [e, pv_up_at, if_neg (by decide)]
    simp only [pv_up_o (show 29 ≠ 35 by decide), pv_up_o (show 29 ≠ 36 by decide), pv_up_o (show 29 ≠ 37 by decide), pv_up_o (show 29 ≠ 38 by decide), pv_up_o (show 29 ≠ 39 by decide)]
    exact h2
  · rw [pv_up_at, if_neg (by decide)]
    simp only [pv_up_o (show 29 ≠ 35 by decide), pv_up_o (show 29 ≠ 36 by decide), pv_up_o (show 29 ≠ 37 by decide), pv_up_o (show 29 ≠ 38 by decide), pv_up_o (show 29 ≠ 39 by decide)]
    exact h3
  · rw [pv_up_o (show 35 + f ≠ 29 by omega)]
    by_cases hxt : x = t
    · subst hxt
      rcases (show f = 0 ∨ f = 1 ∨ f = 2 ∨ f = 3 ∨ f = 4 by omega) with rfl | rfl | rfl | rfl | rfl <;> simp [pv_up_at]
    · have e : ∀ g, ¬ (35 + f = g ∧ x = t) := fun g z => hxt z.2
      rw [pv_up_at, if_neg (e _), pv_up_at, if_neg (e _), pv_up_at, if_neg (e _), pv_up_at, if_neg (e _), pv_up_at, if_neg (e _)]
      exact h7 x (by omega) f hf
set_option maxHeartbeats 4000000 in
theorem l_X7_dead171 {Γ : pv_G} {d : Nat} {M : pv_M} {Q : pv_Q} {x1 x2 x3 x4 x5 x6 x7 : Int32} (hQ : Q (some (.int 0)) M) : PW Γ (d + 2) vX7_readsThing 171 [.ref 29, .int x1, .int x2, .int x3, .int x4, .int x5, .int x6, .int x7, .null] [.int (-9)] M Q := by
  skip
  refine PW_istore8 (pc' := 173) dX7_readsThing_171 rfl rfl rfl ?_
  refine PW_iload8 (pc' := 175) dX7_readsThing_173 rfl ?_
  refine PW_if_ge (tgt := 180) (pc' := 178) dX7_readsThing_175 rfl rfl (fun h175 => ?_) (fun h175 => ?_)
  · exact absurd h175 (by decide)
  · refine PW_iconst (pc' := 179) dX7_readsThing_178 rfl (v := 0) (by first | rfl | decide) ?_
    refine PW_ireturn .boolean dX7_readsThing_179 rfl (by first | rfl | exact bi_nar _) ?_
    exact hQ
set_option maxHeartbeats 4000000 in
theorem l_X7_dead139 {Γ : pv_G} {d : Nat} {M : pv_M} {Q : pv_Q} {x1 x2 x3 x4 x5 x6 : Int32} (hQ : Q (some (.int 0)) M) : PW Γ (d + 2) vX7_readsThing 139 [.ref 29, .int x1, .int x2, .int x3, .int x4, .int x5, .int x6, .null, .null] [.int (-9)] M Q := by
  skip
  refine PW_istore7 (pc' := 141) dX7_readsThing_139 rfl rfl rfl ?_
  refine PW_iload7 (pc' := 143) dX7_readsThing_141 rfl ?_
  refine PW_if_ge (tgt := 151) (pc' := 146) dX7_readsThing_143 rfl rfl (fun h143 => ?_) (fun h143 => ?_)
  · exact absurd h143 (by decide)
  · refine PW_bipush (pc' := 148) dX7_readsThing_146 rfl (v := -9) (by first | rfl | decide) ?_
    refine PW_goto (tgt := 171) dX7_readsThing_148 rfl ?_
    exact l_X7_dead171 hQ
set_option maxHeartbeats 4000000 in
theorem l_X7_dead118 {Γ : pv_G} {d : Nat} {M : pv_M} {Q : pv_Q} {x1 x2 x3 x4 x5 : Int32} (hQ : Q (some (.int 0)) M) : PW Γ (d + 2) vX7_readsThing 118 [.ref 29, .int x1, .int x2, .int x3, .int x4, .int x5, .null, .null, .null] [.int (-9)] M Q := by
  skip
  refine PW_istore6 (pc' := 120) dX7_readsThing_118 rfl rfl rfl ?_
  refine PW_iload6 (pc' := 122) dX7_readsThing_120 rfl ?_
  refine PW_if_ge (tgt := 130) (pc' := 125) dX7_readsThing_122 rfl rfl (fun h122 => ?_) (fun h122 => ?_)
  · exact absurd h122 (by decide)
  · refine PW_bipush (pc' := 127) dX7_readsThing_125 rfl (v := -9) (by first | rfl | decide) ?_
    refine PW_goto (tgt := 139) dX7_readsThing_127 rfl ?_
    exact l_X7_dead139 hQ
set_option maxHeartbeats 4000000 in
theorem l_X7_dead97 {Γ : pv_G} {d : Nat} {M : pv_M} {Q : pv_Q} {x1 x2 x3 x4 : Int32} (hQ : Q (some (.int 0)) M) : PW Γ (d + 2) vX7_readsThing 97 [.ref 29, .int x1, .int x2, .int x3, .int x4, .null, .null, .null, .null] [.int (-9)] M Q := by
  skip
  refine PW_istore5 (pc' := 99) dX7_readsThing_97 rfl rfl rfl ?_
  refine PW_iload5 (pc' := 101) dX7_readsThing_99 rfl ?_
  refine PW_if_ge (tgt := 109) (pc' := 104) dX7_readsThing_101 rfl rfl (fun h101 => ?_) (fun h101 => ?_)
  · exact absurd h101 (by decide)
  · refine PW_bipush (pc' := 106) dX7_readsThing_104 rfl (v := -9) (by first | rfl | decide) ?_
    refine PW_goto (tgt := 118) dX7_readsThing_106 rfl ?_
    exact l_X7_dead118 hQ
set_option maxHeartbeats 4000000 in
theorem l_X7_t209 {Γ : pv_G} {d : Nat} {M : pv_M} {Q : pv_Q} {t d4 d5 d6 d7 d8 : Nat} {v x1 x2 x3 : Int32} (ht : t < 5) (e12 : M 29 12 = nI t) (hQ : Q (some (.int 1)) (pv_up (pv_up (pv_up (pv_up (pv_up (pv_up M 35 t v) 36 t (nI d4)) 37 t (nI d5)) 38 t (nI d6)) 39 t (nI (10 * d7 + d8))) 29 12 (nI (t + 1)))) : PW Γ (d + 2) vX7_readsThing 209 [.ref 29, .int x1, .int x2, .int x3, .int (nI d4), .int (nI d5), .int (nI d6), .int (nI d7), .int (nI d8)] [.int v, .int (nI t), .ref 35] M Q := by
  have o5 := fun M v => pv_up_o (M := M) (k := t) (v := v) (show 29 ≠ 35 by decide)
  have o6 := fun M v => pv_up_o (M := M) (k := t) (v := v) (show 29 ≠ 36 by decide)
  have o7 := fun M v => pv_up_o (M := M) (k := t) (v := v) (show 29 ≠ 37 by decide)
  have o8 := fun M v => pv_up_o (M := M) (k := t) (v := v) (show 29 ≠ 38 by decide)
  have o9 := fun M v => pv_up_o (M := M) (k := t) (v := v) (show 29 ≠ 39 by decide)
  refine PW_iastn (pc' := 210) dX7_readsThing_209 rfl rfl rfl (by omega) ?_
  refine PW_aload0 (pc' := 211) dX7_readsThing_210 rfl ?_
  refine PW_getR (pc' := 214) dX7_readsThing_211 rfl fX7_28 rfl rfl ?_
  refine PW_aload0 (pc' := 215) dX7_readsThing_214 rfl ?_
  refine PW_getI (pc' := 218) dX7_readsThing_215 rfl fX7_98 rfl rfl ?_
  rw [o5, e12]
  refine PW_iload4 (pc' := 220) dX7_readsThing_218 rfl ?_
  refine PW_iastn (pc' := 221) dX7_readsThing_220 rfl rfl rfl (by omega) ?_
  refine PW_aload0 (pc' := 222) dX7_readsThing_221 rfl ?_
  refine PW_getR (pc' := 225) dX7_readsThing_222 rfl fX7_31 rfl rfl ?_
  refine PW_aload0 (pc' := 226) dX7_readsThing_225 rfl ?_
  refine PW_getI (pc' := 229) dX7_readsThing_226 rfl fX7_98 rfl rfl ?_
  rw [o6, o5, e12]
  refine PW_iload5 (pc' := 231) dX7_readsThing_229 rfl ?_
  refine PW_iastn (pc' := 232) dX7_readsThing_231 rfl rfl rfl (by omega) ?_
  refine PW_aload0 (pc' := 233) dX7_readsThing_232 rfl ?_
  refine PW_getR (pc' := 236) dX7_readsThing_233 rfl fX7_34 rfl rfl ?_
  refine PW_aload0 (pc' := 237) dX7_readsThing_236 rfl ?_
  refine PW_getI (pc' := 240) dX7_readsThing_237 rfl fX7_98 rfl rfl ?_
  rw [o7, o6, o5, e12]
  refine PW_iload6 (pc' := 242) dX7_readsThing_240 rfl ?_
  refine PW_iastn (pc' := 243) dX7_readsThing_242 rfl rfl rfl (by omega) ?_
  refine PW_aload0 (pc' := 244) dX7_readsThing_243 rfl ?_
  refine PW_getR (pc' := 247) dX7_readsThing_244 rfl fX7_37 rfl rfl ?_
  refine PW_aload0 (pc' := 248) dX7_readsThing_247 rfl ?_
  refine PW_getI (pc' := 251) dX7_readsThing_248 rfl fX7_98 rfl rfl ?_
  rw [o8, o7, o6, o5, e12]
  refine PW_bipush (pc' := 253) dX7_readsThing_251 rfl (v := nI 10) (by first | rfl | decide) ?_
  refine PW_iload7 (pc' := 255) dX7_readsThing_253 rfl ?_
  refine PW_imul (pc' := 256) dX7_readsThing_255 rfl ?_
  rw [nI_mul]
  refine PW_iload8 (pc' := 258) dX7_readsThing_256 rfl ?_
  refine PW_iadd (pc' := 259) dX7_readsThing_258 rfl ?_
  rw [nI_add]
  refine PW_iastn (pc' := 260) dX7_readsThing_259 rfl rfl rfl (by omega) ?_
  refine PW_aload0 (pc' := 261) dX7_readsThing_260 rfl ?_
  refine PW_dupR (pc' := 262) dX7_readsThing_261 rfl ?_
  refine PW_getI (pc' := 265) dX7_readsThing_262 rfl fX7_98 rfl rfl ?_
  rw [o9, o8, o7, o6, o5, e12]
  refine PW_iconst (pc' := 266) dX7_readsThing_265 rfl (v := nI 1) (by first | rfl | decide) ?_
  refine PW_iadd (pc' := 267) dX7_readsThing_266 rfl ?_
  rw [nI_add]
  refine PW_putI (pc' := 270) dX7_readsThing_267 rfl fX7_98 w6_12 rfl rfl ?_
  refine PW_iconst (pc' := 271) dX7_readsThing_270 rfl (v := 1) (by first | rfl | decide) ?_
  refine PW_ireturn .boolean dX7_readsThing_271 rfl (by first | rfl | exact bi_nar _) ?_
  exact hQ
set_option maxHeartbeats 4000000 in
theorem l_X7_t168 {Γ : pv_G} {d : Nat} {M0 M : pv_M} {b n t hi : Nat} {pn x : Int32} (hb : b + n ≤ 240) (ht : t < 5) (hx : x = 116 ∨ x = 104 ∨ x = 108) (hx1 : t_c M0 b (2 + 7 * t + 1) = x) (hh : hi ≤ 9) (hi2 : nI hi = if t_c M0 b (2 + 7 * t + 5) = 54 then 3 else 9) (hS : t_S M0 b n pn t 6 M) : PW Γ (d + 2) vX7_readsThing 168 [.ref 29, .int (nI b), .int (nI n), .int x, .int (nI (s_dg (t_c M0 b (2 + 7 * t + 2)))), .int (nI (s_dg (t_c M0 b (2 + 7 * t + 3)))), .int (nI (s_dg (t_c M0 b (2 + 7 * t + 4)))), .int (nI (s_dg (t_c M0 b (2 + 7 * t + 5)))), .null] [.int (nI hi), .int (nI 0), .int (nI n), .int (nI b), .ref 29] M (t_P M0 b n pn t) := by
  have he : s_goes (2 + 7 * t + 6) (t_c M0 b (2 + 7 * t + 6 - 1)) (t_c M0 b (2 + 7 * t + 6)) = v_dig (t_c M0 b (2 + 7 * t + 6)) (nI 0) (nI hi) := by
    rw [s_goes_q ht (by decide), hi2]
    rfl
  refine PW_callV4f (pc' := 171) dX7_readsThing_168 rfl oX7_figure lX7_101 rfl rfl rfl (Nat.le_of_ble_eq_true rfl) (c_X7_fig (lo := 0) (hi := hi) (by decide) hh hb (by omega) (by decide) hS) ?_
  refine PW_istore8 (pc' := 173) dX7_readsThing_171 rfl rfl rfl ?_
  refine PW_iload8 (pc' := 175) dX7_readsThing_173 rfl ?_
  refine PW_if_ge (tgt := 180) (pc' := 178) dX7_readsThing_175 rfl rfl (fun h175 => ?_) (fun h175 => ?_)
  · have q := t_v_ge h175
    rw [q]
    have hS7 := hS.fig q he
    generalize hM2 : t_m M (2 + 7 * t + 6) true = M2 at hS7 ⊢
    have e12 : M2 29 12 = nI t := hS7.2.2.2.1
    have hfin := t_P.yes ht (hS7.fin ht)
    refine PW_aload0 (pc' := 181) dX7_readsThing_180 rfl ?_
    refine PW_getR (pc' := 184) dX7_readsThing_181 rfl fX7_25 rfl rfl ?_
    refine PW_aload0 (pc' := 185) dX7_readsThing_184 rfl ?_
    refine PW_getI (pc' := 188) dX7_readsThing_185 rfl fX7_98 rfl rfl ?_
    rw [e12]
    refine PW_iload3 (pc' := 189) dX7_readsThing_188 rfl ?_
    refine PW_bipush (pc' := 191) dX7_readsThing_189 rfl (v := 116) (by first | rfl | decide) ?_
    refine PW_icmp_ne (tgt := 198) (pc' := 194) dX7_readsThing_191 rfl rfl (fun h191 => ?_) (fun h191 => ?_)
    · refine PW_iload3 (pc' := 199) dX7_readsThing_198 rfl ?_
      refine PW_bipush (pc' := 201) dX7_readsThing_199 rfl (v := 104) (by first | rfl | decide) ?_
      refine PW_icmp_ne (tgt := 208) (pc' := 204) dX7_readsThing_201 rfl rfl (fun h201 => ?_) (fun h201 => ?_)
      · have hv : (2 : Int32) = nI (s_fld (t_c M0 b) 0 t) := by
          show (2 : Int32) = nI (s_kd (t_c M0 b (2 + 7 * t + 1)))
          rw [hx1, (hx.resolve_left h191).resolve_left h201]
          rfl
        refine PW_iconst (pc' := 209) dX7_readsThing_208 rfl (v := 2) (by first | rfl | decide) ?_
        rw [hv]
        exact l_X7_t209 ht e12 hfin
      · have hv : (1 : Int32) = nI (s_fld (t_c M0 b) 0 t) := by
          show (1 : Int32) = nI (s_kd (t_c M0 b (2 + 7 * t + 1)))
          rw [hx1, h201]
          rfl
        refine PW_iconst (pc' := 205) dX7_readsThing_204 rfl (v := 1) (by first | rfl | decide) ?_
        refine PW_goto (tgt := 209) dX7_readsThing_205 rfl ?_
        rw [hv]
        exact l_X7_t209 ht e12 hfin
    · have hv : (0 : Int32) = nI (s_fld (t_c M0 b) 0 t) := by
        show (0 : Int32) = nI (s_kd (t_c M0 b (2 + 7 * t + 1)))
        rw [hx1, h191]
        rfl
      refine PW_iconst (pc' := 195) dX7_readsThing_194 rfl (v := 0) (by first | rfl | decide) ?_
      refine PW_goto (tgt := 209) dX7_readsThing_195 rfl ?_
      rw [hv]
      exact l_X7_t209 ht e12 hfin
  · have q := t_v_lt h175
    rw [q]
    refine PW_iconst (pc' := 179) dX7_readsThing_178 rfl (v := 0) (by first | rfl | decide) ?_
    refine PW_ireturn .boolean dX7_readsThing_179 rfl (by first | rfl | exact bi_nar _) ?_
    exact t_P.no (hS.nofig ht (by decide) (by decide) q he)
set_option maxHeartbeats 4000000 in
theorem l_X7_t58 {Γ : pv_G} {d : Nat} {M0 M : pv_M} {b n t : Nat} {pn x : Int32} (hb : b + n ≤ 240) (ht : t < 5) (hx : x = 116 ∨ x = 104 ∨ x = 108) (hl : 2 + 7 * t + 1 < n) (hx1 : t_c M0 b (2 + 7 * t + 1) = x) (hS : t_S M0 b n pn t 1 M) : PW Γ (d + 2) vX7_readsThing 58 [.ref 29, .int (nI b), .int (nI n), .int x, .null, .null, .null, .null, .null] [] M (t_P M0 b n pn t) := by
  have hg : s_goes (2 + 7 * t + 1) (t_c M0 b (2 + 7 * t + 1 - 1)) (t_c M0 b (2 + 7 * t + 1)) = true := by
    rw [s_goes_q ht (by decide), hx1]
    rcases hx with z | z | z <;> simp [z]
  refine PW_aload0 (pc' := 59) dX7_readsThing_58 rfl ?_
  refine PW_dupR (pc' := 60) dX7_readsThing_59 rfl ?_
  refine PW_getI (pc' := 63) dX7_readsThing_60 rfl fX7_91 rfl rfl ?_
  rw [hS.2.1]
  refine PW_iconst (pc' := 64) dX7_readsThing_63 rfl (v := nI 1) (by first | rfl | decide) ?_
  refine PW_iadd (pc' := 65) dX7_readsThing_64 rfl ?_
  rw [nI_add]
  refine PW_putI (pc' := 68) dX7_readsThing_65 rfl fX7_91 w6_10 rfl rfl ?_
  have hS2 : t_S M0 b n pn t 2 (pv_up M 29 10 (nI (2 + 7 * t + 1 + 1))) := hS.next hl hg rfl
  generalize pv_up M 29 10 (nI (2 + 7 * t + 1 + 1)) = M2 at hS2 ⊢
  refine PW_aload0 (pc' := 69) dX7_readsThing_68 rfl ?_
  refine PW_iload1 (pc' := 70) dX7_readsThing_69 rfl ?_
  refine PW_iload2 (pc' := 71) dX7_readsThing_70 rfl ?_
  refine PW_iconst (pc' := 72) dX7_readsThing_71 rfl (v := nI 0) (by first | rfl | decide) ?_
  refine PW_iconst (pc' := 73) dX7_readsThing_72 rfl (v := nI 3) (by first | rfl | decide) ?_
  refine PW_callV4f (pc' := 76) dX7_readsThing_73 rfl oX7_figure lX7_101 rfl rfl rfl (Nat.le_of_ble_eq_true rfl) (c_X7_fig (lo := 0) (hi := 3) (by decide) (by decide) hb (by omega) (by decide) hS2) ?_
  refine PW_istore4 (pc' := 78) dX7_readsThing_76 rfl rfl rfl ?_
  refine PW_iload4 (pc' := 80) dX7_readsThing_78 rfl ?_
  refine PW_if_ge (tgt := 88) (pc' := 83) dX7_readsThing_80 rfl rfl (fun h80 => ?_) (fun h80 => ?_)
  · have q2 := t_v_ge h80
    rw [q2]
    have hS3 := hS2.fig (lo := 0) (hi := 3) q2 (by rw [s_goes_q ht (by decide)]; rfl)
    rw [show t_v true (t_c M0 b (2 + 7 * t + 2)) = nI (s_dg (t_c M0 b (2 + 7 * t + 2))) from rfl]
    generalize t_m M2 (2 + 7 * t + 2) true = M3 at hS3 ⊢
    refine PW_aload0 (pc' := 89) dX7_readsThing_88 rfl ?_
    refine PW_iload1 (pc' := 90) dX7_readsThing_89 rfl ?_
    refine PW_iload2 (pc' := 91) dX7_readsThing_90 rfl ?_
    refine PW_iconst (pc' := 92) dX7_readsThing_91 rfl (v := nI 1) (by first | rfl | decide) ?_
    refine PW_bipush (pc' := 94) dX7_readsThing_92 rfl (v := nI 9) (by first | rfl | decide) ?_
    refine PW_callV4f (pc' := 97) dX7_readsThing_94 rfl oX7_figure lX7_101 rfl rfl rfl (Nat.le_of_ble_eq_true rfl) (c_X7_fig (lo := 1) (hi := 9) (by decide) (by decide) hb (by omega) (by decide) hS3) ?_
    refine PW_istore5 (pc' := 99) dX7_readsThing_97 rfl rfl rfl ?_
    refine PW_iload5 (pc' := 101) dX7_readsThing_99 rfl ?_
    refine PW_if_ge (tgt := 109) (pc' := 104) dX7_readsThing_101 rfl rfl (fun h101 => ?_) (fun h101 => ?_)
    · have q3 := t_v_ge h101
      rw [q3]
      have hS4 := hS3.fig (lo := 1) (hi := 9) q3 (by rw [s_goes_q ht (by decide)]; rfl)
      rw [show t_v true (t_c M0 b (2 + 7 * t + 3)) = nI (s_dg (t_c M0 b (2 + 7 * t + 3))) from rfl]
      generalize t_m M3 (2 + 7 * t + 3) true = M4 at hS4 ⊢
      refine PW_aload0 (pc' := 110) dX7_readsThing_109 rfl ?_
      refine PW_iload1 (pc' := 111) dX7_readsThing_110 rfl ?_
      refine PW_iload2 (pc' := 112) dX7_readsThing_111 rfl ?_
      refine PW_iconst (pc' := 113) dX7_readsThing_112 rfl (v := nI 1) (by first | rfl | decide) ?_
      refine PW_bipush (pc' := 115) dX7_readsThing_113 rfl (v := nI 6) (by first | rfl | decide) ?_
      refine PW_callV4f (pc' := 118) dX7_readsThing_115 rfl oX7_figure lX7_101 rfl rfl rfl (Nat.le_of_ble_eq_true rfl) (c_X7_fig (lo := 1) (hi := 6) (by decide) (by decide) hb (by omega) (by decide) hS4) ?_
      refine PW_istore6 (pc' := 120) dX7_readsThing_118 rfl rfl rfl ?_
      refine PW_iload6 (pc' := 122) dX7_readsThing_120 rfl ?_
      refine PW_if_ge (tgt := 130) (pc' := 125) dX7_readsThing_122 rfl rfl (fun h122 => ?_) (fun h122 => ?_)
      · have q4 := t_v_ge h122
        rw [q4]
        have hS5 := hS4.fig (lo := 1) (hi := 6) q4 (by rw [s_goes_q ht (by decide)]; rfl)
        rw [show t_v true (t_c M0 b (2 + 7 * t + 4)) = nI (s_dg (t_c M0 b (2 + 7 * t + 4))) from rfl]
        generalize t_m M4 (2 + 7 * t + 4) true = M5 at hS5 ⊢
        refine PW_aload0 (pc' := 131) dX7_readsThing_130 rfl ?_
        refine PW_iload1 (pc' := 132) dX7_readsThing_131 rfl ?_
        refine PW_iload2 (pc' := 133) dX7_readsThing_132 rfl ?_
        refine PW_iconst (pc' := 134) dX7_readsThing_133 rfl (v := nI 0) (by first | rfl | decide) ?_
        refine PW_bipush (pc' := 136) dX7_readsThing_134 rfl (v := nI 6) (by first | rfl | decide) ?_
        refine PW_callV4f (pc' := 139) dX7_readsThing_136 rfl oX7_figure lX7_101 rfl rfl rfl (Nat.le_of_ble_eq_true rfl) (c_X7_fig (lo := 0) (hi := 6) (by decide) (by decide) hb (by omega) (by decide) hS5) ?_
        refine PW_istore7 (pc' := 141) dX7_readsThing_139 rfl rfl rfl ?_
        refine PW_iload7 (pc' := 143) dX7_readsThing_141 rfl ?_
        refine PW_if_ge (tgt := 151) (pc' := 146) dX7_readsThing_143 rfl rfl (fun h143 => ?_) (fun h143 => ?_)
        · have q5 := t_v_ge h143
          rw [q5]
          have hS6 := hS5.fig (lo := 0) (hi := 6) q5 (by rw [s_goes_q ht (by decide)]; rfl)
          rw [show t_v true (t_c M0 b (2 + 7 * t + 5)) = nI (s_dg (t_c M0 b (2 + 7 * t + 5))) from rfl]
          generalize t_m M5 (2 + 7 * t + 5) true = M6 at hS6 ⊢
          refine PW_aload0 (pc' := 152) dX7_readsThing_151 rfl ?_
          refine PW_iload1 (pc' := 153) dX7_readsThing_152 rfl ?_
          refine PW_iload2 (pc' := 154) dX7_readsThing_153 rfl ?_
          refine PW_iconst (pc' := 155) dX7_readsThing_154 rfl (v := nI 0) (by first | rfl | decide) ?_
          refine PW_iload7 (pc' := 157) dX7_readsThing_155 rfl ?_
          refine PW_bipush (pc' := 159) dX7_readsThing_157 rfl (v := nI 6) (by first | rfl | decide) ?_
          refine PW_icmp_ne (tgt := 166) (pc' := 162) dX7_readsThing_159 rfl rfl (fun h159 => ?_) (fun h159 => ?_)
          · have h54 : ¬ t_c M0 b (2 + 7 * t + 5) = 54 := fun z => h159 (by rw [z]; rfl)
            have hi2 : nI 9 = if t_c M0 b (2 + 7 * t + 5) = 54 then 3 else 9 := by rw [if_neg h54]; rfl
            refine PW_bipush (pc' := 168) dX7_readsThing_166 rfl (v := nI 9) (by first | rfl | decide) ?_
            exact l_X7_t168 hb ht hx hx1 (by decide) hi2 hS6
          · have h54 : t_c M0 b (2 + 7 * t + 5) = 54 := by
              have z := (v_dig_of (lo := 0) (hi := 6) (by decide) (by decide) (t_g_of q5).2).1
              rw [nI_inj (s_dg_lt _) (by decide) h159] at z
              exact z
            have hi2 : nI 3 = if t_c M0 b (2 + 7 * t + 5) = 54 then 3 else 9 := by rw [if_pos h54]; rfl
            refine PW_iconst (pc' := 163) dX7_readsThing_162 rfl (v := nI 3) (by first | rfl | decide) ?_
            refine PW_goto (tgt := 168) dX7_readsThing_163 rfl ?_
            exact l_X7_t168 hb ht hx hx1 (by decide) hi2 hS6
        · have q := t_v_lt h143
          rw [q]
          refine PW_bipush (pc' := 148) dX7_readsThing_146 rfl (v := -9) (by first | rfl | decide) ?_
          refine PW_goto (tgt := 171) dX7_readsThing_148 rfl ?_
          exact l_X7_dead171 (t_P.no (hS5.nofig (lo := 0) (hi := 6) ht (by decide) (by decide) q (by rw [s_goes_q ht (by decide)]; rfl)))
      · have q := t_v_lt h122
        rw [q]
        refine PW_bipush (pc' := 127) dX7_readsThing_125 rfl (v := -9) (by first | rfl | decide) ?_
        refine PW_goto (tgt := 139) dX7_readsThing_127 rfl ?_
        exact l_X7_dead139 (t_P.no (hS4.nofig (lo := 1) (hi := 6) ht (by decide) (by decide) q (by rw [s_goes_q ht (by decide)]; rfl)))
    · have q := t_v_lt h101
      rw [q]
      refine PW_bipush (pc' := 106) dX7_readsThing_104 rfl (v := -9) (by first | rfl | decide) ?_
      refine PW_goto (tgt := 118) dX7_readsThing_106 rfl ?_
      exact l_X7_dead118 (t_P.no (hS3.nofig (lo := 1) (hi := 9) ht (by decide) (by decide) q (by rw [s_goes_q ht (by decide)]; rfl)))
  · have q := t_v_lt h80
    rw [q]
    refine PW_bipush (pc' := 85) dX7_readsThing_83 rfl (v := -9) (by first | rfl | decide) ?_
    refine PW_goto (tgt := 97) dX7_readsThing_85 rfl ?_
    exact l_X7_dead97 (t_P.no (hS2.nofig (lo := 0) (hi := 3) ht (by decide) (by decide) q (by rw [s_goes_q ht (by decide)]; rfl)))
set_option maxHeartbeats 4000000 in
theorem c_X7_readsThing {Γ : pv_G} {d : Nat} {M : pv_M} {M0 : pv_M} {b n t : Nat} {pn : Int32} (hb : b + n ≤ 240) (ht5 : t ≤ 5) (h0 : t = 0 ∨ 2 + 7 * t < n) (hS : t_S M0 b n pn t 0 M) : Ct Γ (d + 2) vX7_readsThing [.ref 29, .int (nI b), .int (nI n)] M (t_P M0 b n pn t) := by
  refine Ct.of oX7_readsThing.1 rfl (pad := 6) rfl ?_
  show PW Γ (d + 2) vX7_readsThing 0 [.ref 29, .int (nI b), .int (nI n), .null, .null, .null, .null, .null, .null] [] M _
  refine PW_aload0 (pc' := 1) dX7_readsThing_0 rfl ?_
  refine PW_getI (pc' := 4) dX7_readsThing_1 rfl fX7_98 rfl rfl ?_
  rw [hS.2.2.2.1]
  refine PW_iconst (pc' := 5) dX7_readsThing_4 rfl (v := nI 5) (by first | rfl | decide) ?_
  refine PW_icmp_eq (tgt := 19) (pc' := 8) dX7_readsThing_5 rfl rfl (fun h5 => ?_) (fun h5 => ?_)
  · have q5 : t = 5 := nI_inj (by omega) (by decide) h5
    have hno : t_F M0 b n M := hS.fail ht5 (by decide) (fun _ => by omega) (fun _ => by
      subst q5
      simp [s_goes])
    refine PW_iconst (pc' := 20) dX7_readsThing_19 rfl (v := 0) (by first | rfl | decide) ?_
    refine PW_ireturn .boolean dX7_readsThing_20 rfl (by first | rfl | exact bi_nar _) ?_
    exact t_P.no hno
  · have ht : t < 5 := by
      have : t ≠ 5 := fun z => h5 (by rw [z])
      omega
    refine PW_aload0 (pc' := 9) dX7_readsThing_8 rfl ?_
    refine PW_iload1 (pc' := 10) dX7_readsThing_9 rfl ?_
    refine PW_iload2 (pc' := 11) dX7_readsThing_10 rfl ?_
    refine PW_callV2f (pc' := 14) dX7_readsThing_11 rfl oX7_codeAt lX7_94 rfl rfl rfl (Nat.le_of_ble_eq_true rfl) (c_X7_codeAt hb hS.2.1 (by omega)) ?_
    refine PW_bipush (pc' := 16) dX7_readsThing_14 rfl (v := 59) (by first | rfl | decide) ?_
    refine PW_icmp_eq (tgt := 21) (pc' := 19) dX7_readsThing_16 rfl rfl (fun h16 => ?_) (fun h16 => ?_)
    · obtain ⟨hl0, hc0⟩ := hS.is h16 (by decide)
      have hg0 : s_goes (2 + 7 * t + 0) (t_c M0 b (2 + 7 * t + 0 - 1)) (t_c M0 b (2 + 7 * t + 0)) = true := by
        rw [s_goes_q ht (by decide), hc0]
        rfl
      refine PW_aload0 (pc' := 22) dX7_readsThing_21 rfl ?_
      refine PW_dupR (pc' := 23) dX7_readsThing_22 rfl ?_
      refine PW_getI (pc' := 26) dX7_readsThing_23 rfl fX7_91 rfl rfl ?_
      rw [hS.2.1]
      refine PW_iconst (pc' := 27) dX7_readsThing_26 rfl (v := nI 1) (by first | rfl | decide) ?_
      refine PW_iadd (pc' := 28) dX7_readsThing_27 rfl ?_
      rw [nI_add]
      refine PW_putI (pc' := 31) dX7_readsThing_28 rfl fX7_91 w6_10 rfl rfl ?_
      have hS1 : t_S M0 b n pn t 1 (pv_up M 29 10 (nI (2 + 7 * t + 0 + 1))) := hS.next hl0 hg0 rfl
      generalize pv_up M 29 10 (nI (2 + 7 * t + 0 + 1)) = M1 at hS1 ⊢
      refine PW_aload0 (pc' := 32) dX7_readsThing_31 rfl ?_
      refine PW_iload1 (pc' := 33) dX7_readsThing_32 rfl ?_
      refine PW_iload2 (pc' := 34) dX7_readsThing_33 rfl ?_
      refine PW_callV2f (pc' := 37) dX7_readsThing_34 rfl oX7_codeAt lX7_94 rfl rfl rfl (Nat.le_of_ble_eq_true rfl) (c_X7_codeAt hb hS1.2.1 (by omega)) ?_
      refine PW_istore3 (pc' := 38) dX7_readsThing_37 rfl rfl rfl ?_
      refine PW_iload3 (pc' := 39) dX7_readsThing_38 rfl ?_
      refine PW_bipush (pc' := 41) dX7_readsThing_39 rfl (v := 116) (by first | rfl | decide) ?_
      refine PW_icmp_eq (tgt := 58) (pc' := 44) dX7_readsThing_41 rfl rfl (fun h41 => ?_) (fun h41 => ?_)
      · obtain ⟨hl1, hx1⟩ := hS1.is h41 (by decide)
        rw [h41]
        have hx : (116 : Int32) = 116 ∨ (116 : Int32) = 104 ∨ (116 : Int32) = 108 := Or.inl rfl
        exact l_X7_t58 hb ht hx hl1 hx1 hS1
      · refine PW_iload3 (pc' := 45) dX7_readsThing_44 rfl ?_
        refine PW_bipush (pc' := 47) dX7_readsThing_45 rfl (v := 104) (by first | rfl | decide) ?_
        refine PW_icmp_eq (tgt := 58) (pc' := 50) dX7_readsThing_47 rfl rfl (fun h47 => ?_) (fun h47 => ?_)
        · obtain ⟨hl1, hx1⟩ := hS1.is h47 (by decide)
          rw [h47]
          have hx : (104 : Int32) = 116 ∨ (104 : Int32) = 104 ∨ (104 : Int32) = 108 := Or.inr (Or.inl rfl)
          exact l_X7_t58 hb ht hx hl1 hx1 hS1
        · refine PW_iload3 (pc' := 51) dX7_readsThing_50 rfl ?_
          refine PW_bipush (pc' := 53) dX7_readsThing_51 rfl (v := 108) (by first | rfl | decide) ?_
          refine PW_icmp_eq (tgt := 58) (pc' := 56) dX7_readsThing_53 rfl rfl (fun h53 => ?_) (fun h53 => ?_)
          · obtain ⟨hl1, hx1⟩ := hS1.is h53 (by decide)
            rw [h53]
            have hx : (108 : Int32) = 116 ∨ (108 : Int32) = 104 ∨ (108 : Int32) = 108 := Or.inr (Or.inr rfl)
            exact l_X7_t58 hb ht hx hl1 hx1 hS1
          · have hno : t_F M0 b n M1 := hS1.fail ht5 (by decide) (fun z => by cases z) (fun z => by
              rw [s_goes_q ht (by decide)]
              simp [hS1.isnt h41 z, hS1.isnt h47 z, hS1.isnt h53 z])
            refine PW_iconst (pc' := 57) dX7_readsThing_56 rfl (v := 0) (by first | rfl | decide) ?_
            refine PW_ireturn .boolean dX7_readsThing_57 rfl (by first | rfl | exact bi_nar _) ?_
            exact t_P.no hno
    · have hno : t_F M0 b n M := hS.fail ht5 (by decide) (fun _ => by omega) (fun z => by
        rw [s_goes_q ht (by decide)]
        exact decide_eq_false (hS.isnt h16 z))
      refine PW_iconst (pc' := 20) dX7_readsThing_19 rfl (v := 0) (by first | rfl | decide) ?_
      refine PW_ireturn .boolean dX7_readsThing_20 rfl (by first | rfl | exact bi_nar _) ?_
      exact t_P.no hno
