/-! the start: what both constructors leave, as one picture -/
def k_M0 : pv_M := fun p => match p with
  | 29 => fun k => if k = 9 then -9 else 0
  | 46 => upd (upd (upd (upd (fun _ => 0) 0 (-1)) 1 (-1)) 2 (-1)) 3 (-1)
  | _ => fun _ => 0
def k_A0 : s_A := ((0, 0, 0, fun _ _ => 0), (0, fun _ => 0, fun _ => 0, fun _ => false), fun _ => (false, 0, 0), fun _ _ => 0, 0, 0)
theorem k_ok0 : s_ok k_A0.1 := ⟨Nat.zero_le _, Nat.zero_le _, Nat.zero_le _, fun t ht => absurd ht (Nat.not_lt_zero t)⟩
theorem k_AX : AX k_M0 k_A0 := by
  refine ⟨⟨k_ok0, rfl, rfl, rfl, fun t ht => absurd ht (Nat.not_lt_zero t)⟩, ⟨rfl, Nat.zero_le _, fun i hi => absurd hi (Nat.not_lt_zero i)⟩, fun k hk => ?_, rfl, rfl⟩
  rcases (show k = 0 ∨ k = 1 ∨ k = 2 ∨ k = 3 by omega) with rfl | rfl | rfl | rfl <;> exact ⟨rfl, fun z => by cases z⟩
theorem k_AM : AM k_M0 k_A0 := by
  refine ⟨⟨k_ok0, rfl, rfl, rfl, fun t ht => absurd ht (Nat.not_lt_zero t)⟩, ⟨rfl, Nat.zero_le _, fun i hi => absurd hi (Nat.not_lt_zero i)⟩, fun k hk => ?_, rfl, rfl, rfl⟩
  rcases (show k = 0 ∨ k = 1 ∨ k = 2 ∨ k = 3 by omega) with rfl | rfl | rfl | rfl <;> exact ⟨(fun z => by cases z), fun _ => rfl⟩
def k_ad (l : List Nat) : Nat → Nat := fun k => l.getD k 0
theorem k_c4 (ad : Nat → Nat) : (va_up (va_up (va_up (va_up (fun _ => none) 0 (some (ad 2))) 1 (some (ad 3))) 2 (some (ad 4))) 3 (some (ad 5)) : Nat → Option Nat) = fun j => ([2, 3, 4, 5][j]?).map ad := by
  funext j
  match j with
  | 0 => rfl
  | 1 => rfl
  | 2 => rfl
  | 3 => rfl
  | j + 4 => simp [va_up]
theorem k_c5 (ad : Nat → Nat) : (va_up (va_up (va_up (va_up (va_up (fun _ => none) 0 (some (ad 12))) 1 (some (ad 13))) 2 (some (ad 14))) 3 (some (ad 15))) 4 (some (ad 16)) : Nat → Option Nat) = fun j => ([12, 13, 14, 15, 16][j]?).map ad := by
  funext j
  match j with
  | 0 => rfl
  | 1 => rfl
  | 2 => rfl
  | 3 => rfl
  | 4 => rfl
  | j + 5 => simp [va_up]
theorem k_r50 : List.range 50 = [0, 1, 2, 3, 4, 5, 6, 7, 8, 9, 10, 11, 12, 13, 14, 15, 16, 17, 18, 19, 20, 21, 22, 23, 24, 25, 26, 27, 28, 29, 30, 31, 32, 33, 34, 35, 36, 37, 38, 39, 40, 41, 42, 43, 44, 45, 46, 47, 48, 49] := by decide
set_option maxRecDepth 20000 in
set_option maxHeartbeats 4000000 in
theorem k_ws {Γ : kv_G} {h0 g0 b : Nat} {w1 w2 : va_W} (h1 : k_TX6 Γ h0 w1) (h2 : k_TX7 Γ g0 w2) : ∃ ad : Nat → Nat, ad 50 = b ∧ ad 0 = h0 ∧ ad 29 = g0 ∧ w1 ++ w2 = pv_ws Γ.2.2 ad k_M0 := by
  obtain ⟨q1, q2, q3, q4, q5, q6, q7, q8, q9, q10, q11, q12, q13, q14, q15, q16, q17, q18, q19, q20, q21, q22, q23, q24, q25, q26, q27, q28, rfl⟩ := h1
  obtain ⟨p1, p2, p3, p4, p5, p6, p7, p8, p9, p10, p11, p12, p13, p14, p15, p16, p17, p18, p19, p20, rfl⟩ := h2
  obtain ⟨ad, had⟩ : ∃ ad, ad = k_ad [h0, q1, q2, q3, q4, q5, q6, q7, q8, q9, q10, q11, q12, q13, q14, q15, q16, q17, q18, q19, q20, q21, q22, q23, q24, q25, q26, q27, q28, g0, p1, p2, p3, p4, p5, p6, p7, p8, p9, p10, p11, p12, p13, p14, p15, p16, p17, p18, p19, p20, b] := ⟨_, rfl⟩
  refine ⟨ad, by rw [had]; rfl, by rw [had]; rfl, by rw [had]; rfl, ?_⟩
  have e4 := k_c4 ad
  have e5 := k_c5 ad
  have f : ∀ k, ad k = k_ad [h0, q1, q2, q3, q4, q5, q6, q7, q8, q9, q10, q11, q12, q13, q14, q15, q16, q17, q18, q19, q20, q21, q22, q23, q24, q25, q26, q27, q28, g0, p1, p2, p3, p4, p5, p6, p7, p8, p9, p10, p11, p12, p13, p14, p15, p16, p17, p18, p19, p20, b] k := fun k => by rw [had]
  unfold pv_ws
  rw [k_r50]
  simp only [List.map]
  have c1 : pv_ce Γ.2.2 ad k_M0 1 = .inl (Γ.2.2 2, 4, .inr (.inr (.inr (.inr (va_up (va_up (va_up (va_up (fun _ => none) 0 (some (ad 2))) 1 (some (ad 3))) 2 (some (ad 4))) 3 (some (ad 5))))))) := by rw [e4]; rfl
  have c11 : pv_ce Γ.2.2 ad k_M0 11 = .inl (Γ.2.2 3, 5, .inr (.inr (.inr (.inr (va_up (va_up (va_up (va_up (va_up (fun _ => none) 0 (some (ad 12))) 1 (some (ad 13))) 2 (some (ad 14))) 3 (some (ad 15))) 4 (some (ad 16))))))) := by rw [e5]; rfl
  rw [c1, c11, had]
  rfl
theorem k_len6 {Γ : kv_G} {h0 : Nat} {w1 : va_W} (h1 : k_TX6 Γ h0 w1) : w1.length = 29 := by
  obtain ⟨q1, q2, q3, q4, q5, q6, q7, q8, q9, q10, q11, q12, q13, q14, q15, q16, q17, q18, q19, q20, q21, q22, q23, q24, q25, q26, q27, q28, rfl⟩ := h1
  rfl
theorem k_rng (w : va_W) (y : Nat × va_E) : (List.range w.length).map (fun i => (w ++ [y])[i]?) = w.map some := by
  apply List.ext_getElem?
  intro i
  rw [List.getElem?_map, List.getElem?_map]
  by_cases hi : i < w.length
  · rw [List.getElem?_range hi, Option.map_some, List.getElem?_append_left hi, List.getElem?_eq_getElem hi]
    rfl
  · rw [List.getElem?_eq_none (by simpa using hi), List.getElem?_eq_none (by simpa using hi)]
    rfl
theorem k_last (w : va_W) (y : Nat × va_E) : (w ++ [y])[w.length]? = some y := by simp
/-- what the tables say at the start -/
theorem k_start {s : State} {args : Array Value} (hts : ∀ w ∈ lw_tbl, w.before args s = true) : ∃ (D : va_G) (cAt : Nat → ClassId), va_K D pv_cl (pv_tys cAt) s ∧ kv_N s ∧ pv_N s := by
  have htp : ∀ w ∈ pv_T, w.before args s = true := fun w h => hts w (pv_T_sub w h)
  obtain ⟨c0, i0, h0⟩ := u_known (C := RX0) (T := TX0) (N := 4) (n := 4) htp (pv_cl_in (RX0, TX0, 4) (List.mem_of_getElem? (i := 0) rfl)) (htp _ k_inX0)
  obtain ⟨c1, i1, h1⟩ := u_known (C := RX1) (T := TX1) (N := 4) (n := 4) htp (pv_cl_in (RX1, TX1, 4) (List.mem_of_getElem? (i := 1) rfl)) (htp _ k_inX1)
  obtain ⟨c2, i2, h2⟩ := u_known (C := RX2) (T := TX2) (N := 11) (n := 11) htp (pv_cl_in (RX2, TX2, 11) (List.mem_of_getElem? (i := 2) rfl)) (htp _ k_inX2)
  obtain ⟨c3, i3, h3⟩ := u_known (C := RX3) (T := TX3) (N := 4) (n := 4) htp (pv_cl_in (RX3, TX3, 4) (List.mem_of_getElem? (i := 3) rfl)) (htp _ k_inX3)
  obtain ⟨c4, i4, h4⟩ := u_known (C := RX5) (T := TX5) (N := 5) (n := 5) htp (pv_cl_in (RX5, TX5, 5) (List.mem_of_getElem? (i := 4) rfl)) (htp _ k_inX5)
  obtain ⟨c5, i5, h5⟩ := u_known (C := RX6) (T := TX6) (N := 7) (n := 7) htp (pv_cl_in (RX6, TX6, 7) (List.mem_of_getElem? (i := 5) rfl)) (htp _ k_inX6)
  obtain ⟨c6, i6, h6⟩ := u_known (C := RX7) (T := TX7) (N := 34) (n := 34) htp (pv_cl_in (RX7, TX7, 34) (List.mem_of_getElem? (i := 6) rfl)) (htp _ k_inX7)
  obtain ⟨a0, kA0, m0, f0, g0, e0⟩ := Cond.arrayClass_spec (htp _ k_ai)
  obtain ⟨a1, kA1, m1, f1, g1, e1⟩ := Cond.arrayClass_spec (htp _ k_az)
  have o2 : (Cond.arrayOver (.object "UseMuseum$Sheet")).before args s = true := hts _ (List.mem_of_getElem? (i := 54) (by decide +kernel))
  have o3 : (Cond.arrayOver (.object "UseMuseum$Thing")).before args s = true := hts _ (List.mem_of_getElem? (i := 84) (by decide +kernel))
  obtain ⟨m2, a2, kA2, b2, -, g2, e2, f2⟩ := Cond.arrayOver_spec o2
  obtain ⟨m3, a3, kA3, b3, -, g3, e3, f3⟩ := Cond.arrayOver_spec o3
  have n1 : va_Nw (.methodLinkNest RX6 17 yX3_init "UseMuseum") s := va_Nw.of rfl (hts _ (List.mem_of_getElem? (i := 56) (by decide +kernel)))
  have n2 : va_Nw (.methodLinkNest RX0 17 yX5_init "UseMuseum") s := va_Nw.of rfl (hts _ (List.mem_of_getElem? (i := 86) (by decide +kernel)))
  have n3 : va_Nw (.methodLinkNest RX6 27 yX1_init "UseMuseum") s := va_Nw.of rfl (hts _ (List.mem_of_getElem? (i := 138) (by decide +kernel)))
  have n4 : va_Nw (.methodLinkNest RX6 34 yX2_init "UseMuseum") s := va_Nw.of rfl (hts _ (List.mem_of_getElem? (i := 159) (by decide +kernel)))
  have n5 : va_Nw (.methodLinkNest RX0 33 yX6_isIn "UseMuseum") s := va_Nw.of rfl (hts _ (List.mem_of_getElem? (i := 312) (by decide +kernel)))
  refine ⟨(fun k => match k with
    | 0 => c0
    | 1 => c1
    | 2 => c2
    | 3 => c3
    | 4 => c4
    | 5 => c5
    | _ => c6, fun k => match k with
    | 0 => i0
    | 1 => i1
    | 2 => i2
    | 3 => i3
    | 4 => i4
    | 5 => i5
    | _ => i6), fun k => match k with
    | 0 => a0
    | 1 => a1
    | 2 => a2
    | _ => a3, ⟨?_, ?_⟩, ⟨n1, n2, n3, n4, va_AO.of o2, va_AO.of o3⟩, n5⟩
  · intro k q hq
    match k, hq with
    | 0, hq => cases hq; exact h0
    | 1, hq => cases hq; exact h1
    | 2, hq => cases hq; exact h2
    | 3, hq => cases hq; exact h3
    | 4, hq => cases hq; exact h4
    | 5, hq => cases hq; exact h5
    | 6, hq => cases hq; exact h6
    | k + 7, hq => simp [pv_cl] at hq
  · intro k q hq
    match k, hq with
    | 0, hq => cases hq; exact ⟨fun n z => ⟨fun k h => (by cases h), kA0, g0, m0, e0⟩, f0⟩
    | 1, hq => cases hq; exact ⟨fun n z => ⟨fun k h => (by cases h), kA1, g1, m1, e1⟩, f1⟩
    | 2, hq => cases hq; exact ⟨fun n z => ⟨fun k h => (by cases h), kA2, g2, m2, e2⟩, kA2, m2, g2, e2, b2, f2⟩
    | 3, hq => cases hq; exact ⟨fun n z => ⟨fun k h => (by cases h), kA3, g3, m3, e3⟩, kA3, m3, g3, e3, b3, f3⟩
    | k + 4, hq => simp [pv_tys] at hq
