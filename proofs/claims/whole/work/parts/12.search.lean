/-! the class: its search -/
def fr (S : List Nat) (M M' : pv_M) : Prop := ∀ p, p ∉ S → M' p = M p
theorem fr.rf {S : List Nat} {M : pv_M} : fr S M M := fun _ _ => rfl
theorem fr.tr {S : List Nat} {M M1 M2 : pv_M} (h1 : fr S M M1) (h2 : fr S M1 M2) : fr S M M2 := fun p hp => (h2 p hp).trans (h1 p hp)
theorem fr.up {S : List Nat} {M M1 : pv_M} {p k : Nat} {v : Int32} (h : fr S M M1) (hp : p ∈ S) : fr S M (pv_up M1 p k v) := fun q hq => by
  have : q ≠ p := fun z => hq (z ▸ hp)
  rw [← h q hq]
  simp only [pv_up, pv_row, if_neg this]
theorem fr.row {S : List Nat} {M M1 : pv_M} {p : Nat} {f : Nat → Int32} (h : fr S M M1) (hp : p ∈ S) : fr S M (pv_row M1 p f) := fun q hq => by
  have : q ≠ p := fun z => hq (z ▸ hp)
  rw [← h q hq]
  simp only [pv_row, if_neg this]
theorem fr.sub {S T : List Nat} {M M' : pv_M} (h : fr S M M') (hs : ∀ p, p ∈ S → p ∈ T) : fr T M M' := fun p hp => h p (fun z => hp (hs p z))
theorem pv_up_at (M : pv_M) (p k : Nat) (v : Int32) (q j : Nat) : pv_up M p k v q j = if q = p ∧ j = k then v else M q j := by
  by_cases h1 : q = p
  · subst h1
    by_cases h2 : j = k
    · simp [pv_up, pv_row, upd, h2]
    · simp [pv_up, pv_row, upd, h2]
  · simp [pv_up, pv_row, h1]
theorem pv_row_at (M : pv_M) (p : Nat) (f : Nat → Int32) (q j : Nat) : pv_row M p f q j = if q = p then f j else M q j := by
  by_cases h1 : q = p <;> simp [pv_row, h1]
theorem HX.of {M M' : pv_M} {H : s_H} (h : HX M H) (h1 : M' 10 = M 10) (h2 : ∀ t, t < 5 → M' (12 + t) = M (12 + t)) : HX M' H := by
  obtain ⟨hok, a, b, c, e⟩ := h
  exact ⟨hok, by rw [h1]; exact a, by rw [h1]; exact b, by rw [h1]; exact c, fun t ht f hf => by rw [h2 t (Nat.lt_of_lt_of_le ht hok.1)]; exact e t ht f hf⟩
theorem HX.fr {S : List Nat} {M M' : pv_M} {H : s_H} (h : HX M H) (hf : fr S M M') (h1 : 10 ∉ S) (h2 : 12 ∉ S ∧ 13 ∉ S ∧ 14 ∉ S ∧ 15 ∉ S ∧ 16 ∉ S) : HX M' H :=
  h.of (hf 10 h1) (fun t ht => by
    match t, ht with
    | 0, _ => exact hf 12 h2.1
    | 1, _ => exact hf 13 h2.2.1
    | 2, _ => exact hf 14 h2.2.2.1
    | 3, _ => exact hf 15 h2.2.2.2.1
    | 4, _ => exact hf 16 h2.2.2.2.2)
/-! whole numbers as ints -/
def iI (z : Int) : Int32 := Int32.ofInt z
theorem iI_toInt {z : Int} (h1 : -2147483648 ≤ z) (h2 : z < 2147483648) : (iI z).toInt = z := Int32.toInt_ofInt_of_le h1 h2
theorem iI_nat {n : Nat} (h : n < 2 ^ 31) : nI n = iI (n : Int) := Int32.toInt_inj.mp (by rw [nI_toInt h, iI_toInt (by omega) (by omega)])
theorem iI_sub (a b : Int) : iI a - iI b = iI (a - b) := (Int32.ofInt_sub a b).symm
theorem iI_add (a b : Int) : iI a + iI b = iI (a + b) := (Int32.ofInt_add a b).symm
theorem iI_mul (a b : Int) : iI a * iI b = iI (a * b) := (Int32.ofInt_mul a b).symm
theorem iI_le {a b : Int} (ha : -2147483648 ≤ a ∧ a < 2147483648) (hb : -2147483648 ≤ b ∧ b < 2147483648) : iI a ≤ iI b ↔ a ≤ b := by
  rw [Int32.le_iff_toInt_le, iI_toInt ha.1 ha.2, iI_toInt hb.1 hb.2]
theorem iI_eq {a b : Int} (ha : -2147483648 ≤ a ∧ a < 2147483648) (hb : -2147483648 ≤ b ∧ b < 2147483648) : iI a = iI b ↔ a = b := by
  rw [← Int32.toInt_inj, iI_toInt ha.1 ha.2, iI_toInt hb.1 hb.2]
/-! the search's state: how many rounds, the first, the best, what it leaves, the most takings, what was seen; what it keeps to: without, most missed, must be in, must be out -/
abbrev s_S : Type := Nat × (Nat → Option Nat) × (Nat → Option Nat) × Int × Nat × (Nat → Nat)
abbrev s_K : Type := Option Nat × Nat × (Nat → Nat) × (Nat → Nat)
def SX (M : pv_M) (σ : s_S) : Prop := M 21 8 = nI σ.1 ∧ M 21 9 = iI σ.2.2.2.1 ∧ M 21 10 = nI σ.2.2.2.2.1 ∧ (σ.1 ≤ 1000000 ∧ -1000 ≤ σ.2.2.2.1 ∧ σ.2.2.2.1 ≤ 1000 ∧ σ.2.2.2.2.1 ≤ 1000) ∧ ∀ h, h < 6 → M 23 h = s_rI (σ.2.1 h) ∧ M 24 h = s_rI (σ.2.2.1 h) ∧ M 25 h = nI (σ.2.2.2.2.2 h) ∧ σ.2.2.2.2.2 h < 64
def KX (M : pv_M) (κ : s_K) : Prop := M 21 6 = s_rI κ.1 ∧ M 21 7 = nI κ.2.1 ∧ κ.2.1 ≤ 30 ∧ ∀ h, h < 6 → M 26 h = nI (κ.2.2.1 h) ∧ κ.2.2.1 h < 64 ∧ M 27 h = nI (κ.2.2.2 h) ∧ κ.2.2.2 h < 64
def s_arr (κ : s_K) (pen : Nat) (r : Nat → Option Nat) (tk ms : Nat) (σ : s_S) : s_S :=
  (σ.1 + 1, if σ.1 = 0 then r else σ.2.1, if σ.1 = 0 ∨ σ.2.2.2.1 < (tk : Int) - pen * ms then r else σ.2.2.1, if σ.1 = 0 ∨ σ.2.2.2.1 < (tk : Int) - pen * ms then (tk : Int) - pen * ms else σ.2.2.2.1, if ms ≤ κ.2.1 ∧ σ.2.2.2.2.1 < tk then tk else σ.2.2.2.2.1, σ.2.2.2.2.2)
def s_fit (κ : s_K) (h cs : Nat) : Bool := (List.range 6).all fun t => (!(κ.2.2.1 h).testBit t || cs.testBit t) && !((κ.2.2.2 h).testBit t && cs.testBit t)
theorem bt_fin : ∀ a, a < 64 → ∀ b, b < 64 → (nI a &&& (nI b ^^^ (-1)) = 0 ↔ ((List.range 6).all fun t => (!a.testBit t || b.testBit t)) = true) := by decide +kernel
theorem bt_fout : ∀ a, a < 64 → ∀ b, b < 64 → (nI a &&& nI b = 0 ↔ ((List.range 6).all fun t => !(a.testBit t && b.testBit t)) = true) := by decide +kernel
theorem s_fit_and (κ : s_K) (h cs : Nat) : s_fit κ h cs = (((List.range 6).all fun t => (!(κ.2.2.1 h).testBit t || cs.testBit t)) && ((List.range 6).all fun t => !((κ.2.2.2 h).testBit t && cs.testBit t))) := by
  rw [Bool.eq_iff_iff]
  simp only [s_fit, List.all_eq_true, Bool.and_eq_true]
  exact ⟨fun q => ⟨fun t ht => (q t ht).1, fun t ht => (q t ht).2⟩, fun q t ht => ⟨q.1 t ht, q.2 t ht⟩⟩
set_option maxHeartbeats 4000000 in
theorem c_X2_fits {Γ : pv_G} {d : Nat} {M : pv_M} {h cs : Nat} {κ : s_K} (hh : h < 6) (hcs : cs < 64) (hK : KX M κ) : Ct Γ d vX2_fits [.ref 21, .int (nI h), .int (nI cs)] M (pv_fn (some (.int (bi (s_fit κ h cs)))) M) := by
  obtain ⟨hk1, hk2, hk3, hk4⟩ := id hK
  obtain ⟨hi1, hi2, ho1, ho2⟩ := hk4 h hh
  refine Ct.of oX2_fits.1 rfl (pad := 0) rfl ?_
  show PW Γ d vX2_fits 0 [.ref 21, .int (nI h), .int (nI cs)] [] M _
  refine PW_aload0 (pc' := 1) dX2_fits_0 rfl ?_
  refine PW_getR (pc' := 4) dX2_fits_1 rfl fX2_24 rfl rfl ?_
  refine PW_iload1 (pc' := 5) dX2_fits_4 rfl ?_
  refine PW_ialdn (pc' := 6) dX2_fits_5 rfl rfl rfl (by omega) ?_
  rw [hi1]
  refine PW_iload2 (pc' := 7) dX2_fits_6 rfl ?_
  refine PW_iconst (pc' := 8) dX2_fits_7 rfl (v := -1) (by first | rfl | decide) ?_
  refine PW_ixor (pc' := 9) dX2_fits_8 rfl ?_
  refine PW_iand (pc' := 10) dX2_fits_9 rfl ?_
  refine PW_if_ne (tgt := 28) (pc' := 13) dX2_fits_10 rfl rfl (fun h10 => ?_) (fun h10 => ?_)
  · refine PW_iconst (pc' := 29) dX2_fits_28 rfl (v := 0) (by first | rfl | decide) ?_
    refine PW_ireturn .boolean dX2_fits_29 rfl (by first | rfl | exact bi_nar _) ?_
    refine ⟨?_, rfl⟩
    have q1 := bt_fin _ hi2 _ hcs
    have q2 := bt_fout _ ho2 _ hcs
    first
      | rw [bi_zero (show s_fit κ h cs = false from by rw [s_fit_and, Bool.and_eq_false_iff]; exact Or.inl (Bool.eq_false_iff.mpr (fun z => h10 (q1.mpr z))))]
      | rw [bi_zero (show s_fit κ h cs = false from by rw [s_fit_and, Bool.and_eq_false_iff]; exact Or.inr (Bool.eq_false_iff.mpr (fun z => h21 (q2.mpr z))))]
      | rw [bi_one (show s_fit κ h cs = true from by rw [s_fit_and, Bool.and_eq_true]; exact ⟨q1.mp h10, q2.mp h21⟩)]
  · refine PW_aload0 (pc' := 14) dX2_fits_13 rfl ?_
    refine PW_getR (pc' := 17) dX2_fits_14 rfl fX2_27 rfl rfl ?_
    refine PW_iload1 (pc' := 18) dX2_fits_17 rfl ?_
    refine PW_ialdn (pc' := 19) dX2_fits_18 rfl rfl rfl (by omega) ?_
    rw [ho1]
    refine PW_iload2 (pc' := 20) dX2_fits_19 rfl ?_
    refine PW_iand (pc' := 21) dX2_fits_20 rfl ?_
    refine PW_if_ne (tgt := 28) (pc' := 24) dX2_fits_21 rfl rfl (fun h21 => ?_) (fun h21 => ?_)
    · refine PW_iconst (pc' := 29) dX2_fits_28 rfl (v := 0) (by first | rfl | decide) ?_
      refine PW_ireturn .boolean dX2_fits_29 rfl (by first | rfl | exact bi_nar _) ?_
      refine ⟨?_, rfl⟩
      have q1 := bt_fin _ hi2 _ hcs
      have q2 := bt_fout _ ho2 _ hcs
      first
        | rw [bi_zero (show s_fit κ h cs = false from by rw [s_fit_and, Bool.and_eq_false_iff]; exact Or.inl (Bool.eq_false_iff.mpr (fun z => h10 (q1.mpr z))))]
        | rw [bi_zero (show s_fit κ h cs = false from by rw [s_fit_and, Bool.and_eq_false_iff]; exact Or.inr (Bool.eq_false_iff.mpr (fun z => h21 (q2.mpr z))))]
        | rw [bi_one (show s_fit κ h cs = true from by rw [s_fit_and, Bool.and_eq_true]; exact ⟨q1.mp h10, q2.mp h21⟩)]
    · refine PW_iconst (pc' := 25) dX2_fits_24 rfl (v := 1) (by first | rfl | decide) ?_
      refine PW_goto (tgt := 29) dX2_fits_25 rfl ?_
      refine PW_ireturn .boolean dX2_fits_29 rfl (by first | rfl | exact bi_nar _) ?_
      refine ⟨?_, rfl⟩
      have q1 := bt_fin _ hi2 _ hcs
      have q2 := bt_fout _ ho2 _ hcs
      first
        | rw [bi_zero (show s_fit κ h cs = false from by rw [s_fit_and, Bool.and_eq_false_iff]; exact Or.inl (Bool.eq_false_iff.mpr (fun z => h10 (q1.mpr z))))]
        | rw [bi_zero (show s_fit κ h cs = false from by rw [s_fit_and, Bool.and_eq_false_iff]; exact Or.inr (Bool.eq_false_iff.mpr (fun z => h21 (q2.mpr z))))]
        | rw [bi_one (show s_fit κ h cs = true from by rw [s_fit_and, Bool.and_eq_true]; exact ⟨q1.mp h10, q2.mp h21⟩)]
def m_a1 (M : pv_M) : pv_M := if M 21 8 = 0 then pv_row M 23 (va_cpy (M 22) (M 23) 0 0 6) else M
def m_a2 (left : Int32) (M : pv_M) : pv_M := if M 21 8 = 0 ∨ ¬ left ≤ M 21 9 then pv_row (pv_up M 21 9 left) 24 (va_cpy (M 22) (M 24) 0 0 6) else M
def m_a3 (tk ms : Int32) (M : pv_M) : pv_M := if ¬ ms > M 21 7 ∧ ¬ tk ≤ M 21 10 then pv_up M 21 10 tk else M
def m_a4 (M : pv_M) : pv_M := pv_up M 21 8 (M 21 8 + 1)
def m_arr (tk ms pen : Int32) (M : pv_M) : pv_M := m_a4 (m_a3 tk ms (m_a2 (tk - pen * ms) (m_a1 M)))
section ARR
variable {Γ : pv_G} {d : Nat} {M : pv_M} {Q : pv_Q} {tk ms pen left : Int32}
set_option maxHeartbeats 4000000 in
theorem l_X2_arrive_87 (hq : Q none (m_a4 M)) : PW Γ d vX2_arrive 87 [.ref 21, .int tk, .int ms, .int pen, .int left] [] M Q := by
  refine PW_aload0 (pc' := 88) dX2_arrive_87 rfl ?_
  refine PW_dupR (pc' := 89) dX2_arrive_88 rfl ?_
  refine PW_getI (pc' := 92) dX2_arrive_89 rfl fX2_37 rfl rfl ?_
  refine PW_iconst (pc' := 93) dX2_arrive_92 rfl (v := 1) (by first | rfl | decide) ?_
  refine PW_iadd (pc' := 94) dX2_arrive_93 rfl ?_
  refine PW_putI (pc' := 97) dX2_arrive_94 rfl fX2_37 w2_8 rfl rfl ?_
  refine PW_return dX2_arrive_97 rfl ?_
  exact hq
set_option maxHeartbeats 4000000 in
theorem l_X2_arrive_66 (hq : Q none (m_a4 (m_a3 tk ms M))) : PW Γ d vX2_arrive 66 [.ref 21, .int tk, .int ms, .int pen, .int left] [] M Q := by
  refine PW_iload2 (pc' := 67) dX2_arrive_66 rfl ?_
  refine PW_aload0 (pc' := 68) dX2_arrive_67 rfl ?_
  refine PW_getI (pc' := 71) dX2_arrive_68 rfl fX2_34 rfl rfl ?_
  refine PW_icmp_gt (tgt := 87) (pc' := 74) dX2_arrive_71 rfl rfl (fun h71 => ?_) (fun h71 => ?_)
  · have e : m_a3 tk ms M = M := if_neg (fun z => z.1 h71)
    rw [e] at hq
    exact l_X2_arrive_87 hq
  · refine PW_iload1 (pc' := 75) dX2_arrive_74 rfl ?_
    refine PW_aload0 (pc' := 76) dX2_arrive_75 rfl ?_
    refine PW_getI (pc' := 79) dX2_arrive_76 rfl fX2_43 rfl rfl ?_
    refine PW_icmp_le (tgt := 87) (pc' := 82) dX2_arrive_79 rfl rfl (fun h79 => ?_) (fun h79 => ?_)
    · have e : m_a3 tk ms M = M := if_neg (fun z => z.2 h79)
      rw [e] at hq
      exact l_X2_arrive_87 hq
    · have e : m_a3 tk ms M = pv_up M 21 10 tk := if_pos ⟨h71, h79⟩
      refine PW_aload0 (pc' := 83) dX2_arrive_82 rfl ?_
      refine PW_iload1 (pc' := 84) dX2_arrive_83 rfl ?_
      refine PW_putI (pc' := 87) dX2_arrive_84 rfl fX2_43 w2_10 rfl rfl ?_
      rw [e] at hq
      exact l_X2_arrive_87 hq
set_option maxHeartbeats 4000000 in
theorem l_X2_arrive_29 (hq : Q none (m_a4 (m_a3 tk ms (m_a2 left M)))) : PW Γ d vX2_arrive 29 [.ref 21, .int tk, .int ms, .int pen, .int left] [] M Q := by
  refine PW_aload0 (pc' := 30) dX2_arrive_29 rfl ?_
  refine PW_getI (pc' := 33) dX2_arrive_30 rfl fX2_37 rfl rfl ?_
  refine PW_if_eq (tgt := 45) (pc' := 36) dX2_arrive_33 rfl rfl (fun h33 => ?_) (fun h33 => ?_)
  · have e : m_a2 left M = pv_row (pv_up M 21 9 left) 24 (va_cpy (M 22) (M 24) 0 0 6) := if_pos (Or.inl h33)
    refine PW_aload0 (pc' := 46) dX2_arrive_45 rfl ?_
    refine PW_iload4 (pc' := 48) dX2_arrive_46 rfl ?_
    refine PW_putI (pc' := 51) dX2_arrive_48 rfl fX2_40 w2_9 rfl rfl ?_
    refine PW_aload0 (pc' := 52) dX2_arrive_51 rfl ?_
    refine PW_getR (pc' := 55) dX2_arrive_52 rfl fX2_9 rfl rfl ?_
    refine PW_iconst (pc' := 56) dX2_arrive_55 rfl (v := 0) (by first | rfl | decide) ?_
    refine PW_aload0 (pc' := 57) dX2_arrive_56 rfl ?_
    refine PW_getR (pc' := 60) dX2_arrive_57 rfl fX2_18 rfl rfl ?_
    refine PW_iconst (pc' := 61) dX2_arrive_60 rfl (v := 0) (by first | rfl | decide) ?_
    refine PW_bipush (pc' := 63) dX2_arrive_61 rfl (v := 6) (by first | rfl | decide) ?_
    refine PW_copy (pc' := 66) dX2_arrive_63 rfl lX2_46 (Nat.le_of_ble_eq_true rfl) rfl rfl (by decide) (by decide) (by decide) (by decide) (by decide) ?_
    rw [e] at hq
    exact l_X2_arrive_66 hq
  · refine PW_iload4 (pc' := 38) dX2_arrive_36 rfl ?_
    refine PW_aload0 (pc' := 39) dX2_arrive_38 rfl ?_
    refine PW_getI (pc' := 42) dX2_arrive_39 rfl fX2_40 rfl rfl ?_
    refine PW_icmp_le (tgt := 66) (pc' := 45) dX2_arrive_42 rfl rfl (fun h42 => ?_) (fun h42 => ?_)
    · have e : m_a2 left M = M := if_neg (fun z => z.elim h33 (fun y => y h42))
      rw [e] at hq
      exact l_X2_arrive_66 hq
    · have e : m_a2 left M = pv_row (pv_up M 21 9 left) 24 (va_cpy (M 22) (M 24) 0 0 6) := if_pos (Or.inr h42)
      refine PW_aload0 (pc' := 46) dX2_arrive_45 rfl ?_
      refine PW_iload4 (pc' := 48) dX2_arrive_46 rfl ?_
      refine PW_putI (pc' := 51) dX2_arrive_48 rfl fX2_40 w2_9 rfl rfl ?_
      refine PW_aload0 (pc' := 52) dX2_arrive_51 rfl ?_
      refine PW_getR (pc' := 55) dX2_arrive_52 rfl fX2_9 rfl rfl ?_
      refine PW_iconst (pc' := 56) dX2_arrive_55 rfl (v := 0) (by first | rfl | decide) ?_
      refine PW_aload0 (pc' := 57) dX2_arrive_56 rfl ?_
      refine PW_getR (pc' := 60) dX2_arrive_57 rfl fX2_18 rfl rfl ?_
      refine PW_iconst (pc' := 61) dX2_arrive_60 rfl (v := 0) (by first | rfl | decide) ?_
      refine PW_bipush (pc' := 63) dX2_arrive_61 rfl (v := 6) (by first | rfl | decide) ?_
      refine PW_copy (pc' := 66) dX2_arrive_63 rfl lX2_46 (Nat.le_of_ble_eq_true rfl) rfl rfl (by decide) (by decide) (by decide) (by decide) (by decide) ?_
      rw [e] at hq
      exact l_X2_arrive_66 hq
end ARR
set_option maxHeartbeats 4000000 in
theorem c_X2_arrive {Γ : pv_G} {d : Nat} {M : pv_M} {tk ms pen : Int32} : Ct Γ d vX2_arrive [.ref 21, .int tk, .int ms, .int pen] M (pv_fn none (m_arr tk ms pen M)) := by
  refine Ct.of oX2_arrive.1 rfl (pad := 1) rfl ?_
  show PW Γ d vX2_arrive 0 [.ref 21, .int tk, .int ms, .int pen, .null] [] M _
  refine PW_iload1 (pc' := 1) dX2_arrive_0 rfl ?_
  refine PW_iload3 (pc' := 2) dX2_arrive_1 rfl ?_
  refine PW_iload2 (pc' := 3) dX2_arrive_2 rfl ?_
  refine PW_imul (pc' := 4) dX2_arrive_3 rfl ?_
  refine PW_isub (pc' := 5) dX2_arrive_4 rfl ?_
  refine PW_istore4 (pc' := 7) dX2_arrive_5 rfl rfl rfl ?_
  refine PW_aload0 (pc' := 8) dX2_arrive_7 rfl ?_
  refine PW_getI (pc' := 11) dX2_arrive_8 rfl fX2_37 rfl rfl ?_
  refine PW_if_ne (tgt := 29) (pc' := 14) dX2_arrive_11 rfl rfl (fun h11 => ?_) (fun h11 => ?_)
  · have e : m_a1 M = M := if_neg h11
    exact l_X2_arrive_29 ⟨rfl, by rw [m_arr, e] <;> rfl⟩
  · have e : m_a1 M = pv_row M 23 (va_cpy (M 22) (M 23) 0 0 6) := if_pos h11
    refine PW_aload0 (pc' := 15) dX2_arrive_14 rfl ?_
    refine PW_getR (pc' := 18) dX2_arrive_15 rfl fX2_9 rfl rfl ?_
    refine PW_iconst (pc' := 19) dX2_arrive_18 rfl (v := 0) (by first | rfl | decide) ?_
    refine PW_aload0 (pc' := 20) dX2_arrive_19 rfl ?_
    refine PW_getR (pc' := 23) dX2_arrive_20 rfl fX2_15 rfl rfl ?_
    refine PW_iconst (pc' := 24) dX2_arrive_23 rfl (v := 0) (by first | rfl | decide) ?_
    refine PW_bipush (pc' := 26) dX2_arrive_24 rfl (v := 6) (by first | rfl | decide) ?_
    refine PW_copy (pc' := 29) dX2_arrive_26 rfl lX2_46 (Nat.le_of_ble_eq_true rfl) rfl rfl (by decide) (by decide) (by decide) (by decide) (by decide) ?_
    exact l_X2_arrive_29 ⟨rfl, by rw [m_arr, e] <;> rfl⟩
theorem va_cpy06 (f g : Nat → Int32) {h : Nat} (hh : h < 6) : va_cpy f g 0 0 6 h = f h := by simp [va_cpy, hh]
theorem m_arr_at {M : pv_M} {σ : s_S} {κ : s_K} {r : Nat → Option Nat} {tk ms pen : Nat} (htk : tk ≤ 300) (hms : ms ≤ 36) (hpen : pen ≤ 9) (hS : SX M σ) (hK : KX M κ) (hc : σ.1 < 1000000) (hr : ∀ h, h < 6 → M 22 h = s_rI (r h)) :
    SX (m_arr (nI tk) (nI ms) (nI pen) M) (s_arr κ pen r tk ms σ) ∧ KX (m_arr (nI tk) (nI ms) (nI pen) M) κ ∧ fr [21, 23, 24] M (m_arr (nI tk) (nI ms) (nI pen) M) := by
  obtain ⟨s1, s2, s3, ⟨b1, b2, b3, b4⟩, s4⟩ := id hS
  obtain ⟨k1, k2, k3, k4⟩ := id hK
  have hpm : pen * ms ≤ 9 * 36 := Nat.mul_le_mul hpen hms
  have hl : nI tk - nI pen * nI ms = iI ((tk : Int) - pen * ms) := by
    rw [iI_nat (by omega), iI_nat (n := pen) (by omega), iI_nat (n := ms) (by omega), iI_mul, iI_sub]
  have hpmz : ((pen : Int) * ms) ≤ 324 ∧ 0 ≤ (pen : Int) * ms := by
    have e : (pen : Int) * ms = ((pen * ms : Nat) : Int) := by simp
    rw [e]
    omega
  generalize hz : (tk : Int) - pen * ms = z at hl
  have hzb : -1000 ≤ z ∧ z ≤ 1000 := by omega
  simp only [m_arr]
  rw [hl]
  have c0 : (M 21 8 = 0) ↔ σ.1 = 0 := by
    rw [s1]
    exact nI_eq (b := 0) (by omega) (by omega)
  have cl : (¬ iI z ≤ iI σ.2.2.2.1) ↔ σ.2.2.2.1 < z := by
    rw [iI_le (by omega) (by omega)]
    omega
  have cm : (¬ nI ms > nI κ.2.1) ↔ ms ≤ κ.2.1 := by
    rw [gt_iff_lt, nI_ltI (by omega) (by omega)]
    omega
  have ct : (¬ nI tk ≤ nI σ.2.2.2.2.1) ↔ σ.2.2.2.2.1 < tk := by
    rw [nI_leI (by omega) (by omega)]
    omega
  -- stage 1
  have a1 : (m_a1 M) 21 = M 21 ∧ (m_a1 M) 22 = M 22 ∧ (m_a1 M) 24 = M 24 ∧ (m_a1 M) 25 = M 25 ∧ (m_a1 M) 26 = M 26 ∧ (m_a1 M) 27 = M 27 ∧ fr [21, 23, 24] M (m_a1 M) ∧ ∀ h, h < 6 → (m_a1 M) 23 h = s_rI ((if σ.1 = 0 then r else σ.2.1) h) := by
    unfold m_a1
    by_cases q : σ.1 = 0
    · rw [if_pos (c0.mpr q), if_pos q]
      refine ⟨rfl, rfl, rfl, rfl, rfl, rfl, fr.rf.row (by decide), fun h hh => ?_⟩
      rw [pv_row_at, if_pos rfl, va_cpy06 _ _ hh, hr h hh]
    · rw [if_neg (fun y => q (c0.mp y)), if_neg q]
      exact ⟨rfl, rfl, rfl, rfl, rfl, rfl, fr.rf, fun h hh => (s4 h hh).1⟩
  obtain ⟨a21, a22, a24, a25, a26, a27, afr, a23⟩ := a1
  generalize m_a1 M = M1 at a21 a22 a24 a25 a26 a27 afr a23 ⊢
  have a2 : (∀ k, k ≠ 9 → (m_a2 (iI z) M1) 21 k = M 21 k) ∧ (m_a2 (iI z) M1) 21 9 = iI (if σ.1 = 0 ∨ σ.2.2.2.1 < z then z else σ.2.2.2.1) ∧ (m_a2 (iI z) M1) 23 = M1 23 ∧ (m_a2 (iI z) M1) 25 = M 25 ∧ (m_a2 (iI z) M1) 26 = M 26 ∧ (m_a2 (iI z) M1) 27 = M 27 ∧ fr [21, 23, 24] M (m_a2 (iI z) M1) ∧ ∀ h, h < 6 → (m_a2 (iI z) M1) 24 h = s_rI ((if σ.1 = 0 ∨ σ.2.2.2.1 < z then r else σ.2.2.1) h) := by
    unfold m_a2
    rw [a21, a22, a24, s2]
    by_cases q : σ.1 = 0 ∨ σ.2.2.2.1 < z
    · rw [if_pos (q.imp c0.mpr cl.mpr), if_pos q, if_pos q]
      refine ⟨fun k hk => ?_, ?_, rfl, a25, a26, a27, (afr.up (by decide)).row (by decide), fun h hh => ?_⟩
      · rw [pv_row_at, if_neg (by decide), pv_up_at, if_neg (fun y => hk y.2), a21]
      · rw [pv_row_at, if_neg (by decide), pv_up_at, if_pos ⟨rfl, rfl⟩]
      · rw [pv_row_at, if_pos rfl, va_cpy06 _ _ hh, hr h hh]
    · rw [if_neg (fun y => q (y.imp c0.mp cl.mp)), if_neg q, if_neg q]
      exact ⟨fun k _ => by rw [a21], by rw [a21, s2], rfl, a25, a26, a27, afr, fun h hh => by rw [a24]; exact (s4 h hh).2.1⟩
  obtain ⟨d21, d9, d23, d25, d26, d27, dfr, d24⟩ := a2
  generalize m_a2 (iI z) M1 = M2 at d21 d9 d23 d25 d26 d27 dfr d24 ⊢
  have a3 : (∀ k, k ≠ 10 → (m_a3 (nI tk) (nI ms) M2) 21 k = M2 21 k) ∧ (m_a3 (nI tk) (nI ms) M2) 21 10 = nI (if ms ≤ κ.2.1 ∧ σ.2.2.2.2.1 < tk then tk else σ.2.2.2.2.1) ∧ (∀ p, p ≠ 21 → (m_a3 (nI tk) (nI ms) M2) p = M2 p) := by
    unfold m_a3
    rw [d21 7 (by decide), d21 10 (by decide), k2, s3]
    by_cases q : ms ≤ κ.2.1 ∧ σ.2.2.2.2.1 < tk
    · rw [if_pos ⟨cm.mpr q.1, ct.mpr q.2⟩, if_pos q]
      refine ⟨fun k hk => ?_, ?_, fun p hp => ?_⟩
      · rw [pv_up_at, if_neg (fun y => hk y.2)]
      · rw [pv_up_at, if_pos ⟨rfl, rfl⟩]
      · simp only [pv_up, pv_row, if_neg hp]
    · rw [if_neg (fun y => q ⟨cm.mp y.1, ct.mp y.2⟩), if_neg q]
      exact ⟨fun k _ => rfl, by rw [d21 10 (by decide), s3], fun p _ => rfl⟩
  obtain ⟨e21, e10, ep⟩ := a3
  generalize m_a3 (nI tk) (nI ms) M2 = M3 at e21 e10 ep ⊢
  have f21 : ∀ k, k ≠ 8 → (m_a4 M3) 21 k = M3 21 k := fun k hk => by rw [m_a4, pv_up_at, if_neg (fun y => hk y.2)]
  have f8 : (m_a4 M3) 21 8 = nI (σ.1 + 1) := by
    rw [m_a4, pv_up_at, if_pos ⟨rfl, rfl⟩, e21 8 (by decide), d21 8 (by decide), s1]
    exact nI_1 _
  have fp : ∀ p, p ≠ 21 → (m_a4 M3) p = M3 p := fun p hp => by simp only [m_a4, pv_up, pv_row, if_neg hp]
  have g : ∀ p, p ≠ 21 → (m_a4 M3) p = M2 p := fun p hp => (fp p hp).trans (ep p hp)
  refine ⟨⟨f8, ?_, ?_, ⟨?_, ?_, ?_, ?_⟩, fun h hh => ⟨?_, ?_, ?_, ?_⟩⟩, ⟨?_, ?_, k3, fun h hh => ⟨?_, (k4 h hh).2.1, ?_, (k4 h hh).2.2.2⟩⟩, fun p hp => ?_⟩
  · rw [f21 9 (by decide), e21 9 (by decide), d9]
    simp only [s_arr, hz]
  · rw [f21 10 (by decide), e10]
    simp only [s_arr]
  · show σ.1 + 1 ≤ 1000000
    omega
  · simp only [s_arr, hz]
    split <;> omega
  · simp only [s_arr, hz]
    split <;> omega
  · simp only [s_arr]
    split <;> omega
  · rw [g 23 (by decide), d23, a23 h hh]
    simp only [s_arr]
  · rw [g 24 (by decide), d24 h hh]
    simp only [s_arr, hz]
  · rw [g 25 (by decide), d25]
    exact (s4 h hh).2.2.1
  · exact (s4 h hh).2.2.2
  · rw [f21 6 (by decide), e21 6 (by decide), d21 6 (by decide), k1]
  · rw [f21 7 (by decide), e21 7 (by decide), d21 7 (by decide), k2]
  · rw [g 26 (by decide), d26]
    exact (k4 h hh).1
  · rw [g 27 (by decide), d27]
    exact (k4 h hh).2.2.1
  · have hp21 : p ≠ 21 := fun z => hp (by rw [z]; decide)
    rw [g p hp21]
    exact dfr p hp
def m_note (b : Nat) (σ : s_S) (M : pv_M) (h t : Nat) : pv_M := if b < σ.1 then pv_up M 25 h (nI (σ.2.2.2.2.2 h ||| 2 ^ t)) else M
set_option maxHeartbeats 4000000 in
theorem c_X2_note {Γ : pv_G} {d : Nat} {M : pv_M} {h t b : Nat} {σ : s_S} (hh : h < 6) (ht : t < 6) (hb : b ≤ 1000000) (hS : SX M σ) : Ct Γ d vX2_note [.ref 21, .int (nI h), .int (nI t), .int (nI b)] M (pv_fn none (m_note b σ M h t)) := by
  obtain ⟨s1, s2, s3, ⟨b1, b2, b3, b4⟩, s4⟩ := id hS
  obtain ⟨-, -, s5, s6⟩ := s4 h hh
  refine Ct.of oX2_note.1 rfl (pad := 0) rfl ?_
  show PW Γ d vX2_note 0 [.ref 21, .int (nI h), .int (nI t), .int (nI b)] [] M _
  refine PW_aload0 (pc' := 1) dX2_note_0 rfl ?_
  refine PW_getI (pc' := 4) dX2_note_1 rfl fX2_37 rfl rfl ?_
  rw [s1]
  refine PW_iload3 (pc' := 5) dX2_note_4 rfl ?_
  refine PW_icmp_le (tgt := 20) (pc' := 8) dX2_note_5 rfl rfl (fun h5 => ?_) (fun h5 => ?_)
  · refine PW_return dX2_note_20 rfl ?_
    first
      | (rw [nI_leI (by omega) (by omega)] at h5; exact ⟨rfl, by rw [m_note, if_neg (by omega)]⟩)
      | (rw [nI_leI (by omega) (by omega)] at h5; exact ⟨rfl, by rw [m_note, if_pos (by omega)]⟩)
  · refine PW_aload0 (pc' := 9) dX2_note_8 rfl ?_
    refine PW_getR (pc' := 12) dX2_note_9 rfl fX2_21 rfl rfl ?_
    refine PW_iload1 (pc' := 13) dX2_note_12 rfl ?_
    refine PW_dup2IR (pc' := 14) dX2_note_13 rfl ?_
    refine PW_ialdn (pc' := 15) dX2_note_14 rfl rfl rfl (by omega) ?_
    rw [s5]
    refine PW_iconst (pc' := 16) dX2_note_15 rfl (v := 1) (by first | rfl | decide) ?_
    refine PW_iload2 (pc' := 17) dX2_note_16 rfl ?_
    refine PW_ishl (pc' := 18) dX2_note_17 rfl ?_
    refine PW_ior (pc' := 19) dX2_note_18 rfl ?_
    rw [(bt_or _ s6 t ht).1]
    refine PW_iastn (pc' := 20) dX2_note_19 rfl rfl rfl (by omega) ?_
    refine PW_return dX2_note_20 rfl ?_
    first
      | (rw [nI_leI (by omega) (by omega)] at h5; exact ⟨rfl, by rw [m_note, if_neg (by omega)]⟩)
      | (rw [nI_leI (by omega) (by omega)] at h5; exact ⟨rfl, by rw [m_note, if_pos (by omega)]⟩)
def s_S0 : s_S := (0, fun _ => none, fun _ => none, 0, 0, fun _ => 0)
def s_K0 : s_K := (none, 30, fun _ => 0, fun _ => 0)
set_option maxHeartbeats 4000000 in
theorem l_X2_clear {Γ : pv_G} {d : Nat} {M0 : pv_M} : ∀ (m j : Nat) (M : pv_M), j + m = 6 → fr [21, 22, 23, 24, 25, 26, 27] M0 M → (∀ h, h < j → M 23 h = -9 ∧ M 24 h = -9 ∧ M 25 h = 0 ∧ M 26 h = 0 ∧ M 27 h = 0) →
    PW Γ d vX2_clear 2 [.ref 21, .int (nI j)] [] M (fun r M' => r = none ∧ (SX M' s_S0 ∧ KX M' s_K0 ∧ fr [21, 22, 23, 24, 25, 26, 27] M0 M')) := by
  intro m
  induction m using Nat.strongRecOn with
  | ind m ih =>
    intro j M hjm hfr hall
    refine PW_iload1 (pc' := 3) dX2_clear_2 rfl ?_
    refine PW_bipush (pc' := 5) dX2_clear_3 rfl (v := nI 6) (by first | rfl | decide) ?_
    refine PW_icmp_ge (tgt := 59) (pc' := 8) dX2_clear_5 rfl rfl (fun h5 => ?_) (fun h5 => ?_)
    · have hj6 : j = 6 := by have := s_bge (by omega) (by omega) h5; omega
      subst hj6
      refine PW_aload0 (pc' := 60) dX2_clear_59 rfl ?_
      refine PW_bipush (pc' := 62) dX2_clear_60 rfl (v := -9) (by first | rfl | decide) ?_
      refine PW_putI (pc' := 65) dX2_clear_62 rfl fX2_30 w2_6 rfl rfl ?_
      refine PW_aload0 (pc' := 66) dX2_clear_65 rfl ?_
      refine PW_bipush (pc' := 68) dX2_clear_66 rfl (v := 30) (by first | rfl | decide) ?_
      refine PW_putI (pc' := 71) dX2_clear_68 rfl fX2_34 w2_7 rfl rfl ?_
      refine PW_aload0 (pc' := 72) dX2_clear_71 rfl ?_
      refine PW_iconst (pc' := 73) dX2_clear_72 rfl (v := 0) (by first | rfl | decide) ?_
      refine PW_putI (pc' := 76) dX2_clear_73 rfl fX2_37 w2_8 rfl rfl ?_
      refine PW_aload0 (pc' := 77) dX2_clear_76 rfl ?_
      refine PW_iconst (pc' := 78) dX2_clear_77 rfl (v := 0) (by first | rfl | decide) ?_
      refine PW_putI (pc' := 81) dX2_clear_78 rfl fX2_40 w2_9 rfl rfl ?_
      refine PW_aload0 (pc' := 82) dX2_clear_81 rfl ?_
      refine PW_iconst (pc' := 83) dX2_clear_82 rfl (v := 0) (by first | rfl | decide) ?_
      refine PW_putI (pc' := 86) dX2_clear_83 rfl fX2_43 w2_10 rfl rfl ?_
      refine PW_return dX2_clear_86 rfl ?_
      refine ⟨rfl, ⟨?_, ?_, ?_, by decide, fun h hh => ⟨?_, ?_, ?_, by show (0 : Nat) < 64; decide⟩⟩, ⟨?_, ?_, by decide, fun h hh => ⟨?_, by show (0 : Nat) < 64; decide, ?_, by show (0 : Nat) < 64; decide⟩⟩, ?_⟩
      · simp [pv_up_at]; rfl
      · simp [pv_up_at]; rfl
      · simp [pv_up_at]; rfl
      · simp [pv_up_at, (hall h hh).1]; rfl
      · simp [pv_up_at, (hall h hh).2.1]; rfl
      · simp [pv_up_at, (hall h hh).2.2.1]; rfl
      · simp [pv_up_at]; rfl
      · simp [pv_up_at]; rfl
      · simp [pv_up_at, (hall h hh).2.2.2.1]; rfl
      · simp [pv_up_at, (hall h hh).2.2.2.2]; rfl
      · exact ((((hfr.up (by decide)).up (by decide)).up (by decide)).up (by decide)).up (by decide)
    · have hj6 : j < 6 := s_bnd (by omega) (by omega) h5
      refine PW_aload0 (pc' := 9) dX2_clear_8 rfl ?_
      refine PW_getR (pc' := 12) dX2_clear_9 rfl fX2_9 rfl rfl ?_
      refine PW_iload1 (pc' := 13) dX2_clear_12 rfl ?_
      refine PW_bipush (pc' := 15) dX2_clear_13 rfl (v := -9) (by first | rfl | decide) ?_
      refine PW_iastn (pc' := 16) dX2_clear_15 rfl rfl rfl (by omega) ?_
      refine PW_aload0 (pc' := 17) dX2_clear_16 rfl ?_
      refine PW_getR (pc' := 20) dX2_clear_17 rfl fX2_15 rfl rfl ?_
      refine PW_iload1 (pc' := 21) dX2_clear_20 rfl ?_
      refine PW_bipush (pc' := 23) dX2_clear_21 rfl (v := -9) (by first | rfl | decide) ?_
      refine PW_iastn (pc' := 24) dX2_clear_23 rfl rfl rfl (by omega) ?_
      refine PW_aload0 (pc' := 25) dX2_clear_24 rfl ?_
      refine PW_getR (pc' := 28) dX2_clear_25 rfl fX2_18 rfl rfl ?_
      refine PW_iload1 (pc' := 29) dX2_clear_28 rfl ?_
      refine PW_bipush (pc' := 31) dX2_clear_29 rfl (v := -9) (by first | rfl | decide) ?_
      refine PW_iastn (pc' := 32) dX2_clear_31 rfl rfl rfl (by omega) ?_
      refine PW_aload0 (pc' := 33) dX2_clear_32 rfl ?_
      refine PW_getR (pc' := 36) dX2_clear_33 rfl fX2_21 rfl rfl ?_
      refine PW_iload1 (pc' := 37) dX2_clear_36 rfl ?_
      refine PW_iconst (pc' := 38) dX2_clear_37 rfl (v := 0) (by first | rfl | decide) ?_
      refine PW_iastn (pc' := 39) dX2_clear_38 rfl rfl rfl (by omega) ?_
      refine PW_aload0 (pc' := 40) dX2_clear_39 rfl ?_
      refine PW_getR (pc' := 43) dX2_clear_40 rfl fX2_24 rfl rfl ?_
      refine PW_iload1 (pc' := 44) dX2_clear_43 rfl ?_
      refine PW_iconst (pc' := 45) dX2_clear_44 rfl (v := 0) (by first | rfl | decide) ?_
      refine PW_iastn (pc' := 46) dX2_clear_45 rfl rfl rfl (by omega) ?_
      refine PW_aload0 (pc' := 47) dX2_clear_46 rfl ?_
      refine PW_getR (pc' := 50) dX2_clear_47 rfl fX2_27 rfl rfl ?_
      refine PW_iload1 (pc' := 51) dX2_clear_50 rfl ?_
      refine PW_iconst (pc' := 52) dX2_clear_51 rfl (v := 0) (by first | rfl | decide) ?_
      refine PW_iastn (pc' := 53) dX2_clear_52 rfl rfl rfl (by omega) ?_
      refine PW_iinc1 (pc' := 56) dX2_clear_53 rfl rfl rfl nI_inc ?_
      refine PW_goto (tgt := 2) dX2_clear_56 rfl ?_
      refine ih (m - 1) (by omega) (j + 1) _ (by omega) ?_ (fun h hh => ?_)
      · exact (((((hfr.up (by decide)).up (by decide)).up (by decide)).up (by decide)).up (by decide)).up (by decide)
      · by_cases hq : h = j
        · subst hq
          simp [pv_up_at]
        · have := hall h (by omega)
          simp [pv_up_at, hq, this]
set_option maxHeartbeats 4000000 in
theorem c_X2_clear {Γ : pv_G} {d : Nat} {M : pv_M}  : Ct Γ d vX2_clear [.ref 21] M (fun r M' => r = none ∧ (SX M' s_S0 ∧ KX M' s_K0 ∧ fr [21, 22, 23, 24, 25, 26, 27] M M')) := by
  refine Ct.of oX2_clear.1 rfl (pad := 1) rfl ?_
  show PW Γ d vX2_clear 0 [.ref 21, .null] [] M _
  refine PW_iconst (pc' := 1) dX2_clear_0 rfl (v := nI 0) (by first | rfl | decide) ?_
  refine PW_istore1 (pc' := 2) dX2_clear_1 rfl rfl rfl ?_
  exact l_X2_clear 6 0 M (by omega) fr.rf (fun h hh => absurd hh (Nat.not_lt_zero h))
