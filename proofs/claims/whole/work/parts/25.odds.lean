/-! the class: laws, used, odds by a told round -/
def s_lawm (H : s_H) (r : Nat → Option Nat) (v : Int32) : Nat → Nat
  | 0 => 0
  | k + 1 => if nI (s_take H k r 6) = v then s_lawm H r v k ||| 2 ^ k else s_lawm H r v k
theorem s_lawm_lt (H : s_H) (r : Nat → Option Nat) (v : Int32) : ∀ k, k ≤ 6 → s_lawm H r v k < 64
  | 0, _ => by simp [s_lawm]
  | k + 1, hk => by
    have ih := s_lawm_lt H r v k (by omega)
    simp only [s_lawm]
    split
    · exact (bt_or _ ih k (by omega)).2
    · exact ih
def op_laws (k l i v : Int32) (a : s_A) : s_O :=
  let o := a_hear k l i (s_rng v 0 999) a
  let r := s_rw a (ix k) (ix i)
  (if o.1 = 0 then (if (s_wrong a.1 r 6).isSome = true then s_wans (s_wrong a.1 r 6) else nI (s_lawm a.1 r v 4)) else o.1, a_flt a o.2)
/-- how many of the first k sets of hours miss v together with b -/
def s_cnt (b : Int32) (hic : Nat) (v : Int32) : Nat → Nat
  | 0 => 0
  | k + 1 => if b + nI (s_pop (k &&& hic)) = v then s_cnt b hic v k + 1 else s_cnt b hic v k
theorem s_cnt_le (b : Int32) (hic : Nat) (v : Int32) : ∀ k, s_cnt b hic v k ≤ k
  | 0 => Nat.le_refl _
  | k + 1 => by
    have := s_cnt_le b hic v k
    simp only [s_cnt]
    split <;> omega
def s_base (H : s_H) (r : Nat → Option Nat) (t : Nat) : Int32 := nI (s_miss H r 6) - nI (s_pop (H.2.2.2 4 t &&& s_hic H r t 6))
def op_used (t k l i v : Int32) (a : s_A) : s_O :=
  if s_hb a t = true then
    (let o := a_hear k l i (s_rng v 0 999) a
     let r := s_rw a (ix k) (ix i)
     (if o.1 = 0 then (if (s_wrong a.1 r 6).isSome = true then s_wans (s_wrong a.1 r 6) else nI (s_cnt (s_base a.1 r (ix t)) (s_hic a.1 r (ix t) 6) v 64)) else o.1, a_flt a o.2))
  else (-1, a_flt a 0)
/-- ways: how many of all sets of u uses have fewer than k -/
def s_ways (u : Nat) : Nat → Int64 × Int64
  | 0 => (0, 1)
  | k + 1 => ((s_ways u k).1 + (s_ways u k).2, (s_ways u k).2 * (nI u - nI k).toInt64 / (nI k + 1).toInt64)
/-- halved while the upper number is even, k times at most -/
def s_half : Nat → Int64 → Int64 → Int64 × Int64
  | 0, x, y => (x, y)
  | k + 1, x, y => if x - x / 2 * 2 = 0 then s_half k (x / 2) (y / 2) else (x, y)
def s_odds (u v : Nat) : Int64 × Int64 := s_half u (s_ways u (min v u + 1)).1 ((1 : Int64) <<< ((nI u).toInt64 &&& 63))
def op_odds (k l i v w : Int32) (a : s_A) : Int64 × s_A :=
  let o := a_hear k l i (s_rng v 0 30 && s_rng w 0 1) a
  let r := s_rw a (ix k) (ix i)
  (if o.1 = 0 then (if (s_wrong a.1 r 6).isSome = true then v_lost else if w = 0 then (s_odds (s_miss a.1 r 6) (ix v)).1 else (s_odds (s_miss a.1 r 6) (ix v)).2) else v_lost, a_flt a o.2)
theorem a_heard_AX {a : s_A} {k i : Int32} {o : Int32 × Int32} {M M' : pv_M} (h : a_heard a k i o M M') : AX M' (a_flt a o.2) := h.1
set_option maxHeartbeats 4000000 in
theorem l_X6_laws {Γ : pv_G} {d : Nat} {a : s_A} {k l i v : Int32} {M0 M : pv_M} {x6 : Int32} (ho0 : (a_hear k l i (s_rng v 0 999) a).1 = 0) (hw : s_wrong a.1 (s_rw a (ix k) (ix i)) 6 = none) (hA1 : AX M (a_flt a (a_hear k l i (s_rng v 0 999) a).2)) (hF1 : frX M0 M) (hrow : s_row M 28 6 a.1.1 (s_rw a (ix k) (ix i))) : ∀ (m j : Nat), j + m = 4 →
    PW Γ (d + 4) vX6_laws 67 [.ref 0, .int k, .int l, .int i, .int v, .int 0, .int x6, .int (nI (s_lawm a.1 (s_rw a (ix k) (ix i)) v j)), .int (nI j)] [] M (o_X (op_laws k l i v a) M0) := by
  have hH1 : HX M a.1 := hA1.1
  intro m
  induction m using Nat.strongRecOn with
  | ind m ih =>
    intro j hjm
    refine PW_iload8 (pc' := 69) dX6_laws_67 rfl ?_
    refine PW_iconst (pc' := 70) dX6_laws_69 rfl (v := nI 4) (by first | rfl | decide) ?_
    refine PW_icmp_ge (tgt := 106) (pc' := 73) dX6_laws_70 rfl rfl (fun h70 => ?_) (fun h70 => ?_)
    · have hj : j = 4 := by have := s_bge (by omega) (by omega) h70; omega
      subst hj
      refine PW_iload7 (pc' := 108) dX6_laws_106 rfl ?_
      refine PW_ireturn .int dX6_laws_108 rfl rfl ?_
      refine ⟨?_, hA1, hF1⟩
      simp only [op_laws]
      rw [if_pos ho0, hw, if_neg (by decide)]
    · have hj : j < 4 := s_bnd (by omega) (by omega) h70
      refine PW_aload0 (pc' := 74) dX6_laws_73 rfl ?_
      refine PW_getR (pc' := 77) dX6_laws_74 rfl fX6_21 rfl rfl ?_
      refine PW_aload0 (pc' := 78) dX6_laws_77 rfl ?_
      refine PW_getR (pc' := 81) dX6_laws_78 rfl fX6_39 rfl rfl ?_
      refine PW_iload8 (pc' := 83) dX6_laws_81 rfl ?_
      refine PW_callV2f (pc' := 86) dX6_laws_83 rfl oX0_takingsBy lX6_131 rfl rfl rfl (Nat.le_of_ble_eq_true rfl) (c_X0_takingsBy (pl := 28) rfl (show j ≤ 3 by omega) hH1 hrow) ?_
      refine PW_iload4 (pc' := 88) dX6_laws_86 rfl ?_
      refine PW_icmp_ne (tgt := 100) (pc' := 91) dX6_laws_88 rfl rfl (fun h88 => ?_) (fun h88 => ?_)
      · have e : s_lawm a.1 (s_rw a (ix k) (ix i)) v (j + 1) = s_lawm a.1 (s_rw a (ix k) (ix i)) v j := by simp [s_lawm, h88]
        refine PW_iinc8 (pc' := 103) dX6_laws_100 rfl rfl rfl nI_inc ?_
        refine PW_goto (tgt := 67) dX6_laws_103 rfl ?_
        rw [← e]
        exact ih (m - 1) (by omega) (j + 1) (by omega)
      · have e : s_lawm a.1 (s_rw a (ix k) (ix i)) v (j + 1) = s_lawm a.1 (s_rw a (ix k) (ix i)) v j ||| 2 ^ j := by simp [s_lawm, h88]
        refine PW_iload7 (pc' := 93) dX6_laws_91 rfl ?_
        refine PW_iconst (pc' := 94) dX6_laws_93 rfl (v := 1) (by first | rfl | decide) ?_
        refine PW_iload8 (pc' := 96) dX6_laws_94 rfl ?_
        refine PW_ishl (pc' := 97) dX6_laws_96 rfl ?_
        refine PW_ior (pc' := 98) dX6_laws_97 rfl ?_
        rw [(bt_or _ (s_lawm_lt _ _ _ j (by omega)) j (by omega)).1]
        refine PW_istore7 (pc' := 100) dX6_laws_98 rfl rfl rfl ?_
        refine PW_iinc8 (pc' := 103) dX6_laws_100 rfl rfl rfl nI_inc ?_
        refine PW_goto (tgt := 67) dX6_laws_103 rfl ?_
        rw [← e]
        exact ih (m - 1) (by omega) (j + 1) (by omega)
set_option maxHeartbeats 4000000 in
theorem l_X6_laws_j {Γ : pv_G} {d : Nat} {a : s_A} {k l i v : Int32} {ok : Bool} {M : pv_M} (hA : AX M a) (hq : ok = s_rng v 0 999) : PW Γ (d + 4) vX6_laws 22 [.ref 0, .int k, .int l, .int i, .int v, .null, .null, .null, .null] [.int (bi ok), .int i, .int l, .int k, .ref 0] M (o_X (op_laws k l i v a) M) := by
  obtain ⟨hH, hR, hSh, hfl, htr⟩ := id hA
  obtain ⟨hok, hc1, hc2, hc3, hf⟩ := id hH
  have hn5 := hok.1
  subst hq
  refine PW_callV4r (pc' := 25) dX6_laws_22 rfl oX6_hearRound lX6_117 rfl rfl rfl (Nat.le_of_ble_eq_true rfl) (c_X6_hearRound hA) (fun M1 hM1 => ?_)
  obtain ⟨hA1, hF1, hrw⟩ := hM1
  have hH1 : HX M1 a.1 := hA1.1
  refine PW_istore5 (pc' := 27) dX6_laws_25 rfl rfl rfl ?_
  refine PW_iload5 (pc' := 29) dX6_laws_27 rfl ?_
  refine PW_if_eq (tgt := 35) (pc' := 32) dX6_laws_29 rfl rfl (fun h29 => ?_) (fun h29 => ?_)
  · refine PW_aload0 (pc' := 36) dX6_laws_35 rfl ?_
    refine PW_getR (pc' := 39) dX6_laws_36 rfl fX6_21 rfl rfl ?_
    refine PW_aload0 (pc' := 40) dX6_laws_39 rfl ?_
    refine PW_getR (pc' := 43) dX6_laws_40 rfl fX6_39 rfl rfl ?_
    refine PW_callV1f (pc' := 46) dX6_laws_43 rfl oX0_firstWrong lX6_121 rfl rfl rfl (Nat.le_of_ble_eq_true rfl) (c_X0_firstWrong (pl := 28) rfl hH1 (hrw h29)) ?_
    refine PW_istore6 (pc' := 48) dX6_laws_46 rfl rfl rfl ?_
    refine PW_iload6 (pc' := 50) dX6_laws_48 rfl ?_
    refine PW_bipush (pc' := 52) dX6_laws_50 rfl (v := -9) (by first | rfl | decide) ?_
    refine PW_icmp_eq (tgt := 61) (pc' := 55) dX6_laws_52 rfl rfl (fun h52 => ?_) (fun h52 => ?_)
    · have q5 := s_oI_none h52
      refine PW_iconst (pc' := 62) dX6_laws_61 rfl (v := nI (s_lawm a.1 (s_rw a (ix k) (ix i)) v 0)) (by first | rfl | decide) ?_
      refine PW_istore7 (pc' := 64) dX6_laws_62 rfl rfl rfl ?_
      refine PW_iconst (pc' := 65) dX6_laws_64 rfl (v := nI 0) (by first | rfl | decide) ?_
      refine PW_istore8 (pc' := 67) dX6_laws_65 rfl rfl rfl ?_
      have hgo := l_X6_laws (Γ := Γ) (d := d) (x6 := s_oI (s_wrong a.1 (s_rw a (ix k) (ix i)) 6)) h29 q5 hA1 hF1 (hrw h29) 4 0 (by omega)
      rw [h29]
      exact hgo
    · have q5 := s_oI_some h52
      refine PW_bipush (pc' := 57) dX6_laws_55 rfl (v := -100) (by first | rfl | decide) ?_
      refine PW_iload6 (pc' := 59) dX6_laws_57 rfl ?_
      refine PW_isub (pc' := 60) dX6_laws_59 rfl ?_
      refine PW_ireturn .int dX6_laws_60 rfl rfl ?_
      refine ⟨?_, hA1, hF1⟩
      simp only [op_laws]
      rw [if_pos h29, if_pos q5]
      rfl
  · refine PW_iload5 (pc' := 34) dX6_laws_32 rfl ?_
    refine PW_ireturn .int dX6_laws_34 rfl rfl ?_
    refine ⟨?_, hA1, hF1⟩
    simp only [op_laws]
    rw [if_neg h29]
set_option maxHeartbeats 4000000 in
theorem c_X6_laws {Γ : pv_G} {d : Nat} {M : pv_M} {a : s_A} {k l i v : Int32} (hA : AX M a) : Ct Γ (d + 4) vX6_laws [.ref 0, .int k, .int l, .int i, .int v] M (o_X (op_laws k l i v a) M) := by
  obtain ⟨hH, hR, hSh, hfl, htr⟩ := id hA
  obtain ⟨hok, hc1, hc2, hc3, hf⟩ := id hH
  have hn5 := hok.1
  refine Ct.of oX6_laws.1 rfl (pad := 4) rfl ?_
  show PW Γ (d + 4) vX6_laws 0 [.ref 0, .int k, .int l, .int i, .int v, .null, .null, .null, .null] [] M _
  refine PW_aload0 (pc' := 1) dX6_laws_0 rfl ?_
  refine PW_iload1 (pc' := 2) dX6_laws_1 rfl ?_
  refine PW_iload2 (pc' := 3) dX6_laws_2 rfl ?_
  refine PW_iload3 (pc' := 4) dX6_laws_3 rfl ?_
  refine PW_iload4 (pc' := 6) dX6_laws_4 rfl ?_
  refine PW_if_lt (tgt := 21) (pc' := 9) dX6_laws_6 rfl rfl (fun h6 => ?_) (fun h6 => ?_)
  · rw [z_lt] at h6
    have qv : s_rng v 0 999 = false := by
      simp only [s_rng, Bool.and_eq_false_iff, decide_eq_false_iff_not]
      omega
    refine PW_iconst (pc' := 22) dX6_laws_21 rfl (v := 0) (by first | rfl | decide) ?_
    first
      | exact l_X6_laws_j (ok := true) hA qv.symm
      | exact l_X6_laws_j (ok := false) hA qv.symm
  · rw [z_lt] at h6
    refine PW_iload4 (pc' := 11) dX6_laws_9 rfl ?_
    refine PW_sipush (pc' := 14) dX6_laws_11 rfl (v := nI 999) (by first | rfl | decide) ?_
    refine PW_icmp_gt (tgt := 21) (pc' := 17) dX6_laws_14 rfl rfl (fun h14 => ?_) (fun h14 => ?_)
    · simp only [Int32.lt_iff_toInt_lt, Int32.le_iff_toInt_le, nI_toInt (show 999 < 2 ^ 31 by decide), Int.cast_ofNat_Int] at h14
      have qv : s_rng v 0 999 = false := by
        simp only [s_rng, Bool.and_eq_false_iff, decide_eq_false_iff_not]
        omega
      refine PW_iconst (pc' := 22) dX6_laws_21 rfl (v := 0) (by first | rfl | decide) ?_
      first
        | exact l_X6_laws_j (ok := true) hA qv.symm
        | exact l_X6_laws_j (ok := false) hA qv.symm
    · simp only [Int32.lt_iff_toInt_lt, Int32.le_iff_toInt_le, nI_toInt (show 999 < 2 ^ 31 by decide), Int.cast_ofNat_Int] at h14
      have qv : s_rng v 0 999 = true := by
        simp only [s_rng, Bool.and_eq_true, decide_eq_true_eq]
        omega
      refine PW_iconst (pc' := 18) dX6_laws_17 rfl (v := 1) (by first | rfl | decide) ?_
      refine PW_goto (tgt := 22) dX6_laws_18 rfl ?_
      first
        | exact l_X6_laws_j (ok := true) hA qv.symm
        | exact l_X6_laws_j (ok := false) hA qv.symm
set_option maxHeartbeats 4000000 in
theorem l_X6_used {Γ : pv_G} {d hic : Nat} {o : s_O} {b v : Int32} {M0 M : pv_M} {x1 x2 x3 x4 x7 : Int32} (hlt : hic < 64) (hq : o_X o M0 (some (.int (nI (s_cnt b hic v 64)))) M) : ∀ (m x : Nat), x + m = 64 →
    PW Γ (d + 3) vX6_used 132 [.ref 0, .int x1, .int x2, .int x3, .int x4, .int v, .int 0, .int x7, .int (nI hic), .int b, .int (nI (s_cnt b hic v x)), .int (nI x)] [] M (o_X o M0) := by
  intro m
  induction m using Nat.strongRecOn with
  | ind m ih =>
    intro x hxm
    refine PW_iload11 (pc' := 134) dX6_used_132 rfl ?_
    refine PW_bipush (pc' := 136) dX6_used_134 rfl (v := nI 64) (by first | rfl | decide) ?_
    refine PW_icmp_ge (tgt := 164) (pc' := 139) dX6_used_136 rfl rfl (fun h136 => ?_) (fun h136 => ?_)
    · have hx : x = 64 := by have := s_bge (by omega) (by omega) h136; omega
      subst hx
      refine PW_iload10 (pc' := 166) dX6_used_164 rfl ?_
      refine PW_ireturn .int dX6_used_166 rfl rfl ?_
      exact hq
    · have hx : x < 64 := s_bnd (by omega) (by omega) h136
      refine PW_iload9 (pc' := 141) dX6_used_139 rfl ?_
      refine PW_iload11 (pc' := 143) dX6_used_141 rfl ?_
      refine PW_iload8 (pc' := 145) dX6_used_143 rfl ?_
      refine PW_iand (pc' := 146) dX6_used_145 rfl ?_
      rw [bt_and _ hx _ hlt]
      refine PW_callS1f (pc' := 149) dX6_used_146 rfl oJ6_bitCount_0f7a4 lX6_185 (Nat.le_of_ble_eq_true rfl) (c_J6_bitCount_0f7a4 (s_and_lt hx)) ?_
      refine PW_iadd (pc' := 150) dX6_used_149 rfl ?_
      refine PW_iload5 (pc' := 152) dX6_used_150 rfl ?_
      refine PW_icmp_ne (tgt := 158) (pc' := 155) dX6_used_152 rfl rfl (fun h152 => ?_) (fun h152 => ?_)
      · have e : s_cnt b hic v (x + 1) = s_cnt b hic v x := by simp [s_cnt, h152]
        refine PW_iinc11 (pc' := 161) dX6_used_158 rfl rfl rfl nI_inc ?_
        refine PW_goto (tgt := 132) dX6_used_161 rfl ?_
        rw [← e]
        exact ih (m - 1) (by omega) (x + 1) (by omega)
      · have e : s_cnt b hic v (x + 1) = s_cnt b hic v x + 1 := by simp [s_cnt, h152]
        refine PW_iinc10 (pc' := 158) dX6_used_155 rfl rfl rfl nI_inc ?_
        refine PW_iinc11 (pc' := 161) dX6_used_158 rfl rfl rfl nI_inc ?_
        refine PW_goto (tgt := 132) dX6_used_161 rfl ?_
        rw [← e]
        exact ih (m - 1) (by omega) (x + 1) (by omega)
set_option maxHeartbeats 4000000 in
theorem l_X6_used_j {Γ : pv_G} {d : Nat} {a : s_A} {j : Nat} {k l i v : Int32} {M0 : pv_M} {ok : Bool} {M : pv_M} (hj : j < a.1.1) (qh : s_hb a (nI j) = true) (hA : AX M a) (hq : ok = s_rng v 0 999) : PW Γ (d + 3) vX6_used 41 [.ref 0, .int (nI j), .int k, .int l, .int i, .int v, .null, .null, .null, .null, .null, .null] [.int (bi ok), .int i, .int l, .int k, .ref 0] M (o_X (op_used (nI j) k l i v a) M) := by
  obtain ⟨hH, hR, hSh, hfl, htr⟩ := id hA
  obtain ⟨hok, hc1, hc2, hc3, hf⟩ := id hH
  have hn5 := hok.1
  subst hq
  refine PW_callV4r (pc' := 44) dX6_used_41 rfl oX6_hearRound lX6_117 rfl rfl rfl (Nat.le_of_ble_eq_true rfl) (c_X6_hearRound hA) (fun M1 hM1 => ?_)
  obtain ⟨hA1, hF1, hrw⟩ := hM1
  have hH1 : HX M1 a.1 := hA1.1
  have hu := (hok.2.2.2 j hj).2.2.2.2
  have hj2 : j < 2 ^ 31 := by omega
  refine PW_istore6 (pc' := 46) dX6_used_44 rfl rfl rfl ?_
  refine PW_iload6 (pc' := 48) dX6_used_46 rfl ?_
  refine PW_if_eq (tgt := 54) (pc' := 51) dX6_used_48 rfl rfl (fun h48 => ?_) (fun h48 => ?_)
  · refine PW_aload0 (pc' := 55) dX6_used_54 rfl ?_
    refine PW_getR (pc' := 58) dX6_used_55 rfl fX6_21 rfl rfl ?_
    refine PW_aload0 (pc' := 59) dX6_used_58 rfl ?_
    refine PW_getR (pc' := 62) dX6_used_59 rfl fX6_39 rfl rfl ?_
    refine PW_callV1f (pc' := 65) dX6_used_62 rfl oX0_firstWrong lX6_121 rfl rfl rfl (Nat.le_of_ble_eq_true rfl) (c_X0_firstWrong (pl := 28) rfl hH1 (hrw h48)) ?_
    refine PW_istore7 (pc' := 67) dX6_used_65 rfl rfl rfl ?_
    refine PW_iload7 (pc' := 69) dX6_used_67 rfl ?_
    refine PW_bipush (pc' := 71) dX6_used_69 rfl (v := -9) (by first | rfl | decide) ?_
    refine PW_icmp_eq (tgt := 80) (pc' := 74) dX6_used_71 rfl rfl (fun h71 => ?_) (fun h71 => ?_)
    · have q5 := s_oI_none h71
      refine PW_aload0 (pc' := 81) dX6_used_80 rfl ?_
      refine PW_getR (pc' := 84) dX6_used_81 rfl fX6_21 rfl rfl ?_
      refine PW_aload0 (pc' := 85) dX6_used_84 rfl ?_
      refine PW_getR (pc' := 88) dX6_used_85 rfl fX6_39 rfl rfl ?_
      refine PW_iload1 (pc' := 89) dX6_used_88 rfl ?_
      refine PW_callV2f (pc' := 92) dX6_used_89 rfl oX0_hoursInCase lX6_182 rfl rfl rfl (Nat.le_of_ble_eq_true rfl) (c_X0_hoursInCase (pl := 28) rfl hj hH1 (hrw h48)) ?_
      refine PW_istore8 (pc' := 94) dX6_used_92 rfl rfl rfl ?_
      refine PW_aload0 (pc' := 95) dX6_used_94 rfl ?_
      refine PW_getR (pc' := 98) dX6_used_95 rfl fX6_21 rfl rfl ?_
      refine PW_aload0 (pc' := 99) dX6_used_98 rfl ?_
      refine PW_getR (pc' := 102) dX6_used_99 rfl fX6_39 rfl rfl ?_
      refine PW_callV1f (pc' := 105) dX6_used_102 rfl oX0_missedBy lX6_128 rfl rfl rfl (Nat.le_of_ble_eq_true rfl) (c_X0_missedBy (pl := 28) rfl hH1 (hrw h48)) ?_
      refine PW_aload0 (pc' := 106) dX6_used_105 rfl ?_
      refine PW_getR (pc' := 109) dX6_used_106 rfl fX6_21 rfl rfl ?_
      refine PW_getR (pc' := 112) dX6_used_109 rfl fX6_82 rfl rfl ?_
      refine PW_iload1 (pc' := 113) dX6_used_112 rfl ?_
      refine PW_aald3 (pc' := 114) dX6_used_113 rfl (by omega) ?_
      refine PW_getI (pc' := 117) dX6_used_114 rfl fX6_100 (pv_lay_thing (by omega)) rfl ?_
      rw [hH1.2.2.2.2 j hj 4 (by decide)]
      refine PW_iload8 (pc' := 119) dX6_used_117 rfl ?_
      refine PW_iand (pc' := 120) dX6_used_119 rfl ?_
      rw [bt_and _ hu _ (s_hic_lt 6)]
      refine PW_callS1f (pc' := 123) dX6_used_120 rfl oJ6_bitCount_0f7a4 lX6_185 (Nat.le_of_ble_eq_true rfl) (c_J6_bitCount_0f7a4 (s_and_lt hu)) ?_
      refine PW_isub (pc' := 124) dX6_used_123 rfl ?_
      refine PW_istore9 (pc' := 126) dX6_used_124 rfl rfl rfl ?_
      refine PW_iconst (pc' := 127) dX6_used_126 rfl (v := nI 0) (by first | rfl | decide) ?_
      refine PW_istore10 (pc' := 129) dX6_used_127 rfl rfl rfl ?_
      refine PW_iconst (pc' := 130) dX6_used_129 rfl (v := nI 0) (by first | rfl | decide) ?_
      refine PW_istore11 (pc' := 132) dX6_used_130 rfl rfl rfl ?_
      rw [h48]
      refine l_X6_used (b := s_base a.1 (s_rw a (ix k) (ix i)) j) (s_hic_lt 6) ?_ 64 0 (by omega)
      refine ⟨?_, ?_, hF1⟩
      · simp only [op_used]
        rw [if_pos qh, if_pos h48, q5, if_neg (by decide), ix_nI hj2]
      · simp only [op_used]
        rw [if_pos qh]
        exact hA1
    · have q5 := s_oI_some h71
      refine PW_bipush (pc' := 76) dX6_used_74 rfl (v := -100) (by first | rfl | decide) ?_
      refine PW_iload7 (pc' := 78) dX6_used_76 rfl ?_
      refine PW_isub (pc' := 79) dX6_used_78 rfl ?_
      refine PW_ireturn .int dX6_used_79 rfl rfl ?_
      refine ⟨?_, ?_, hF1⟩
      · simp only [op_used]
        rw [if_pos qh, if_pos h48, if_pos q5]
        rfl
      · simp only [op_used]
        rw [if_pos qh]
        exact hA1
  · refine PW_iload6 (pc' := 53) dX6_used_51 rfl ?_
    refine PW_ireturn .int dX6_used_53 rfl rfl ?_
    refine ⟨?_, ?_, hF1⟩
    · simp only [op_used]
      rw [if_pos qh, if_neg h48]
    · simp only [op_used]
      rw [if_pos qh]
      exact hA1
theorem a_flt_flt (a : s_A) (f g : Int32) : a_flt (a_flt a f) g = a_flt a g := rfl
theorem op_used_flt (t k l i v : Int32) (a : s_A) (f : Int32) : op_used t k l i v (a_flt a f) = op_used t k l i v a := rfl
theorem o_X_frX {o : s_O} {M0 M1 : pv_M} (h : frX M0 M1) {r : Option Value} {M : pv_M} (q : o_X o M1 r M) : o_X o M0 r M := ⟨q.1, q.2.1, h.tr q.2.2⟩
set_option maxHeartbeats 4000000 in
theorem c_X6_used {Γ : pv_G} {d : Nat} {M : pv_M} {a : s_A} {t k l i v : Int32} (hA : AX M a) : Ct Γ (d + 3) vX6_used [.ref 0, .int t, .int k, .int l, .int i, .int v] M (o_X (op_used t k l i v a) M) := by
  obtain ⟨hH, hR, hSh, hfl, htr⟩ := id hA
  obtain ⟨hok, hc1, hc2, hc3, hf⟩ := id hH
  have hn5 := hok.1
  refine Ct.of oX6_used.1 rfl (pad := 6) rfl ?_
  show PW Γ (d + 3) vX6_used 0 [.ref 0, .int t, .int k, .int l, .int i, .int v, .null, .null, .null, .null, .null, .null] [] M _
  refine PW_aload0 (pc' := 1) dX6_used_0 rfl ?_
  refine PW_iconst (pc' := 2) dX6_used_1 rfl (v := 0) (by first | rfl | decide) ?_
  refine PW_putI (pc' := 5) dX6_used_2 rfl fX6_43 w5_5 rfl rfl ?_
  generalize hM1 : pv_up M 0 5 0 = M1
  have hA1 : AX M1 (a_flt a 0) := by rw [← hM1]; exact hA.fault 0
  have hF1 : frX M M1 := by rw [← hM1]; exact frX.rf.up (by decide)
  have hH1 : HX M1 a.1 := hA1.1
  have hc11 : M1 10 1 = nI a.1.1 := hH1.2.1
  have hS1 : ∀ k, k < 4 → s_sh M1 k (a.2.2.1 k) (a.2.2.2.1 k) := hA1.2.2.1
  refine PW_aload0 (pc' := 6) dX6_used_5 rfl ?_
  refine PW_getR (pc' := 9) dX6_used_6 rfl fX6_21 rfl rfl ?_
  refine PW_iload1 (pc' := 10) dX6_used_9 rfl ?_
  refine PW_callV1f (pc' := 13) dX6_used_10 rfl oX0_has lX6_79 rfl rfl rfl (Nat.le_of_ble_eq_true rfl) (c_X0_hasb hn5 hc11) ?_
  refine PW_if_ne (tgt := 18) (pc' := 16) dX6_used_13 rfl rfl (fun h13 => ?_) (fun h13 => ?_)
  · have q := bi_t h13
    obtain ⟨j, hj, rfl⟩ := s_hb_of hn5 q
    have hj2 : j < 2 ^ 31 := by omega
    have qh : s_hb a (nI j) = true := q
    refine PW_aload0 (pc' := 19) dX6_used_18 rfl ?_
    refine PW_iload2 (pc' := 20) dX6_used_19 rfl ?_
    refine PW_iload3 (pc' := 21) dX6_used_20 rfl ?_
    refine PW_iload4 (pc' := 23) dX6_used_21 rfl ?_
    refine PW_iload5 (pc' := 25) dX6_used_23 rfl ?_
    refine PW_if_lt (tgt := 40) (pc' := 28) dX6_used_25 rfl rfl (fun h25 => ?_) (fun h25 => ?_)
    · rw [z_lt] at h25
      have qv : s_rng v 0 999 = false := by
        simp only [s_rng, Bool.and_eq_false_iff, decide_eq_false_iff_not]
        omega
      refine PW_iconst (pc' := 41) dX6_used_40 rfl (v := 0) (by first | rfl | decide) ?_
      first
        | exact PW.mono (fun r M h => o_X_frX hF1 h) (l_X6_used_j (a := a_flt a 0) (ok := true) (M0 := M) hj qh hA1 qv.symm)
        | exact PW.mono (fun r M h => o_X_frX hF1 h) (l_X6_used_j (a := a_flt a 0) (ok := false) (M0 := M) hj qh hA1 qv.symm)
    · rw [z_lt] at h25
      refine PW_iload5 (pc' := 30) dX6_used_28 rfl ?_
      refine PW_sipush (pc' := 33) dX6_used_30 rfl (v := nI 999) (by first | rfl | decide) ?_
      refine PW_icmp_gt (tgt := 40) (pc' := 36) dX6_used_33 rfl rfl (fun h33 => ?_) (fun h33 => ?_)
      · simp only [Int32.lt_iff_toInt_lt, Int32.le_iff_toInt_le, nI_toInt (show 999 < 2 ^ 31 by decide), Int.cast_ofNat_Int] at h33
        have qv : s_rng v 0 999 = false := by
          simp only [s_rng, Bool.and_eq_false_iff, decide_eq_false_iff_not]
          omega
        refine PW_iconst (pc' := 41) dX6_used_40 rfl (v := 0) (by first | rfl | decide) ?_
        first
          | exact PW.mono (fun r M h => o_X_frX hF1 h) (l_X6_used_j (a := a_flt a 0) (ok := true) (M0 := M) hj qh hA1 qv.symm)
          | exact PW.mono (fun r M h => o_X_frX hF1 h) (l_X6_used_j (a := a_flt a 0) (ok := false) (M0 := M) hj qh hA1 qv.symm)
      · simp only [Int32.lt_iff_toInt_lt, Int32.le_iff_toInt_le, nI_toInt (show 999 < 2 ^ 31 by decide), Int.cast_ofNat_Int] at h33
        have qv : s_rng v 0 999 = true := by
          simp only [s_rng, Bool.and_eq_true, decide_eq_true_eq]
          omega
        refine PW_iconst (pc' := 37) dX6_used_36 rfl (v := 1) (by first | rfl | decide) ?_
        refine PW_goto (tgt := 41) dX6_used_37 rfl ?_
        first
          | exact PW.mono (fun r M h => o_X_frX hF1 h) (l_X6_used_j (a := a_flt a 0) (ok := true) (M0 := M) hj qh hA1 qv.symm)
          | exact PW.mono (fun r M h => o_X_frX hF1 h) (l_X6_used_j (a := a_flt a 0) (ok := false) (M0 := M) hj qh hA1 qv.symm)
  · have q := bi_f h13
    refine PW_iconst (pc' := 17) dX6_used_16 rfl (v := -1) (by first | rfl | decide) ?_
    refine PW_ireturn .int dX6_used_17 rfl rfl ?_
    exact ⟨by simp [op_used, s_hb, q], by simpa [op_used, s_hb, q] using hA1, hF1⟩
