/-! the class: a text, told code by code -/
def v_dig (c lo hi : Int32) : Bool := !decide (c < 48 + lo) && !decide (48 + hi < c)
def s_goes (p : Nat) (bf c : Int32) : Bool :=
  if p = 0 then decide (c = 117) else if p = 1 then v_dig c 0 9 else if 37 ≤ p then false else
  if (p - 2) % 7 = 0 then decide (c = 59) else if (p - 2) % 7 = 1 then (decide (c = 116) || (decide (c = 104) || decide (c = 108))) else if (p - 2) % 7 = 2 then v_dig c 0 3 else
  if (p - 2) % 7 = 3 then v_dig c 1 9 else if (p - 2) % 7 = 4 then v_dig c 1 6 else if (p - 2) % 7 = 5 then v_dig c 0 6 else v_dig c 0 (if bf = 54 then 3 else 9)
def s_ffl (c : Nat → Int32) : Nat → Option Nat
  | 0 => none
  | k + 1 => match s_ffl c k with
    | some p => some p
    | none => if s_goes k (if k = 0 then 0 else c (k - 1)) (c k) = true then none else some k
def s_ff (c : Nat → Int32) (n : Nat) : Option Nat := match s_ffl c n with
  | some p => some p
  | none => if 2 < n ∧ (n - 2) % 7 = 0 then none else some n
theorem v_rem7 : ∀ a, a < 64 → nI a - nI a / 7 * 7 = nI (a % 7) := by decide +kernel
theorem v_div7 : ∀ a, a < 64 → nI a / 7 = nI (a / 7) := by decide +kernel
theorem v_sub2 : ∀ a, a < 64 → 2 ≤ a → nI a - 2 = nI (a - 2) := by decide +kernel
set_option maxHeartbeats 4000000 in
theorem c_X4_isDigit {Γ : pv_G} {d : Nat} {M : pv_M} {c lo hi : Int32} : Ct Γ d vX4_isDigit [.int c, .int lo, .int hi] M (pv_fn (some (.int (bi (v_dig c lo hi)))) M) := by
  refine Ct.of oX4_isDigit.1 rfl (pad := 0) rfl ?_
  show PW Γ d vX4_isDigit 0 [.int c, .int lo, .int hi] [] M _
  refine PW_iload0 (pc' := 1) dX4_isDigit_0 rfl ?_
  refine PW_bipush (pc' := 3) dX4_isDigit_1 rfl (v := 48) (by first | rfl | decide) ?_
  refine PW_iload1 (pc' := 4) dX4_isDigit_3 rfl ?_
  refine PW_iadd (pc' := 5) dX4_isDigit_4 rfl ?_
  refine PW_icmp_lt (tgt := 20) (pc' := 8) dX4_isDigit_5 rfl rfl (fun h5 => ?_) (fun h5 => ?_)
  · refine PW_iconst (pc' := 21) dX4_isDigit_20 rfl (v := 0) (by first | rfl | decide) ?_
    refine PW_ireturn .boolean dX4_isDigit_21 rfl (by first | rfl | exact bi_nar _) ?_
    refine ⟨?_, rfl⟩
    first | rw [bi_zero (show v_dig c lo hi = false by simp_all [v_dig])] | rw [bi_one (show v_dig c lo hi = true by simp_all [v_dig])]
  · refine PW_iload0 (pc' := 9) dX4_isDigit_8 rfl ?_
    refine PW_bipush (pc' := 11) dX4_isDigit_9 rfl (v := 48) (by first | rfl | decide) ?_
    refine PW_iload2 (pc' := 12) dX4_isDigit_11 rfl ?_
    refine PW_iadd (pc' := 13) dX4_isDigit_12 rfl ?_
    refine PW_icmp_gt (tgt := 20) (pc' := 16) dX4_isDigit_13 rfl rfl (fun h13 => ?_) (fun h13 => ?_)
    · refine PW_iconst (pc' := 21) dX4_isDigit_20 rfl (v := 0) (by first | rfl | decide) ?_
      refine PW_ireturn .boolean dX4_isDigit_21 rfl (by first | rfl | exact bi_nar _) ?_
      refine ⟨?_, rfl⟩
      first | rw [bi_zero (show v_dig c lo hi = false by simp_all [v_dig])] | rw [bi_one (show v_dig c lo hi = true by simp_all [v_dig])]
    · refine PW_iconst (pc' := 17) dX4_isDigit_16 rfl (v := 1) (by first | rfl | decide) ?_
      refine PW_goto (tgt := 21) dX4_isDigit_17 rfl ?_
      refine PW_ireturn .boolean dX4_isDigit_21 rfl (by first | rfl | exact bi_nar _) ?_
      refine ⟨?_, rfl⟩
      first | rw [bi_zero (show v_dig c lo hi = false by simp_all [v_dig])] | rw [bi_one (show v_dig c lo hi = true by simp_all [v_dig])]
set_option maxHeartbeats 4000000 in
theorem c_X4_goesOn {Γ : pv_G} {d : Nat} {M : pv_M} {p : Nat} {bf c : Int32} (hp : p < 64) : Ct Γ (d + 1) vX4_goesOn [.int (nI p), .int bf, .int c] M (pv_fn (some (.int (bi (s_goes p bf c)))) M) := by
  refine Ct.of oX4_goesOn.1 rfl (pad := 0) rfl ?_
  show PW Γ (d + 1) vX4_goesOn 0 [.int (nI p), .int bf, .int c] [] M _
  refine PW_iload0 (pc' := 1) dX4_goesOn_0 rfl ?_
  refine PW_if_ne (tgt := 16) (pc' := 4) dX4_goesOn_1 rfl rfl (fun h1 => ?_) (fun h1 => ?_)
  · have hp1 : p ≠ 0 := fun z => h1 (by rw [z]; rfl)
    refine PW_iload0 (pc' := 17) dX4_goesOn_16 rfl ?_
    refine PW_iconst (pc' := 18) dX4_goesOn_17 rfl (v := 1) (by first | rfl | decide) ?_
    refine PW_icmp_ne (tgt := 29) (pc' := 21) dX4_goesOn_18 rfl rfl (fun h18 => ?_) (fun h18 => ?_)
    · have hp2 : p ≠ 1 := fun z => h18 (by rw [z]; rfl)
      refine PW_iload0 (pc' := 30) dX4_goesOn_29 rfl ?_
      refine PW_bipush (pc' := 32) dX4_goesOn_30 rfl (v := 37) (by first | rfl | decide) ?_
      refine PW_icmp_lt (tgt := 37) (pc' := 35) dX4_goesOn_32 rfl rfl (fun h32 => ?_) (fun h32 => ?_)
      · have hp3 : p < 37 := (nI_ltI (b := 37) (by omega) (by decide)).mp h32
        refine PW_iload0 (pc' := 38) dX4_goesOn_37 rfl ?_
        refine PW_iconst (pc' := 39) dX4_goesOn_38 rfl (v := 2) (by first | rfl | decide) ?_
        refine PW_isub (pc' := 40) dX4_goesOn_39 rfl ?_
        rw [v_sub2 p hp (by omega)]
        refine PW_bipush (pc' := 42) dX4_goesOn_40 rfl (v := 7) (by first | rfl | decide) ?_
        refine PW_irem (pc' := 43) dX4_goesOn_42 rfl (by decide) ?_
        rw [v_rem7 _ (by omega)]
        by_cases e43_0 : nI ((p - 2) % 7) = 0
        · rw [e43_0]
          refine PW_tin (tgt := 80) dX4_goesOn_43 (by decide) (by decide) (by rfl) rfl ?_
          refine PW_iload2 (pc' := 81) dX4_goesOn_80 rfl ?_
          refine PW_bipush (pc' := 83) dX4_goesOn_81 rfl (v := 59) (by first | rfl | decide) ?_
          refine PW_icmp_ne (tgt := 90) (pc' := 86) dX4_goesOn_83 rfl rfl (fun h83 => ?_) (fun h83 => ?_)
          · refine PW_iconst (pc' := 91) dX4_goesOn_90 rfl (v := 0) (by first | rfl | decide) ?_
            refine PW_ireturn .boolean dX4_goesOn_91 rfl (by first | rfl | exact bi_nar _) ?_
            have hq : (p - 2) % 7 = 0 := nI_inj (by omega) (by decide) (e43_0.trans rfl)
            refine ⟨?_, rfl⟩
            first
              | rw [bi_zero (show s_goes p bf c = false by simp_all [s_goes, show ¬ 37 ≤ p by omega])]
              | rw [bi_one (show s_goes p bf c = true by simp_all [s_goes, show ¬ 37 ≤ p by omega])]
          · refine PW_iconst (pc' := 87) dX4_goesOn_86 rfl (v := 1) (by first | rfl | decide) ?_
            refine PW_goto (tgt := 91) dX4_goesOn_87 rfl ?_
            refine PW_ireturn .boolean dX4_goesOn_91 rfl (by first | rfl | exact bi_nar _) ?_
            have hq : (p - 2) % 7 = 0 := nI_inj (by omega) (by decide) (e43_0.trans rfl)
            refine ⟨?_, rfl⟩
            first
              | rw [bi_zero (show s_goes p bf c = false by simp_all [s_goes, show ¬ 37 ≤ p by omega])]
              | rw [bi_one (show s_goes p bf c = true by simp_all [s_goes, show ¬ 37 ≤ p by omega])]
        by_cases e43_1 : nI ((p - 2) % 7) = 1
        · rw [e43_1]
          refine PW_tin (tgt := 92) dX4_goesOn_43 (by decide) (by decide) (by rfl) rfl ?_
          refine PW_iload2 (pc' := 93) dX4_goesOn_92 rfl ?_
          refine PW_bipush (pc' := 95) dX4_goesOn_93 rfl (v := 116) (by first | rfl | decide) ?_
          refine PW_icmp_eq (tgt := 110) (pc' := 98) dX4_goesOn_95 rfl rfl (fun h95 => ?_) (fun h95 => ?_)
          · refine PW_iconst (pc' := 111) dX4_goesOn_110 rfl (v := 1) (by first | rfl | decide) ?_
            refine PW_goto (tgt := 115) dX4_goesOn_111 rfl ?_
            refine PW_ireturn .boolean dX4_goesOn_115 rfl (by first | rfl | exact bi_nar _) ?_
            have hq : (p - 2) % 7 = 1 := nI_inj (by omega) (by decide) (e43_1.trans rfl)
            refine ⟨?_, rfl⟩
            first
              | rw [bi_zero (show s_goes p bf c = false by simp_all [s_goes, show ¬ 37 ≤ p by omega])]
              | rw [bi_one (show s_goes p bf c = true by simp_all [s_goes, show ¬ 37 ≤ p by omega])]
          · refine PW_iload2 (pc' := 99) dX4_goesOn_98 rfl ?_
            refine PW_bipush (pc' := 101) dX4_goesOn_99 rfl (v := 104) (by first | rfl | decide) ?_
            refine PW_icmp_eq (tgt := 110) (pc' := 104) dX4_goesOn_101 rfl rfl (fun h101 => ?_) (fun h101 => ?_)
            · refine PW_iconst (pc' := 111) dX4_goesOn_110 rfl (v := 1) (by first | rfl | decide) ?_
              refine PW_goto (tgt := 115) dX4_goesOn_111 rfl ?_
              refine PW_ireturn .boolean dX4_goesOn_115 rfl (by first | rfl | exact bi_nar _) ?_
              have hq : (p - 2) % 7 = 1 := nI_inj (by omega) (by decide) (e43_1.trans rfl)
              refine ⟨?_, rfl⟩
              first
                | rw [bi_zero (show s_goes p bf c = false by simp_all [s_goes, show ¬ 37 ≤ p by omega])]
                | rw [bi_one (show s_goes p bf c = true by simp_all [s_goes, show ¬ 37 ≤ p by omega])]
            · refine PW_iload2 (pc' := 105) dX4_goesOn_104 rfl ?_
              refine PW_bipush (pc' := 107) dX4_goesOn_105 rfl (v := 108) (by first | rfl | decide) ?_
              refine PW_icmp_ne (tgt := 114) (pc' := 110) dX4_goesOn_107 rfl rfl (fun h107 => ?_) (fun h107 => ?_)
              · refine PW_iconst (pc' := 115) dX4_goesOn_114 rfl (v := 0) (by first | rfl | decide) ?_
                refine PW_ireturn .boolean dX4_goesOn_115 rfl (by first | rfl | exact bi_nar _) ?_
                have hq : (p - 2) % 7 = 1 := nI_inj (by omega) (by decide) (e43_1.trans rfl)
                refine ⟨?_, rfl⟩
                first
                  | rw [bi_zero (show s_goes p bf c = false by simp_all [s_goes, show ¬ 37 ≤ p by omega])]
                  | rw [bi_one (show s_goes p bf c = true by simp_all [s_goes, show ¬ 37 ≤ p by omega])]
              · refine PW_iconst (pc' := 111) dX4_goesOn_110 rfl (v := 1) (by first | rfl | decide) ?_
                refine PW_goto (tgt := 115) dX4_goesOn_111 rfl ?_
                refine PW_ireturn .boolean dX4_goesOn_115 rfl (by first | rfl | exact bi_nar _) ?_
                have hq : (p - 2) % 7 = 1 := nI_inj (by omega) (by decide) (e43_1.trans rfl)
                refine ⟨?_, rfl⟩
                first
                  | rw [bi_zero (show s_goes p bf c = false by simp_all [s_goes, show ¬ 37 ≤ p by omega])]
                  | rw [bi_one (show s_goes p bf c = true by simp_all [s_goes, show ¬ 37 ≤ p by omega])]
        by_cases e43_2 : nI ((p - 2) % 7) = 2
        · rw [e43_2]
          refine PW_tin (tgt := 116) dX4_goesOn_43 (by decide) (by decide) (by rfl) rfl ?_
          refine PW_iload2 (pc' := 117) dX4_goesOn_116 rfl ?_
          refine PW_iconst (pc' := 118) dX4_goesOn_117 rfl (v := 0) (by first | rfl | decide) ?_
          refine PW_iconst (pc' := 119) dX4_goesOn_118 rfl (v := 3) (by first | rfl | decide) ?_
          refine PW_callS3f (pc' := 122) dX4_goesOn_119 rfl oX4_isDigit lX4_15 (Nat.le_of_ble_eq_true rfl) (c_X4_isDigit) ?_
          refine PW_ireturn .boolean dX4_goesOn_122 rfl (by first | rfl | exact bi_nar _) ?_
          have hq : (p - 2) % 7 = 2 := nI_inj (by omega) (by decide) (e43_2.trans rfl)
          exact ⟨by rw [show s_goes p bf c = v_dig c 0 3 by simp [s_goes, hp1, hp2, show ¬ 37 ≤ p by omega, hq]], rfl⟩
        by_cases e43_3 : nI ((p - 2) % 7) = 3
        · rw [e43_3]
          refine PW_tin (tgt := 123) dX4_goesOn_43 (by decide) (by decide) (by rfl) rfl ?_
          refine PW_iload2 (pc' := 124) dX4_goesOn_123 rfl ?_
          refine PW_iconst (pc' := 125) dX4_goesOn_124 rfl (v := 1) (by first | rfl | decide) ?_
          refine PW_bipush (pc' := 127) dX4_goesOn_125 rfl (v := 9) (by first | rfl | decide) ?_
          refine PW_callS3f (pc' := 130) dX4_goesOn_127 rfl oX4_isDigit lX4_15 (Nat.le_of_ble_eq_true rfl) (c_X4_isDigit) ?_
          refine PW_ireturn .boolean dX4_goesOn_130 rfl (by first | rfl | exact bi_nar _) ?_
          have hq : (p - 2) % 7 = 3 := nI_inj (by omega) (by decide) (e43_3.trans rfl)
          exact ⟨by rw [show s_goes p bf c = v_dig c 1 9 by simp [s_goes, hp1, hp2, show ¬ 37 ≤ p by omega, hq]], rfl⟩
        by_cases e43_4 : nI ((p - 2) % 7) = 4
        · rw [e43_4]
          refine PW_tin (tgt := 131) dX4_goesOn_43 (by decide) (by decide) (by rfl) rfl ?_
          refine PW_iload2 (pc' := 132) dX4_goesOn_131 rfl ?_
          refine PW_iconst (pc' := 133) dX4_goesOn_132 rfl (v := 1) (by first | rfl | decide) ?_
          refine PW_bipush (pc' := 135) dX4_goesOn_133 rfl (v := 6) (by first | rfl | decide) ?_
          refine PW_callS3f (pc' := 138) dX4_goesOn_135 rfl oX4_isDigit lX4_15 (Nat.le_of_ble_eq_true rfl) (c_X4_isDigit) ?_
          refine PW_ireturn .boolean dX4_goesOn_138 rfl (by first | rfl | exact bi_nar _) ?_
          have hq : (p - 2) % 7 = 4 := nI_inj (by omega) (by decide) (e43_4.trans rfl)
          exact ⟨by rw [show s_goes p bf c = v_dig c 1 6 by simp [s_goes, hp1, hp2, show ¬ 37 ≤ p by omega, hq]], rfl⟩
        by_cases e43_5 : nI ((p - 2) % 7) = 5
        · rw [e43_5]
          refine PW_tin (tgt := 139) dX4_goesOn_43 (by decide) (by decide) (by rfl) rfl ?_
          refine PW_iload2 (pc' := 140) dX4_goesOn_139 rfl ?_
          refine PW_iconst (pc' := 141) dX4_goesOn_140 rfl (v := 0) (by first | rfl | decide) ?_
          refine PW_bipush (pc' := 143) dX4_goesOn_141 rfl (v := 6) (by first | rfl | decide) ?_
          refine PW_callS3f (pc' := 146) dX4_goesOn_143 rfl oX4_isDigit lX4_15 (Nat.le_of_ble_eq_true rfl) (c_X4_isDigit) ?_
          refine PW_ireturn .boolean dX4_goesOn_146 rfl (by first | rfl | exact bi_nar _) ?_
          have hq : (p - 2) % 7 = 5 := nI_inj (by omega) (by decide) (e43_5.trans rfl)
          exact ⟨by rw [show s_goes p bf c = v_dig c 0 6 by simp [s_goes, hp1, hp2, show ¬ 37 ≤ p by omega, hq]], rfl⟩
        refine PW_tout (tgt := 147) dX4_goesOn_43 (ts_out5 e43_0 e43_1 e43_2 e43_3 e43_4 e43_5) rfl ?_
        refine PW_iload2 (pc' := 148) dX4_goesOn_147 rfl ?_
        refine PW_iconst (pc' := 149) dX4_goesOn_148 rfl (v := 0) (by first | rfl | decide) ?_
        refine PW_iload1 (pc' := 150) dX4_goesOn_149 rfl ?_
        refine PW_bipush (pc' := 152) dX4_goesOn_150 rfl (v := 54) (by first | rfl | decide) ?_
        refine PW_icmp_ne (tgt := 159) (pc' := 155) dX4_goesOn_152 rfl rfl (fun h152 => ?_) (fun h152 => ?_)
        · refine PW_bipush (pc' := 161) dX4_goesOn_159 rfl (v := 9) (by first | rfl | decide) ?_
          refine PW_callS3f (pc' := 164) dX4_goesOn_161 rfl oX4_isDigit lX4_15 (Nat.le_of_ble_eq_true rfl) (c_X4_isDigit) ?_
          refine PW_ireturn .boolean dX4_goesOn_164 rfl (by first | rfl | exact bi_nar _) ?_
          have hq : (p - 2) % 7 = 6 := by
            have h7 : (p - 2) % 7 < 7 := Nat.mod_lt _ (by decide)
            have n0 : (p - 2) % 7 ≠ 0 := fun z => e43_0 (by rw [z]; rfl)
            have n1 : (p - 2) % 7 ≠ 1 := fun z => e43_1 (by rw [z]; rfl)
            have n2 : (p - 2) % 7 ≠ 2 := fun z => e43_2 (by rw [z]; rfl)
            have n3 : (p - 2) % 7 ≠ 3 := fun z => e43_3 (by rw [z]; rfl)
            have n4 : (p - 2) % 7 ≠ 4 := fun z => e43_4 (by rw [z]; rfl)
            have n5 : (p - 2) % 7 ≠ 5 := fun z => e43_5 (by rw [z]; rfl)
            omega
          exact ⟨by rw [show s_goes p bf c = v_dig c 0 (if bf = 54 then 3 else 9) by simp [s_goes, hp1, hp2, show ¬ 37 ≤ p by omega, hq]]; simp [h152], rfl⟩
        · refine PW_iconst (pc' := 156) dX4_goesOn_155 rfl (v := 3) (by first | rfl | decide) ?_
          refine PW_goto (tgt := 161) dX4_goesOn_156 rfl ?_
          refine PW_callS3f (pc' := 164) dX4_goesOn_161 rfl oX4_isDigit lX4_15 (Nat.le_of_ble_eq_true rfl) (c_X4_isDigit) ?_
          refine PW_ireturn .boolean dX4_goesOn_164 rfl (by first | rfl | exact bi_nar _) ?_
          have hq : (p - 2) % 7 = 6 := by
            have h7 : (p - 2) % 7 < 7 := Nat.mod_lt _ (by decide)
            have n0 : (p - 2) % 7 ≠ 0 := fun z => e43_0 (by rw [z]; rfl)
            have n1 : (p - 2) % 7 ≠ 1 := fun z => e43_1 (by rw [z]; rfl)
            have n2 : (p - 2) % 7 ≠ 2 := fun z => e43_2 (by rw [z]; rfl)
            have n3 : (p - 2) % 7 ≠ 3 := fun z => e43_3 (by rw [z]; rfl)
            have n4 : (p - 2) % 7 ≠ 4 := fun z => e43_4 (by rw [z]; rfl)
            have n5 : (p - 2) % 7 ≠ 5 := fun z => e43_5 (by rw [z]; rfl)
            omega
          exact ⟨by rw [show s_goes p bf c = v_dig c 0 (if bf = 54 then 3 else 9) by simp [s_goes, hp1, hp2, show ¬ 37 ≤ p by omega, hq]]; simp [h152], rfl⟩
      · have hp3 : ¬ p < 37 := fun z => h32 ((nI_ltI (b := 37) (by omega) (by decide)).mpr z)
        refine PW_iconst (pc' := 36) dX4_goesOn_35 rfl (v := 0) (by first | rfl | decide) ?_
        refine PW_ireturn .boolean dX4_goesOn_36 rfl (by first | rfl | exact bi_nar _) ?_
        exact ⟨by rw [show s_goes p bf c = false by simp [s_goes, hp1, hp2, show 37 ≤ p by omega]]; rfl, rfl⟩
    · have hp11 : p = 1 := nI_inj (by omega) (by decide) h18
      refine PW_iload2 (pc' := 22) dX4_goesOn_21 rfl ?_
      refine PW_iconst (pc' := 23) dX4_goesOn_22 rfl (v := 0) (by first | rfl | decide) ?_
      refine PW_bipush (pc' := 25) dX4_goesOn_23 rfl (v := 9) (by first | rfl | decide) ?_
      refine PW_callS3f (pc' := 28) dX4_goesOn_25 rfl oX4_isDigit lX4_15 (Nat.le_of_ble_eq_true rfl) (c_X4_isDigit) ?_
      refine PW_ireturn .boolean dX4_goesOn_28 rfl (by first | rfl | exact bi_nar _) ?_
      exact ⟨by rw [show s_goes p bf c = v_dig c 0 9 by simp [s_goes, hp11]], rfl⟩
  · have hp0 : p = 0 := nI_inj (by omega) (by decide) h1
    refine PW_iload2 (pc' := 5) dX4_goesOn_4 rfl ?_
    refine PW_bipush (pc' := 7) dX4_goesOn_5 rfl (v := 117) (by first | rfl | decide) ?_
    refine PW_icmp_ne (tgt := 14) (pc' := 10) dX4_goesOn_7 rfl rfl (fun h7 => ?_) (fun h7 => ?_)
    · refine PW_iconst (pc' := 15) dX4_goesOn_14 rfl (v := 0) (by first | rfl | decide) ?_
      refine PW_ireturn .boolean dX4_goesOn_15 rfl (by first | rfl | exact bi_nar _) ?_
      refine ⟨?_, rfl⟩
      first
        | rw [bi_zero (show s_goes p bf c = false by simp_all [s_goes])]
        | rw [bi_one (show s_goes p bf c = true by simp_all [s_goes])]
    · refine PW_iconst (pc' := 11) dX4_goesOn_10 rfl (v := 1) (by first | rfl | decide) ?_
      refine PW_goto (tgt := 15) dX4_goesOn_11 rfl ?_
      refine PW_ireturn .boolean dX4_goesOn_15 rfl (by first | rfl | exact bi_nar _) ?_
      refine ⟨?_, rfl⟩
      first
        | rw [bi_zero (show s_goes p bf c = false by simp_all [s_goes])]
        | rw [bi_one (show s_goes p bf c = true by simp_all [s_goes])]
theorem s_ffl_mono {c : Nat → Int32} {x : Nat} : ∀ (k j : Nat), s_ffl c j = some x → s_ffl c (j + k) = some x
  | 0, _, hj => hj
  | k + 1, j, hj => by
    rw [show j + (k + 1) = (j + k) + 1 from rfl, s_ffl, s_ffl_mono k j hj]
set_option maxHeartbeats 4000000 in
theorem l_X4_firstFault {Γ : pv_G} {d k i n : Nat} {M : pv_M} (hk : k < 4) (hin : i + n ≤ 60) : ∀ (m j : Nat) (x5 : Value), j + m = n → s_ffl (fun x => M (6 + k) (i + x)) j = none →
    PW Γ (d + 2) vX4_firstFault 5 [.ref (6 + k), .int (nI i), .int (nI n), .int (if j = 0 then 0 else M (6 + k) (i + (j - 1))), .int (nI j), x5] [] M (pv_fn (some (.int (s_oI (s_ff (fun x => M (6 + k) (i + x)) n)))) M) := by
  intro m
  induction m using Nat.strongRecOn with
  | ind m ih =>
    intro j x5 hjm hff
    refine PW_iload4 (pc' := 7) dX4_firstFault_5 rfl ?_
    refine PW_iload2 (pc' := 8) dX4_firstFault_7 rfl ?_
    refine PW_icmp_ge (tgt := 42) (pc' := 11) dX4_firstFault_8 rfl rfl (fun h8 => ?_) (fun h8 => ?_)
    · have hj : j = n := by have := s_bge (by omega) (by omega) h8; omega
      subst hj
      refine PW_iload2 (pc' := 43) dX4_firstFault_42 rfl ?_
      refine PW_iconst (pc' := 44) dX4_firstFault_43 rfl (v := 2) (by first | rfl | decide) ?_
      refine PW_icmp_le (tgt := 61) (pc' := 47) dX4_firstFault_44 rfl rfl (fun h44 => ?_) (fun h44 => ?_)
      · have h2 : ¬ 2 < j := fun z => nI_ge (a := 2) z (by omega) h44
        refine PW_iload2 (pc' := 62) dX4_firstFault_61 rfl ?_
        refine PW_ireturn .int dX4_firstFault_62 rfl rfl ?_
        first
          | exact ⟨by rw [s_ff, hff, if_pos ⟨h2, h3⟩]; rfl, rfl⟩
          | exact ⟨by rw [s_ff, hff, if_neg (fun z => h2 z.1)]; rfl, rfl⟩
          | exact ⟨by rw [s_ff, hff, if_neg (fun z => h3 z.2)]; rfl, rfl⟩
      · have h2 : 2 < j := by
          rcases Nat.lt_or_ge 2 j with z | z
          · exact z
          · exact absurd (nI_le (b := 2) z (by decide)) h44
        have q1 := v_sub2 j (by omega) (by omega)
        have q2 := v_rem7 (j - 2) (by omega)
        refine PW_iload2 (pc' := 48) dX4_firstFault_47 rfl ?_
        refine PW_iconst (pc' := 49) dX4_firstFault_48 rfl (v := 2) (by first | rfl | decide) ?_
        refine PW_isub (pc' := 50) dX4_firstFault_49 rfl ?_
        refine PW_bipush (pc' := 52) dX4_firstFault_50 rfl (v := 7) (by first | rfl | decide) ?_
        refine PW_irem (pc' := 53) dX4_firstFault_52 rfl (by decide) ?_
        refine PW_if_ne (tgt := 61) (pc' := 56) dX4_firstFault_53 rfl rfl (fun h53 => ?_) (fun h53 => ?_)
        · rw [q1, q2] at h53
          have h3 : ¬ (j - 2) % 7 = 0 := fun z => h53 (by rw [z]; rfl)
          refine PW_iload2 (pc' := 62) dX4_firstFault_61 rfl ?_
          refine PW_ireturn .int dX4_firstFault_62 rfl rfl ?_
          first
            | exact ⟨by rw [s_ff, hff, if_pos ⟨h2, h3⟩]; rfl, rfl⟩
            | exact ⟨by rw [s_ff, hff, if_neg (fun z => h2 z.1)]; rfl, rfl⟩
            | exact ⟨by rw [s_ff, hff, if_neg (fun z => h3 z.2)]; rfl, rfl⟩
        · rw [q1, q2] at h53
          have h3 : (j - 2) % 7 = 0 := nI_inj (by omega) (by decide) h53
          refine PW_bipush (pc' := 58) dX4_firstFault_56 rfl (v := -9) (by first | rfl | decide) ?_
          refine PW_goto (tgt := 62) dX4_firstFault_58 rfl ?_
          refine PW_ireturn .int dX4_firstFault_62 rfl rfl ?_
          first
            | exact ⟨by rw [s_ff, hff, if_pos ⟨h2, h3⟩]; rfl, rfl⟩
            | exact ⟨by rw [s_ff, hff, if_neg (fun z => h2 z.1)]; rfl, rfl⟩
            | exact ⟨by rw [s_ff, hff, if_neg (fun z => h3 z.2)]; rfl, rfl⟩
    · have hj : j < n := s_bnd (by omega) (by omega) h8
      refine PW_aload0 (pc' := 12) dX4_firstFault_11 rfl ?_
      refine PW_iload1 (pc' := 13) dX4_firstFault_12 rfl ?_
      refine PW_iload4 (pc' := 15) dX4_firstFault_13 rfl ?_
      refine PW_iadd (pc' := 16) dX4_firstFault_15 rfl ?_
      rw [nI_add]
      refine PW_ialdn (pc' := 17) dX4_firstFault_16 rfl (pv_lay_cells (by omega)) rfl (by omega) ?_
      refine PW_istore5 (pc' := 19) dX4_firstFault_17 rfl rfl rfl ?_
      refine PW_iload4 (pc' := 21) dX4_firstFault_19 rfl ?_
      refine PW_iload3 (pc' := 22) dX4_firstFault_21 rfl ?_
      refine PW_iload5 (pc' := 24) dX4_firstFault_22 rfl ?_
      refine PW_callS3f (pc' := 27) dX4_firstFault_24 rfl oX4_goesOn lX4_11 (Nat.le_of_ble_eq_true rfl) (c_X4_goesOn (by omega)) ?_
      refine PW_if_ne (tgt := 33) (pc' := 30) dX4_firstFault_27 rfl rfl (fun h27 => ?_) (fun h27 => ?_)
      · have hg := bi_t h27
        have e : s_ffl (fun x => M (6 + k) (i + x)) (j + 1) = none := by simp [s_ffl, hff, hg]
        refine PW_iload5 (pc' := 35) dX4_firstFault_33 rfl ?_
        refine PW_istore3 (pc' := 36) dX4_firstFault_35 rfl rfl rfl ?_
        refine PW_iinc4 (pc' := 39) dX4_firstFault_36 rfl rfl rfl nI_inc ?_
        refine PW_goto (tgt := 5) dX4_firstFault_39 rfl ?_
        have hgo := ih (m - 1) (by omega) (j + 1) (.int (M (6 + k) (i + j))) (by omega) e
        rw [if_neg (by omega), show j + 1 - 1 = j by omega] at hgo
        exact hgo
      · have hg := bi_f h27
        have e : s_ffl (fun x => M (6 + k) (i + x)) (j + 1) = some j := by simp [s_ffl, hff, hg]
        refine PW_iload4 (pc' := 32) dX4_firstFault_30 rfl ?_
        refine PW_ireturn .int dX4_firstFault_32 rfl rfl ?_
        have e2 := s_ffl_mono (m - 1) (j + 1) e
        rw [show j + 1 + (m - 1) = n by omega] at e2
        exact ⟨by rw [s_ff, e2]; rfl, rfl⟩
set_option maxHeartbeats 4000000 in
theorem c_X4_firstFault {Γ : pv_G} {d : Nat} {M : pv_M} {k i n : Nat} (hk : k < 4) (hin : i + n ≤ 60) : Ct Γ (d + 2) vX4_firstFault [.ref (6 + k), .int (nI i), .int (nI n)] M (pv_fn (some (.int (s_oI (s_ff (fun x => M (6 + k) (i + x)) n)))) M) := by
  refine Ct.of oX4_firstFault.1 rfl (pad := 3) rfl ?_
  show PW Γ (d + 2) vX4_firstFault 0 [.ref (6 + k), .int (nI i), .int (nI n), .null, .null, .null] [] M _
  refine PW_iconst (pc' := 1) dX4_firstFault_0 rfl (v := 0) (by first | rfl | decide) ?_
  refine PW_istore3 (pc' := 2) dX4_firstFault_1 rfl rfl rfl ?_
  refine PW_iconst (pc' := 3) dX4_firstFault_2 rfl (v := nI 0) (by first | rfl | decide) ?_
  refine PW_istore4 (pc' := 5) dX4_firstFault_3 rfl rfl rfl ?_
  exact l_X4_firstFault hk hin n 0 _ (by omega) rfl
