/-! the constructors of the class's parts -/
theorem KW_newN {Γ : kv_G} {d : Nat} {V : pv_V} {pc pc' : Nat} {L : List (Nat × Value)} {st : List Value} {ws : va_W} {cu su : Nat} {T : va_W → Prop} {i ci N : Nat} {ty : Nat → FieldType} {fs : List Value} (hd : decode V.2.1 pc = .ok (.new i, 3)) (hp : pc + 3 = pc') (hN : (pv_c ci).2.2 = N) (h0 : 0 < N) (hcl : Cond.classLink V.1.cls i (pv_c ci).1 ∈ pv_T) (hinst : Cond.instantiable (pv_c ci).1 N ∈ pv_T) (hini : Cond.initialized (pv_c ci).1 ∈ pv_T) (hty : ∀ k, k < N → parseFieldDescriptor ((pv_c ci).2.1 k).2.2.1 = some (ty k)) (hfs : ∀ j, j < N → defaultValue (ty j) = vp_V fs j) (k : ∀ q, KW Γ d V pc' L (.ref q :: st) (ws ++ [(q, .inr (ci, fs))]) cu su T) : KW Γ d V pc L st ws (cu + 1) (su + N) T := by
  subst hN
  exact KW_new hd hp h0 hcl hinst hini hty hfs k
theorem KW_aastn {Γ : kv_G} {d : Nat} {V : pv_V} {pc pc' : Nat} {L : List (Nat × Value)} {st : List Value} {ws : va_W} {cu su : Nat} {T : va_W → Prop} {j q0 t qk ci a v N : Nat} {vs : List Value} {f : Nat → Option Nat} (hd : decode V.2.1 pc = .ok (.aastore, 1)) (hp : pc + 1 = pc') (h0 : 0 < (pv_c ci).2.2) (ha : ws[q0]? = some (a, .inl (Γ.2.2 t, N, .inr (.inr (.inr (.inr f)))))) (ht : ∀ f : Nat → ClassId, (pv_tys f)[t]? = some (f t, .object (pv_c ci).1)) (hv : ws[qk]? = some (v, .inr (ci, vs))) (hj : j < N) (hN : Nat.ble N 1000 = true) (k : KW Γ d V pc' L st (ws.set q0 (a, .inl (Γ.2.2 t, N, .inr (.inr (.inr (.inr (va_up f j (some v)))))))) cu su T) : KW Γ d V pc L (.ref v :: .int (nI j) :: .ref a :: st) ws cu su T := by
  have h2 : N < 2 ^ 31 := Nat.lt_of_le_of_lt (Nat.le_of_ble_eq_true hN) (by decide)
  refine KW_aast hd hp h0 ha ht hv (vp_in_nI hj h2) ?_
  rw [nI_clamp (Nat.lt_trans hj h2)]
  exact k
theorem KW_iastn {Γ : kv_G} {d : Nat} {V : pv_V} {pc pc' : Nat} {L : List (Nat × Value)} {st : List Value} {ws : va_W} {cu su : Nat} {T : va_W → Prop} {j q0 a N : Nat} {f : Nat → Int32} {x : Int32} (hd : decode V.2.1 pc = .ok (.iastore, 1)) (hp : pc + 1 = pc') (ha : ws[q0]? = some (a, .inl (Γ.2.2 0, N, .inl f))) (hj : j < N) (hN : Nat.ble N 1000 = true) (k : KW Γ d V pc' L st (ws.set q0 (a, .inl (Γ.2.2 0, N, .inl (upd f j x)))) cu su T) : KW Γ d V pc L (.int x :: .int (nI j) :: .ref a :: st) ws cu su T := by
  have h2 : N < 2 ^ 31 := Nat.lt_of_le_of_lt (Nat.le_of_ble_eq_true hN) (by decide)
  refine KW_iast hd hp ha (vp_in_nI hj h2) ?_
  rw [nI_clamp (Nat.lt_trans hj h2)]
  exact k
theorem k_oi : Cond.instanceMethod objectInit ∈ pv_T := pv_memi 51 rfl rfl
theorem k_oc : Cond.code objectInit ⟨#[0xb1]⟩ 1 none ∈ pv_T := pv_memi 52 rfl rfl
theorem k_ai : Cond.arrayClass .int ∈ pv_T := pv_memi 76 (by decide +kernel) (by decide +kernel)
theorem k_az : Cond.arrayClass .boolean ∈ pv_T := pv_memi 156 (by decide +kernel) (by decide +kernel)
set_option maxRecDepth 20000 in
theorem k_okX0 : kv_ok vX0_init := ⟨pv_memi 81 rfl rfl, pv_memi 37 (by decide +kernel) (by decide +kernel), pv_memi 80 (by decide +kernel) (by decide +kernel), rfl, ⟨by decide +kernel, by decide +kernel, by decide +kernel⟩, ⟨by decide, by decide⟩, by decide +kernel, rfl⟩
theorem k_inX0 : Cond.instantiable RX0 4 ∈ pv_T := pv_memi 78 (by decide +kernel) (by decide +kernel)
theorem k_iiX0 : Cond.initialized RX0 ∈ pv_T := pv_memi 37 (by decide +kernel) (by decide +kernel)
theorem k_fsX0 : ∀ j, j < 4 → defaultValue (tyX0 j) = vp_V [.null, .int 0, .int 0, .int 0] j := fun j hj =>
  match j, hj with
  | 0, _ => rfl
  | 1, _ => rfl
  | 2, _ => rfl
  | 3, _ => rfl
  | n + 4, h => absurd h (Nat.not_lt.mpr (Nat.le_add_left 4 n))
theorem k_olX0 : Cond.methodLink RX0 3 objectInit ∈ pv_T := pv_memi 82 (by decide +kernel) (by decide +kernel)
set_option maxRecDepth 20000 in
theorem k_okX1 : kv_ok vX1_init := ⟨pv_memi 140 rfl rfl, pv_memi 39 (by decide +kernel) (by decide +kernel), pv_memi 139 (by decide +kernel) (by decide +kernel), rfl, ⟨by decide +kernel, by decide +kernel, by decide +kernel⟩, ⟨by decide, by decide⟩, by decide +kernel, rfl⟩
theorem k_inX1 : Cond.instantiable RX1 4 ∈ pv_T := pv_memi 137 (by decide +kernel) (by decide +kernel)
theorem k_iiX1 : Cond.initialized RX1 ∈ pv_T := pv_memi 39 (by decide +kernel) (by decide +kernel)
theorem k_fsX1 : ∀ j, j < 4 → defaultValue (tyX1 j) = vp_V [.null, .null, .null, .int 0] j := fun j hj =>
  match j, hj with
  | 0, _ => rfl
  | 1, _ => rfl
  | 2, _ => rfl
  | 3, _ => rfl
  | n + 4, h => absurd h (Nat.not_lt.mpr (Nat.le_add_left 4 n))
theorem k_olX1 : Cond.methodLink RX1 3 objectInit ∈ pv_T := pv_memi 141 (by decide +kernel) (by decide +kernel)
set_option maxRecDepth 20000 in
theorem k_okX2 : kv_ok vX2_init := ⟨pv_memi 161 rfl rfl, pv_memi 40 (by decide +kernel) (by decide +kernel), pv_memi 160 (by decide +kernel) (by decide +kernel), rfl, ⟨by decide +kernel, by decide +kernel, by decide +kernel⟩, ⟨by decide, by decide⟩, by decide +kernel, rfl⟩
theorem k_inX2 : Cond.instantiable RX2 11 ∈ pv_T := pv_memi 158 (by decide +kernel) (by decide +kernel)
theorem k_iiX2 : Cond.initialized RX2 ∈ pv_T := pv_memi 40 (by decide +kernel) (by decide +kernel)
theorem k_fsX2 : ∀ j, j < 11 → defaultValue (tyX2 j) = vp_V [.null, .null, .null, .null, .null, .null, .int 0, .int 0, .int 0, .int 0, .int 0] j := fun j hj =>
  match j, hj with
  | 0, _ => rfl
  | 1, _ => rfl
  | 2, _ => rfl
  | 3, _ => rfl
  | 4, _ => rfl
  | 5, _ => rfl
  | 6, _ => rfl
  | 7, _ => rfl
  | 8, _ => rfl
  | 9, _ => rfl
  | 10, _ => rfl
  | n + 11, h => absurd h (Nat.not_lt.mpr (Nat.le_add_left 11 n))
theorem k_olX2 : Cond.methodLink RX2 3 objectInit ∈ pv_T := pv_memi 162 (by decide +kernel) (by decide +kernel)
set_option maxRecDepth 20000 in
theorem k_okX3 : kv_ok vX3_init := ⟨pv_memi 58 rfl rfl, pv_memi 36 (by decide +kernel) (by decide +kernel), pv_memi 57 (by decide +kernel) (by decide +kernel), rfl, ⟨by decide +kernel, by decide +kernel, by decide +kernel⟩, ⟨by decide, by decide⟩, by decide +kernel, rfl⟩
theorem k_inX3 : Cond.instantiable RX3 4 ∈ pv_T := pv_memi 55 (by decide +kernel) (by decide +kernel)
theorem k_iiX3 : Cond.initialized RX3 ∈ pv_T := pv_memi 36 (by decide +kernel) (by decide +kernel)
theorem k_fsX3 : ∀ j, j < 4 → defaultValue (tyX3 j) = vp_V [.null, .int 0, .int 0, .int 0] j := fun j hj =>
  match j, hj with
  | 0, _ => rfl
  | 1, _ => rfl
  | 2, _ => rfl
  | 3, _ => rfl
  | n + 4, h => absurd h (Nat.not_lt.mpr (Nat.le_add_left 4 n))
theorem k_olX3 : Cond.methodLink RX3 3 objectInit ∈ pv_T := pv_memi 59 (by decide +kernel) (by decide +kernel)
set_option maxRecDepth 20000 in
theorem k_okX5 : kv_ok vX5_init := ⟨pv_memi 88 rfl rfl, pv_memi 38 (by decide +kernel) (by decide +kernel), pv_memi 87 (by decide +kernel) (by decide +kernel), rfl, ⟨by decide +kernel, by decide +kernel, by decide +kernel⟩, ⟨by decide, by decide⟩, by decide +kernel, rfl⟩
theorem k_inX5 : Cond.instantiable RX5 5 ∈ pv_T := pv_memi 85 (by decide +kernel) (by decide +kernel)
theorem k_iiX5 : Cond.initialized RX5 ∈ pv_T := pv_memi 38 (by decide +kernel) (by decide +kernel)
theorem k_fsX5 : ∀ j, j < 5 → defaultValue (tyX5 j) = vp_V [.int 0, .int 0, .int 0, .int 0, .int 0] j := fun j hj =>
  match j, hj with
  | 0, _ => rfl
  | 1, _ => rfl
  | 2, _ => rfl
  | 3, _ => rfl
  | 4, _ => rfl
  | n + 5, h => absurd h (Nat.not_lt.mpr (Nat.le_add_left 5 n))
theorem k_olX5 : Cond.methodLink RX5 3 objectInit ∈ pv_T := pv_memi 89 (by decide +kernel) (by decide +kernel)
set_option maxRecDepth 20000 in
theorem k_okX6 : kv_ok vX6_init := ⟨pv_memi 49 rfl rfl, pv_memi 35 (by decide +kernel) (by decide +kernel), pv_memi 48 (by decide +kernel) (by decide +kernel), rfl, ⟨by decide +kernel, by decide +kernel, by decide +kernel⟩, ⟨by decide, by decide⟩, by decide +kernel, rfl⟩
theorem k_inX6 : Cond.instantiable RX6 7 ∈ pv_T := pv_memi 46 (by decide +kernel) (by decide +kernel)
theorem k_iiX6 : Cond.initialized RX6 ∈ pv_T := pv_memi 35 (by decide +kernel) (by decide +kernel)
theorem k_fsX6 : ∀ j, j < 7 → defaultValue (tyX6 j) = vp_V [.null, .null, .null, .null, .null, .int 0, .int 0] j := fun j hj =>
  match j, hj with
  | 0, _ => rfl
  | 1, _ => rfl
  | 2, _ => rfl
  | 3, _ => rfl
  | 4, _ => rfl
  | 5, _ => rfl
  | 6, _ => rfl
  | n + 7, h => absurd h (Nat.not_lt.mpr (Nat.le_add_left 7 n))
theorem k_olX6 : Cond.methodLink RX6 5 objectInit ∈ pv_T := pv_memi 50 (by decide +kernel) (by decide +kernel)
set_option maxRecDepth 20000 in
theorem k_okX7 : kv_ok vX7_init := ⟨pv_memi 523 rfl rfl, pv_memi 41 (by decide +kernel) (by decide +kernel), pv_memi 522 (by decide +kernel) (by decide +kernel), rfl, ⟨by decide +kernel, by decide +kernel, by decide +kernel⟩, ⟨by decide, by decide⟩, by decide +kernel, rfl⟩
theorem k_inX7 : Cond.instantiable RX7 34 ∈ pv_T := pv_memi 520 (by decide +kernel) (by decide +kernel)
theorem k_iiX7 : Cond.initialized RX7 ∈ pv_T := pv_memi 41 (by decide +kernel) (by decide +kernel)
theorem k_fsX7 : ∀ j, j < 34 → defaultValue (tyX7 j) = vp_V [.int 0, .int 0, .int 0, .int 0, .null, .null, .null, .null, .null, .int 0, .int 0, .int 0, .int 0, .null, .null, .null, .null, .null, .null, .null, .null, .int 0, .int 0, .int 0, .int 0, .int 0, .null, .null, .null, .null, .null, .null, .null, .int 0] j := fun j hj =>
  match j, hj with
  | 0, _ => rfl
  | 1, _ => rfl
  | 2, _ => rfl
  | 3, _ => rfl
  | 4, _ => rfl
  | 5, _ => rfl
  | 6, _ => rfl
  | 7, _ => rfl
  | 8, _ => rfl
  | 9, _ => rfl
  | 10, _ => rfl
  | 11, _ => rfl
  | 12, _ => rfl
  | 13, _ => rfl
  | 14, _ => rfl
  | 15, _ => rfl
  | 16, _ => rfl
  | 17, _ => rfl
  | 18, _ => rfl
  | 19, _ => rfl
  | 20, _ => rfl
  | 21, _ => rfl
  | 22, _ => rfl
  | 23, _ => rfl
  | 24, _ => rfl
  | 25, _ => rfl
  | 26, _ => rfl
  | 27, _ => rfl
  | 28, _ => rfl
  | 29, _ => rfl
  | 30, _ => rfl
  | 31, _ => rfl
  | 32, _ => rfl
  | 33, _ => rfl
  | n + 34, h => absurd h (Nat.not_lt.mpr (Nat.le_add_left 34 n))
theorem k_olX7 : Cond.methodLink RX7 1 objectInit ∈ pv_T := pv_memi 524 (by decide +kernel) (by decide +kernel)
theorem k_clL_7 : Cond.classLink RL 7 RX6 ∈ pv_T := pv_memi 45 (by decide +kernel) (by decide +kernel)
theorem k_clX6_11 : Cond.classLink RX6 11 RX3 ∈ pv_T := pv_memi 53 (by decide +kernel) (by decide +kernel)
theorem k_clX6_18 : Cond.classLink RX6 18 RX0 ∈ pv_T := pv_memi 77 (by decide +kernel) (by decide +kernel)
theorem k_clX0_9 : Cond.classLink RX0 9 RX5 ∈ pv_T := pv_memi 83 (by decide +kernel) (by decide +kernel)
theorem k_clX6_25 : Cond.classLink RX6 25 RX1 ∈ pv_T := pv_memi 136 (by decide +kernel) (by decide +kernel)
theorem k_clX6_32 : Cond.classLink RX6 32 RX2 ∈ pv_T := pv_memi 157 (by decide +kernel) (by decide +kernel)
theorem k_clL_10 : Cond.classLink RL 10 RX7 ∈ pv_T := pv_memi 519 (by decide +kernel) (by decide +kernel)
