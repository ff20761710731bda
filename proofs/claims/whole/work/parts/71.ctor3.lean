/-! the constructors of the class's parts: their walks -/
def k_TX3 (Γ : kv_G) (h0 : Nat) : va_W → Prop := fun ws => ∃ q1 : Nat, ws = [(h0, .inr (3, [.ref q1, .int 0, .int 0, .int 0])), (q1, .inl (Γ.2.2 0, 60, .inl (fun _ => 0)))]
set_option maxHeartbeats 4000000 in
set_option maxRecDepth 20000 in
theorem k_X3 {Γ : kv_G} {d h0 : Nat} : Kt Γ d vX3_init h0 [(h0, .inr (3, [.null, .int 0, .int 0, .int 0]))] 1 60 (k_TX3 Γ h0) := by
  refine Kt.of k_okX3 ?_
  refine KW_aload0 (pc' := 1) dX3_init_0 rfl rfl ?_
  refine KW_obj (pc' := 4) dX3_init_1 rfl k_olX3 k_oi k_oc (Nat.le_of_ble_eq_true rfl) ?_
  refine KW_aload0 (pc' := 5) dX3_init_4 rfl rfl ?_
  refine KW_bipush (pc' := 7) dX3_init_5 rfl (v := nI 60) (by first | rfl | decide) ?_
  refine KW_newa (N := 60) (cu := 0) (su := 0) (pc' := 9) dX3_init_7 rfl k_ai (nI_pos (by decide)) (nI_clamp (by decide)) rfl (fun q1 => ?_)
  refine KW.eqW (ws2 := [(h0, .inr (3, [.null, .int 0, .int 0, .int 0])), (q1, .inl (Γ.2.2 0, 60, .inl (fun _ => 0)))]) rfl ?_
  refine KW_putF (q0 := 0) (ty := tyX3 0) (pc' := 12) dX3_init_9 rfl fX3_9 rfl rfl rfl (tyX3_ok 0 (by decide)) rfl rfl (Nat.le_of_ble_eq_true rfl) ?_
  refine KW.eqW (ws2 := [(h0, .inr (3, [.ref q1, .int 0, .int 0, .int 0])), (q1, .inl (Γ.2.2 0, 60, .inl (fun _ => 0)))]) rfl ?_
  exact KW_return dX3_init_12 ⟨q1, rfl⟩
def k_TX5 (Γ : kv_G) (h0 : Nat) : va_W → Prop := fun ws => ws = [(h0, .inr (4, [.int 0, .int 0, .int 0, .int 0, .int 0]))]
set_option maxHeartbeats 4000000 in
set_option maxRecDepth 20000 in
theorem k_X5 {Γ : kv_G} {d h0 : Nat} : Kt Γ d vX5_init h0 [(h0, .inr (4, [.int 0, .int 0, .int 0, .int 0, .int 0]))] 0 0 (k_TX5 Γ h0) := by
  refine Kt.of k_okX5 ?_
  refine KW_aload0 (pc' := 1) dX5_init_0 rfl rfl ?_
  refine KW_obj (pc' := 4) dX5_init_1 rfl k_olX5 k_oi k_oc (Nat.le_of_ble_eq_true rfl) ?_
  exact KW_return dX5_init_4 rfl
def k_TX1 (Γ : kv_G) (h0 : Nat) : va_W → Prop := fun ws => ∃ q1 q2 q3 : Nat, ws = [(h0, .inr (1, [.ref q1, .ref q2, .ref q3, .int 0])), (q1, .inl (Γ.2.2 0, 8, .inl (fun _ => 0))), (q2, .inl (Γ.2.2 0, 8, .inl (fun _ => 0))), (q3, .inl (Γ.2.2 1, 8, .inl (fun _ => 0)))]
set_option maxHeartbeats 4000000 in
set_option maxRecDepth 20000 in
theorem k_X1 {Γ : kv_G} {d h0 : Nat} : Kt Γ d vX1_init h0 [(h0, .inr (1, [.null, .null, .null, .int 0]))] 3 24 (k_TX1 Γ h0) := by
  refine Kt.of k_okX1 ?_
  refine KW_aload0 (pc' := 1) dX1_init_0 rfl rfl ?_
  refine KW_obj (pc' := 4) dX1_init_1 rfl k_olX1 k_oi k_oc (Nat.le_of_ble_eq_true rfl) ?_
  refine KW_aload0 (pc' := 5) dX1_init_4 rfl rfl ?_
  refine KW_bipush (pc' := 7) dX1_init_5 rfl (v := nI 8) (by first | rfl | decide) ?_
  refine KW_newa (N := 8) (cu := 2) (su := 16) (pc' := 9) dX1_init_7 rfl k_ai (nI_pos (by decide)) (nI_clamp (by decide)) rfl (fun q1 => ?_)
  refine KW.eqW (ws2 := [(h0, .inr (1, [.null, .null, .null, .int 0])), (q1, .inl (Γ.2.2 0, 8, .inl (fun _ => 0)))]) rfl ?_
  refine KW_putF (q0 := 0) (ty := tyX1 0) (pc' := 12) dX1_init_9 rfl fX1_9 rfl rfl rfl (tyX1_ok 0 (by decide)) rfl rfl (Nat.le_of_ble_eq_true rfl) ?_
  refine KW.eqW (ws2 := [(h0, .inr (1, [.ref q1, .null, .null, .int 0])), (q1, .inl (Γ.2.2 0, 8, .inl (fun _ => 0)))]) rfl ?_
  refine KW_aload0 (pc' := 13) dX1_init_12 rfl rfl ?_
  refine KW_bipush (pc' := 15) dX1_init_13 rfl (v := nI 8) (by first | rfl | decide) ?_
  refine KW_newa (N := 8) (cu := 1) (su := 8) (pc' := 17) dX1_init_15 rfl k_ai (nI_pos (by decide)) (nI_clamp (by decide)) rfl (fun q2 => ?_)
  refine KW.eqW (ws2 := [(h0, .inr (1, [.ref q1, .null, .null, .int 0])), (q1, .inl (Γ.2.2 0, 8, .inl (fun _ => 0))), (q2, .inl (Γ.2.2 0, 8, .inl (fun _ => 0)))]) rfl ?_
  refine KW_putF (q0 := 0) (ty := tyX1 1) (pc' := 20) dX1_init_17 rfl fX1_15 rfl rfl rfl (tyX1_ok 1 (by decide)) rfl rfl (Nat.le_of_ble_eq_true rfl) ?_
  refine KW.eqW (ws2 := [(h0, .inr (1, [.ref q1, .ref q2, .null, .int 0])), (q1, .inl (Γ.2.2 0, 8, .inl (fun _ => 0))), (q2, .inl (Γ.2.2 0, 8, .inl (fun _ => 0)))]) rfl ?_
  refine KW_aload0 (pc' := 21) dX1_init_20 rfl rfl ?_
  refine KW_bipush (pc' := 23) dX1_init_21 rfl (v := nI 8) (by first | rfl | decide) ?_
  refine KW_newz (N := 8) (cu := 0) (su := 0) (pc' := 25) dX1_init_23 rfl k_az (nI_pos (by decide)) (nI_clamp (by decide)) rfl (fun q3 => ?_)
  refine KW.eqW (ws2 := [(h0, .inr (1, [.ref q1, .ref q2, .null, .int 0])), (q1, .inl (Γ.2.2 0, 8, .inl (fun _ => 0))), (q2, .inl (Γ.2.2 0, 8, .inl (fun _ => 0))), (q3, .inl (Γ.2.2 1, 8, .inl (fun _ => 0)))]) rfl ?_
  refine KW_putF (q0 := 0) (ty := tyX1 2) (pc' := 28) dX1_init_25 rfl fX1_18 rfl rfl rfl (tyX1_ok 2 (by decide)) rfl rfl (Nat.le_of_ble_eq_true rfl) ?_
  refine KW.eqW (ws2 := [(h0, .inr (1, [.ref q1, .ref q2, .ref q3, .int 0])), (q1, .inl (Γ.2.2 0, 8, .inl (fun _ => 0))), (q2, .inl (Γ.2.2 0, 8, .inl (fun _ => 0))), (q3, .inl (Γ.2.2 1, 8, .inl (fun _ => 0)))]) rfl ?_
  exact KW_return dX1_init_28 ⟨q1, q2, q3, rfl⟩
def k_TX2 (Γ : kv_G) (h0 : Nat) : va_W → Prop := fun ws => ∃ q1 q2 q3 q4 q5 q6 : Nat, ws = [(h0, .inr (2, [.ref q1, .ref q2, .ref q3, .ref q4, .ref q5, .ref q6, .int 0, .int 0, .int 0, .int 0, .int 0])), (q1, .inl (Γ.2.2 0, 6, .inl (fun _ => 0))), (q2, .inl (Γ.2.2 0, 6, .inl (fun _ => 0))), (q3, .inl (Γ.2.2 0, 6, .inl (fun _ => 0))), (q4, .inl (Γ.2.2 0, 6, .inl (fun _ => 0))), (q5, .inl (Γ.2.2 0, 6, .inl (fun _ => 0))), (q6, .inl (Γ.2.2 0, 6, .inl (fun _ => 0)))]
set_option maxHeartbeats 4000000 in
set_option maxRecDepth 20000 in
theorem k_X2 {Γ : kv_G} {d h0 : Nat} : Kt Γ d vX2_init h0 [(h0, .inr (2, [.null, .null, .null, .null, .null, .null, .int 0, .int 0, .int 0, .int 0, .int 0]))] 6 36 (k_TX2 Γ h0) := by
  refine Kt.of k_okX2 ?_
  refine KW_aload0 (pc' := 1) dX2_init_0 rfl rfl ?_
  refine KW_obj (pc' := 4) dX2_init_1 rfl k_olX2 k_oi k_oc (Nat.le_of_ble_eq_true rfl) ?_
  refine KW_aload0 (pc' := 5) dX2_init_4 rfl rfl ?_
  refine KW_bipush (pc' := 7) dX2_init_5 rfl (v := nI 6) (by first | rfl | decide) ?_
  refine KW_newa (N := 6) (cu := 5) (su := 30) (pc' := 9) dX2_init_7 rfl k_ai (nI_pos (by decide)) (nI_clamp (by decide)) rfl (fun q1 => ?_)
  refine KW.eqW (ws2 := [(h0, .inr (2, [.null, .null, .null, .null, .null, .null, .int 0, .int 0, .int 0, .int 0, .int 0])), (q1, .inl (Γ.2.2 0, 6, .inl (fun _ => 0)))]) rfl ?_
  refine KW_putF (q0 := 0) (ty := tyX2 0) (pc' := 12) dX2_init_9 rfl fX2_9 rfl rfl rfl (tyX2_ok 0 (by decide)) rfl rfl (Nat.le_of_ble_eq_true rfl) ?_
  refine KW.eqW (ws2 := [(h0, .inr (2, [.ref q1, .null, .null, .null, .null, .null, .int 0, .int 0, .int 0, .int 0, .int 0])), (q1, .inl (Γ.2.2 0, 6, .inl (fun _ => 0)))]) rfl ?_
  refine KW_aload0 (pc' := 13) dX2_init_12 rfl rfl ?_
  refine KW_bipush (pc' := 15) dX2_init_13 rfl (v := nI 6) (by first | rfl | decide) ?_
  refine KW_newa (N := 6) (cu := 4) (su := 24) (pc' := 17) dX2_init_15 rfl k_ai (nI_pos (by decide)) (nI_clamp (by decide)) rfl (fun q2 => ?_)
  refine KW.eqW (ws2 := [(h0, .inr (2, [.ref q1, .null, .null, .null, .null, .null, .int 0, .int 0, .int 0, .int 0, .int 0])), (q1, .inl (Γ.2.2 0, 6, .inl (fun _ => 0))), (q2, .inl (Γ.2.2 0, 6, .inl (fun _ => 0)))]) rfl ?_
  refine KW_putF (q0 := 0) (ty := tyX2 1) (pc' := 20) dX2_init_17 rfl fX2_15 rfl rfl rfl (tyX2_ok 1 (by decide)) rfl rfl (Nat.le_of_ble_eq_true rfl) ?_
  refine KW.eqW (ws2 := [(h0, .inr (2, [.ref q1, .ref q2, .null, .null, .null, .null, .int 0, .int 0, .int 0, .int 0, .int 0])), (q1, .inl (Γ.2.2 0, 6, .inl (fun _ => 0))), (q2, .inl (Γ.2.2 0, 6, .inl (fun _ => 0)))]) rfl ?_
  refine KW_aload0 (pc' := 21) dX2_init_20 rfl rfl ?_
  refine KW_bipush (pc' := 23) dX2_init_21 rfl (v := nI 6) (by first | rfl | decide) ?_
  refine KW_newa (N := 6) (cu := 3) (su := 18) (pc' := 25) dX2_init_23 rfl k_ai (nI_pos (by decide)) (nI_clamp (by decide)) rfl (fun q3 => ?_)
  refine KW.eqW (ws2 := [(h0, .inr (2, [.ref q1, .ref q2, .null, .null, .null, .null, .int 0, .int 0, .int 0, .int 0, .int 0])), (q1, .inl (Γ.2.2 0, 6, .inl (fun _ => 0))), (q2, .inl (Γ.2.2 0, 6, .inl (fun _ => 0))), (q3, .inl (Γ.2.2 0, 6, .inl (fun _ => 0)))]) rfl ?_
  refine KW_putF (q0 := 0) (ty := tyX2 2) (pc' := 28) dX2_init_25 rfl fX2_18 rfl rfl rfl (tyX2_ok 2 (by decide)) rfl rfl (Nat.le_of_ble_eq_true rfl) ?_
  refine KW.eqW (ws2 := [(h0, .inr (2, [.ref q1, .ref q2, .ref q3, .null, .null, .null, .int 0, .int 0, .int 0, .int 0, .int 0])), (q1, .inl (Γ.2.2 0, 6, .inl (fun _ => 0))), (q2, .inl (Γ.2.2 0, 6, .inl (fun _ => 0))), (q3, .inl (Γ.2.2 0, 6, .inl (fun _ => 0)))]) rfl ?_
  refine KW_aload0 (pc' := 29) dX2_init_28 rfl rfl ?_
  refine KW_bipush (pc' := 31) dX2_init_29 rfl (v := nI 6) (by first | rfl | decide) ?_
  refine KW_newa (N := 6) (cu := 2) (su := 12) (pc' := 33) dX2_init_31 rfl k_ai (nI_pos (by decide)) (nI_clamp (by decide)) rfl (fun q4 => ?_)
  refine KW.eqW (ws2 := [(h0, .inr (2, [.ref q1, .ref q2, .ref q3, .null, .null, .null, .int 0, .int 0, .int 0, .int 0, .int 0])), (q1, .inl (Γ.2.2 0, 6, .inl (fun _ => 0))), (q2, .inl (Γ.2.2 0, 6, .inl (fun _ => 0))), (q3, .inl (Γ.2.2 0, 6, .inl (fun _ => 0))), (q4, .inl (Γ.2.2 0, 6, .inl (fun _ => 0)))]) rfl ?_
  refine KW_putF (q0 := 0) (ty := tyX2 3) (pc' := 36) dX2_init_33 rfl fX2_21 rfl rfl rfl (tyX2_ok 3 (by decide)) rfl rfl (Nat.le_of_ble_eq_true rfl) ?_
  refine KW.eqW (ws2 := [(h0, .inr (2, [.ref q1, .ref q2, .ref q3, .ref q4, .null, .null, .int 0, .int 0, .int 0, .int 0, .int 0])), (q1, .inl (Γ.2.2 0, 6, .inl (fun _ => 0))), (q2, .inl (Γ.2.2 0, 6, .inl (fun _ => 0))), (q3, .inl (Γ.2.2 0, 6, .inl (fun _ => 0))), (q4, .inl (Γ.2.2 0, 6, .inl (fun _ => 0)))]) rfl ?_
  refine KW_aload0 (pc' := 37) dX2_init_36 rfl rfl ?_
  refine KW_bipush (pc' := 39) dX2_init_37 rfl (v := nI 6) (by first | rfl | decide) ?_
  refine KW_newa (N := 6) (cu := 1) (su := 6) (pc' := 41) dX2_init_39 rfl k_ai (nI_pos (by decide)) (nI_clamp (by decide)) rfl (fun q5 => ?_)
  refine KW.eqW (ws2 := [(h0, .inr (2, [.ref q1, .ref q2, .ref q3, .ref q4, .null, .null, .int 0, .int 0, .int 0, .int 0, .int 0])), (q1, .inl (Γ.2.2 0, 6, .inl (fun _ => 0))), (q2, .inl (Γ.2.2 0, 6, .inl (fun _ => 0))), (q3, .inl (Γ.2.2 0, 6, .inl (fun _ => 0))), (q4, .inl (Γ.2.2 0, 6, .inl (fun _ => 0))), (q5, .inl (Γ.2.2 0, 6, .inl (fun _ => 0)))]) rfl ?_
  refine KW_putF (q0 := 0) (ty := tyX2 4) (pc' := 44) dX2_init_41 rfl fX2_24 rfl rfl rfl (tyX2_ok 4 (by decide)) rfl rfl (Nat.le_of_ble_eq_true rfl) ?_
  refine KW.eqW (ws2 := [(h0, .inr (2, [.ref q1, .ref q2, .ref q3, .ref q4, .ref q5, .null, .int 0, .int 0, .int 0, .int 0, .int 0])), (q1, .inl (Γ.2.2 0, 6, .inl (fun _ => 0))), (q2, .inl (Γ.2.2 0, 6, .inl (fun _ => 0))), (q3, .inl (Γ.2.2 0, 6, .inl (fun _ => 0))), (q4, .inl (Γ.2.2 0, 6, .inl (fun _ => 0))), (q5, .inl (Γ.2.2 0, 6, .inl (fun _ => 0)))]) rfl ?_
  refine KW_aload0 (pc' := 45) dX2_init_44 rfl rfl ?_
  refine KW_bipush (pc' := 47) dX2_init_45 rfl (v := nI 6) (by first | rfl | decide) ?_
  refine KW_newa (N := 6) (cu := 0) (su := 0) (pc' := 49) dX2_init_47 rfl k_ai (nI_pos (by decide)) (nI_clamp (by decide)) rfl (fun q6 => ?_)
  refine KW.eqW (ws2 := [(h0, .inr (2, [.ref q1, .ref q2, .ref q3, .ref q4, .ref q5, .null, .int 0, .int 0, .int 0, .int 0, .int 0])), (q1, .inl (Γ.2.2 0, 6, .inl (fun _ => 0))), (q2, .inl (Γ.2.2 0, 6, .inl (fun _ => 0))), (q3, .inl (Γ.2.2 0, 6, .inl (fun _ => 0))), (q4, .inl (Γ.2.2 0, 6, .inl (fun _ => 0))), (q5, .inl (Γ.2.2 0, 6, .inl (fun _ => 0))), (q6, .inl (Γ.2.2 0, 6, .inl (fun _ => 0)))]) rfl ?_
  refine KW_putF (q0 := 0) (ty := tyX2 5) (pc' := 52) dX2_init_49 rfl fX2_27 rfl rfl rfl (tyX2_ok 5 (by decide)) rfl rfl (Nat.le_of_ble_eq_true rfl) ?_
  refine KW.eqW (ws2 := [(h0, .inr (2, [.ref q1, .ref q2, .ref q3, .ref q4, .ref q5, .ref q6, .int 0, .int 0, .int 0, .int 0, .int 0])), (q1, .inl (Γ.2.2 0, 6, .inl (fun _ => 0))), (q2, .inl (Γ.2.2 0, 6, .inl (fun _ => 0))), (q3, .inl (Γ.2.2 0, 6, .inl (fun _ => 0))), (q4, .inl (Γ.2.2 0, 6, .inl (fun _ => 0))), (q5, .inl (Γ.2.2 0, 6, .inl (fun _ => 0))), (q6, .inl (Γ.2.2 0, 6, .inl (fun _ => 0)))]) rfl ?_
  exact KW_return dX2_init_52 ⟨q1, q2, q3, q4, q5, q6, rfl⟩
def k_TX0 (Γ : kv_G) (h0 : Nat) : va_W → Prop := fun ws => ∃ q1 q2 q3 q4 q5 q6 : Nat, ws = [(h0, .inr (0, [.ref q1, .int 0, .int 0, .int 0])), (q1, .inl (Γ.2.2 3, 5, .inr (.inr (.inr (.inr (va_up (va_up (va_up (va_up (va_up (fun _ => none) 0 (some q2)) 1 (some q3)) 2 (some q4)) 3 (some q5)) 4 (some q6))))))), (q2, .inr (4, [.int 0, .int 0, .int 0, .int 0, .int 0])), (q3, .inr (4, [.int 0, .int 0, .int 0, .int 0, .int 0])), (q4, .inr (4, [.int 0, .int 0, .int 0, .int 0, .int 0])), (q5, .inr (4, [.int 0, .int 0, .int 0, .int 0, .int 0])), (q6, .inr (4, [.int 0, .int 0, .int 0, .int 0, .int 0]))]
set_option maxHeartbeats 4000000 in
set_option maxRecDepth 20000 in
theorem k_X0 {Γ : kv_G} {d h0 : Nat} : Kt Γ (d + 1) vX0_init h0 [(h0, .inr (0, [.null, .int 0, .int 0, .int 0]))] 6 30 (k_TX0 Γ h0) := by
  refine Kt.of k_okX0 ?_
  refine KW_aload0 (pc' := 1) dX0_init_0 rfl rfl ?_
  refine KW_obj (pc' := 4) dX0_init_1 rfl k_olX0 k_oi k_oc (Nat.le_of_ble_eq_true rfl) ?_
  refine KW_aload0 (pc' := 5) dX0_init_4 rfl rfl ?_
  refine KW_iconst (pc' := 6) dX0_init_5 rfl (v := nI 5) (by first | rfl | decide) ?_
  refine KW_newq (N := 5) (t := 3) (cu := 5) (su := 25) (pc' := 9) dX0_init_6 rfl k_clX0_9 (fun _ h => h.2.2.2.2.2) (fun _ => rfl) (nI_pos (by decide)) (nI_clamp (by decide)) rfl (fun q1 => ?_)
  refine KW.eqW (ws2 := [(h0, .inr (0, [.null, .int 0, .int 0, .int 0])), (q1, .inl (Γ.2.2 3, 5, .inr (.inr (.inr (.inr (fun _ => none))))))]) rfl ?_
  refine KW_putF (q0 := 0) (ty := tyX0 0) (pc' := 12) dX0_init_9 rfl fX0_11 rfl rfl rfl (tyX0_ok 0 (by decide)) rfl rfl (Nat.le_of_ble_eq_true rfl) ?_
  refine KW.eqW (ws2 := [(h0, .inr (0, [.ref q1, .int 0, .int 0, .int 0])), (q1, .inl (Γ.2.2 3, 5, .inr (.inr (.inr (.inr (fun _ => none))))))]) rfl ?_
  refine KW_iconst (pc' := 13) dX0_init_12 rfl (v := nI 0) (by first | rfl | decide) ?_
  refine KW_istore1 (pc' := 14) dX0_init_13 rfl (by decide) ?_
  refine KW_iload1 (pc' := 15) dX0_init_14 rfl rfl ?_
  refine KW_iconst (pc' := 16) dX0_init_15 rfl (v := nI 5) (by first | rfl | decide) ?_
  refine KW_geF (tgt := 38) (pc' := 19) dX0_init_16 rfl rfl (by decide +kernel) ?_
  refine KW_aload0 (pc' := 20) dX0_init_19 rfl rfl ?_
  refine KW_get (q0 := 0) (pc' := 23) dX0_init_20 rfl fX0_11 rfl rfl ?_
  refine KW_iload1 (pc' := 24) dX0_init_23 rfl rfl ?_
  refine KW_newN (ci := 4) (N := 5) (fs := [.int 0, .int 0, .int 0, .int 0, .int 0]) (ty := tyX5) (cu := 4) (su := 20) (pc' := 27) dX0_init_24 rfl rfl (by decide) k_clX0_9 k_inX5 k_iiX5 tyX5_ok k_fsX5 (fun q2 => ?_)
  refine KW.eqW (ws2 := [(h0, .inr (0, [.ref q1, .int 0, .int 0, .int 0])), (q1, .inl (Γ.2.2 3, 5, .inr (.inr (.inr (.inr (fun _ => none)))))), (q2, .inr (4, [.int 0, .int 0, .int 0, .int 0, .int 0]))]) rfl ?_
  refine KW_dup (pc' := 28) dX0_init_27 rfl ?_
  refine KW_callN (mc := 0) (ms := 0) (cu := 4) (su := 20) (wc := [(q2, .inr (4, [.int 0, .int 0, .int 0, .int 0, .int 0]))]) (wr := [(h0, .inr (0, [.ref q1, .int 0, .int 0, .int 0])), (q1, .inl (Γ.2.2 3, 5, .inr (.inr (.inr (.inr (fun _ => none))))))]) (pc' := 31) dX0_init_28 rfl k_okX5 (fun _ h => h.2.1) (Nat.le_of_ble_eq_true rfl) k_X5 [2] [0, 1] rfl rfl rfl (by decide) (by decide) (by decide) (fun w1 hw1 => ?_)
  obtain rfl := hw1
  refine KW.eqW (ws2 := [(h0, .inr (0, [.ref q1, .int 0, .int 0, .int 0])), (q1, .inl (Γ.2.2 3, 5, .inr (.inr (.inr (.inr (fun _ => none)))))), (q2, .inr (4, [.int 0, .int 0, .int 0, .int 0, .int 0]))]) rfl ?_
  refine KW_aastn (j := 0) (q0 := 1) (t := 3) (qk := 2) (ci := 4) (pc' := 32) dX0_init_31 rfl (by decide) rfl (fun _ => rfl) rfl (by decide) rfl ?_
  refine KW.eqW (ws2 := [(h0, .inr (0, [.ref q1, .int 0, .int 0, .int 0])), (q1, .inl (Γ.2.2 3, 5, .inr (.inr (.inr (.inr (va_up (fun _ => none) 0 (some q2))))))), (q2, .inr (4, [.int 0, .int 0, .int 0, .int 0, .int 0]))]) rfl ?_
  refine KW_iinc1 (pc' := 35) dX0_init_32 rfl (by decide) (nI_inc (h := 0)) ?_
  refine KW_goto (tgt := 14) dX0_init_35 rfl ?_
  refine KW_iload1 (pc' := 15) dX0_init_14 rfl rfl ?_
  refine KW_iconst (pc' := 16) dX0_init_15 rfl (v := nI 5) (by first | rfl | decide) ?_
  refine KW_geF (tgt := 38) (pc' := 19) dX0_init_16 rfl rfl (by decide +kernel) ?_
  refine KW_aload0 (pc' := 20) dX0_init_19 rfl rfl ?_
  refine KW_get (q0 := 0) (pc' := 23) dX0_init_20 rfl fX0_11 rfl rfl ?_
  refine KW_iload1 (pc' := 24) dX0_init_23 rfl rfl ?_
  refine KW_newN (ci := 4) (N := 5) (fs := [.int 0, .int 0, .int 0, .int 0, .int 0]) (ty := tyX5) (cu := 3) (su := 15) (pc' := 27) dX0_init_24 rfl rfl (by decide) k_clX0_9 k_inX5 k_iiX5 tyX5_ok k_fsX5 (fun q3 => ?_)
  refine KW.eqW (ws2 := [(h0, .inr (0, [.ref q1, .int 0, .int 0, .int 0])), (q1, .inl (Γ.2.2 3, 5, .inr (.inr (.inr (.inr (va_up (fun _ => none) 0 (some q2))))))), (q2, .inr (4, [.int 0, .int 0, .int 0, .int 0, .int 0])), (q3, .inr (4, [.int 0, .int 0, .int 0, .int 0, .int 0]))]) rfl ?_
  refine KW_dup (pc' := 28) dX0_init_27 rfl ?_
  refine KW_callN (mc := 0) (ms := 0) (cu := 3) (su := 15) (wc := [(q3, .inr (4, [.int 0, .int 0, .int 0, .int 0, .int 0]))]) (wr := [(h0, .inr (0, [.ref q1, .int 0, .int 0, .int 0])), (q1, .inl (Γ.2.2 3, 5, .inr (.inr (.inr (.inr (va_up (fun _ => none) 0 (some q2))))))), (q2, .inr (4, [.int 0, .int 0, .int 0, .int 0, .int 0]))]) (pc' := 31) dX0_init_28 rfl k_okX5 (fun _ h => h.2.1) (Nat.le_of_ble_eq_true rfl) k_X5 [3] [0, 1, 2] rfl rfl rfl (by decide) (by decide) (by decide) (fun w1 hw1 => ?_)
  obtain rfl := hw1
  refine KW.eqW (ws2 := [(h0, .inr (0, [.ref q1, .int 0, .int 0, .int 0])), (q1, .inl (Γ.2.2 3, 5, .inr (.inr (.inr (.inr (va_up (fun _ => none) 0 (some q2))))))), (q2, .inr (4, [.int 0, .int 0, .int 0, .int 0, .int 0])), (q3, .inr (4, [.int 0, .int 0, .int 0, .int 0, .int 0]))]) rfl ?_
  refine KW_aastn (j := 1) (q0 := 1) (t := 3) (qk := 3) (ci := 4) (pc' := 32) dX0_init_31 rfl (by decide) rfl (fun _ => rfl) rfl (by decide) rfl ?_
  refine KW.eqW (ws2 := [(h0, .inr (0, [.ref q1, .int 0, .int 0, .int 0])), (q1, .inl (Γ.2.2 3, 5, .inr (.inr (.inr (.inr (va_up (va_up (fun _ => none) 0 (some q2)) 1 (some q3))))))), (q2, .inr (4, [.int 0, .int 0, .int 0, .int 0, .int 0])), (q3, .inr (4, [.int 0, .int 0, .int 0, .int 0, .int 0]))]) rfl ?_
  refine KW_iinc1 (pc' := 35) dX0_init_32 rfl (by decide) (nI_inc (h := 1)) ?_
  refine KW_goto (tgt := 14) dX0_init_35 rfl ?_
  refine KW_iload1 (pc' := 15) dX0_init_14 rfl rfl ?_
  refine KW_iconst (pc' := 16) dX0_init_15 rfl (v := nI 5) (by first | rfl | decide) ?_
  refine KW_geF (tgt := 38) (pc' := 19) dX0_init_16 rfl rfl (by decide +kernel) ?_
  refine KW_aload0 (pc' := 20) dX0_init_19 rfl rfl ?_
  refine KW_get (q0 := 0) (pc' := 23) dX0_init_20 rfl fX0_11 rfl rfl ?_
  refine KW_iload1 (pc' := 24) dX0_init_23 rfl rfl ?_
  refine KW_newN (ci := 4) (N := 5) (fs := [.int 0, .int 0, .int 0, .int 0, .int 0]) (ty := tyX5) (cu := 2) (su := 10) (pc' := 27) dX0_init_24 rfl rfl (by decide) k_clX0_9 k_inX5 k_iiX5 tyX5_ok k_fsX5 (fun q4 => ?_)
  refine KW.eqW (ws2 := [(h0, .inr (0, [.ref q1, .int 0, .int 0, .int 0])), (q1, .inl (Γ.2.2 3, 5, .inr (.inr (.inr (.inr (va_up (va_up (fun _ => none) 0 (some q2)) 1 (some q3))))))), (q2, .inr (4, [.int 0, .int 0, .int 0, .int 0, .int 0])), (q3, .inr (4, [.int 0, .int 0, .int 0, .int 0, .int 0])), (q4, .inr (4, [.int 0, .int 0, .int 0, .int 0, .int 0]))]) rfl ?_
  refine KW_dup (pc' := 28) dX0_init_27 rfl ?_
  refine KW_callN (mc := 0) (ms := 0) (cu := 2) (su := 10) (wc := [(q4, .inr (4, [.int 0, .int 0, .int 0, .int 0, .int 0]))]) (wr := [(h0, .inr (0, [.ref q1, .int 0, .int 0, .int 0])), (q1, .inl (Γ.2.2 3, 5, .inr (.inr (.inr (.inr (va_up (va_up (fun _ => none) 0 (some q2)) 1 (some q3))))))), (q2, .inr (4, [.int 0, .int 0, .int 0, .int 0, .int 0])), (q3, .inr (4, [.int 0, .int 0, .int 0, .int 0, .int 0]))]) (pc' := 31) dX0_init_28 rfl k_okX5 (fun _ h => h.2.1) (Nat.le_of_ble_eq_true rfl) k_X5 [4] [0, 1, 2, 3] rfl rfl rfl (by decide) (by decide) (by decide) (fun w1 hw1 => ?_)
  obtain rfl := hw1
  refine KW.eqW (ws2 := [(h0, .inr (0, [.ref q1, .int 0, .int 0, .int 0])), (q1, .inl (Γ.2.2 3, 5, .inr (.inr (.inr (.inr (va_up (va_up (fun _ => none) 0 (some q2)) 1 (some q3))))))), (q2, .inr (4, [.int 0, .int 0, .int 0, .int 0, .int 0])), (q3, .inr (4, [.int 0, .int 0, .int 0, .int 0, .int 0])), (q4, .inr (4, [.int 0, .int 0, .int 0, .int 0, .int 0]))]) rfl ?_
  refine KW_aastn (j := 2) (q0 := 1) (t := 3) (qk := 4) (ci := 4) (pc' := 32) dX0_init_31 rfl (by decide) rfl (fun _ => rfl) rfl (by decide) rfl ?_
  refine KW.eqW (ws2 := [(h0, .inr (0, [.ref q1, .int 0, .int 0, .int 0])), (q1, .inl (Γ.2.2 3, 5, .inr (.inr (.inr (.inr (va_up (va_up (va_up (fun _ => none) 0 (some q2)) 1 (some q3)) 2 (some q4))))))), (q2, .inr (4, [.int 0, .int 0, .int 0, .int 0, .int 0])), (q3, .inr (4, [.int 0, .int 0, .int 0, .int 0, .int 0])), (q4, .inr (4, [.int 0, .int 0, .int 0, .int 0, .int 0]))]) rfl ?_
  refine KW_iinc1 (pc' := 35) dX0_init_32 rfl (by decide) (nI_inc (h := 2)) ?_
  refine KW_goto (tgt := 14) dX0_init_35 rfl ?_
  refine KW_iload1 (pc' := 15) dX0_init_14 rfl rfl ?_
  refine KW_iconst (pc' := 16) dX0_init_15 rfl (v := nI 5) (by first | rfl | decide) ?_
  refine KW_geF (tgt := 38) (pc' := 19) dX0_init_16 rfl rfl (by decide +kernel) ?_
  refine KW_aload0 (pc' := 20) dX0_init_19 rfl rfl ?_
  refine KW_get (q0 := 0) (pc' := 23) dX0_init_20 rfl fX0_11 rfl rfl ?_
  refine KW_iload1 (pc' := 24) dX0_init_23 rfl rfl ?_
  refine KW_newN (ci := 4) (N := 5) (fs := [.int 0, .int 0, .int 0, .int 0, .int 0]) (ty := tyX5) (cu := 1) (su := 5) (pc' := 27) dX0_init_24 rfl rfl (by decide) k_clX0_9 k_inX5 k_iiX5 tyX5_ok k_fsX5 (fun q5 => ?_)
  refine KW.eqW (ws2 := [(h0, .inr (0, [.ref q1, .int 0, .int 0, .int 0])), (q1, .inl (Γ.2.2 3, 5, .inr (.inr (.inr (.inr (va_up (va_up (va_up (fun _ => none) 0 (some q2)) 1 (some q3)) 2 (some q4))))))), (q2, .inr (4, [.int 0, .int 0, .int 0, .int 0, .int 0])), (q3, .inr (4, [.int 0, .int 0, .int 0, .int 0, .int 0])), (q4, .inr (4, [.int 0, .int 0, .int 0, .int 0, .int 0])), (q5, .inr (4, [.int 0, .int 0, .int 0, .int 0, .int 0]))]) rfl ?_
  refine KW_dup (pc' := 28) dX0_init_27 rfl ?_
  refine KW_callN (mc := 0) (ms := 0) (cu := 1) (su := 5) (wc := [(q5, .inr (4, [.int 0, .int 0, .int 0, .int 0, .int 0]))]) (wr := [(h0, .inr (0, [.ref q1, .int 0, .int 0, .int 0])), (q1, .inl (Γ.2.2 3, 5, .inr (.inr (.inr (.inr (va_up (va_up (va_up (fun _ => none) 0 (some q2)) 1 (some q3)) 2 (some q4))))))), (q2, .inr (4, [.int 0, .int 0, .int 0, .int 0, .int 0])), (q3, .inr (4, [.int 0, .int 0, .int 0, .int 0, .int 0])), (q4, .inr (4, [.int 0, .int 0, .int 0, .int 0, .int 0]))]) (pc' := 31) dX0_init_28 rfl k_okX5 (fun _ h => h.2.1) (Nat.le_of_ble_eq_true rfl) k_X5 [5] [0, 1, 2, 3, 4] rfl rfl rfl (by decide) (by decide) (by decide) (fun w1 hw1 => ?_)
  obtain rfl := hw1
  refine KW.eqW (ws2 := [(h0, .inr (0, [.ref q1, .int 0, .int 0, .int 0])), (q1, .inl (Γ.2.2 3, 5, .inr (.inr (.inr (.inr (va_up (va_up (va_up (fun _ => none) 0 (some q2)) 1 (some q3)) 2 (some q4))))))), (q2, .inr (4, [.int 0, .int 0, .int 0, .int 0, .int 0])), (q3, .inr (4, [.int 0, .int 0, .int 0, .int 0, .int 0])), (q4, .inr (4, [.int 0, .int 0, .int 0, .int 0, .int 0])), (q5, .inr (4, [.int 0, .int 0, .int 0, .int 0, .int 0]))]) rfl ?_
  refine KW_aastn (j := 3) (q0 := 1) (t := 3) (qk := 5) (ci := 4) (pc' := 32) dX0_init_31 rfl (by decide) rfl (fun _ => rfl) rfl (by decide) rfl ?_
  refine KW.eqW (ws2 := [(h0, .inr (0, [.ref q1, .int 0, .int 0, .int 0])), (q1, .inl (Γ.2.2 3, 5, .inr (.inr (.inr (.inr (va_up (va_up (va_up (va_up (fun _ => none) 0 (some q2)) 1 (some q3)) 2 (some q4)) 3 (some q5))))))), (q2, .inr (4, [.int 0, .int 0, .int 0, .int 0, .int 0])), (q3, .inr (4, [.int 0, .int 0, .int 0, .int 0, .int 0])), (q4, .inr (4, [.int 0, .int 0, .int 0, .int 0, .int 0])), (q5, .inr (4, [.int 0, .int 0, .int 0, .int 0, .int 0]))]) rfl ?_
  refine KW_iinc1 (pc' := 35) dX0_init_32 rfl (by decide) (nI_inc (h := 3)) ?_
  refine KW_goto (tgt := 14) dX0_init_35 rfl ?_
  refine KW_iload1 (pc' := 15) dX0_init_14 rfl rfl ?_
  refine KW_iconst (pc' := 16) dX0_init_15 rfl (v := nI 5) (by first | rfl | decide) ?_
  refine KW_geF (tgt := 38) (pc' := 19) dX0_init_16 rfl rfl (by decide +kernel) ?_
  refine KW_aload0 (pc' := 20) dX0_init_19 rfl rfl ?_
  refine KW_get (q0 := 0) (pc' := 23) dX0_init_20 rfl fX0_11 rfl rfl ?_
  refine KW_iload1 (pc' := 24) dX0_init_23 rfl rfl ?_
  refine KW_newN (ci := 4) (N := 5) (fs := [.int 0, .int 0, .int 0, .int 0, .int 0]) (ty := tyX5) (cu := 0) (su := 0) (pc' := 27) dX0_init_24 rfl rfl (by decide) k_clX0_9 k_inX5 k_iiX5 tyX5_ok k_fsX5 (fun q6 => ?_)
  refine KW.eqW (ws2 := [(h0, .inr (0, [.ref q1, .int 0, .int 0, .int 0])), (q1, .inl (Γ.2.2 3, 5, .inr (.inr (.inr (.inr (va_up (va_up (va_up (va_up (fun _ => none) 0 (some q2)) 1 (some q3)) 2 (some q4)) 3 (some q5))))))), (q2, .inr (4, [.int 0, .int 0, .int 0, .int 0, .int 0])), (q3, .inr (4, [.int 0, .int 0, .int 0, .int 0, .int 0])), (q4, .inr (4, [.int 0, .int 0, .int 0, .int 0, .int 0])), (q5, .inr (4, [.int 0, .int 0, .int 0, .int 0, .int 0])), (q6, .inr (4, [.int 0, .int 0, .int 0, .int 0, .int 0]))]) rfl ?_
  refine KW_dup (pc' := 28) dX0_init_27 rfl ?_
  refine KW_callN (mc := 0) (ms := 0) (cu := 0) (su := 0) (wc := [(q6, .inr (4, [.int 0, .int 0, .int 0, .int 0, .int 0]))]) (wr := [(h0, .inr (0, [.ref q1, .int 0, .int 0, .int 0])), (q1, .inl (Γ.2.2 3, 5, .inr (.inr (.inr (.inr (va_up (va_up (va_up (va_up (fun _ => none) 0 (some q2)) 1 (some q3)) 2 (some q4)) 3 (some q5))))))), (q2, .inr (4, [.int 0, .int 0, .int 0, .int 0, .int 0])), (q3, .inr (4, [.int 0, .int 0, .int 0, .int 0, .int 0])), (q4, .inr (4, [.int 0, .int 0, .int 0, .int 0, .int 0])), (q5, .inr (4, [.int 0, .int 0, .int 0, .int 0, .int 0]))]) (pc' := 31) dX0_init_28 rfl k_okX5 (fun _ h => h.2.1) (Nat.le_of_ble_eq_true rfl) k_X5 [6] [0, 1, 2, 3, 4, 5] rfl rfl rfl (by decide) (by decide) (by decide) (fun w1 hw1 => ?_)
  obtain rfl := hw1
  refine KW.eqW (ws2 := [(h0, .inr (0, [.ref q1, .int 0, .int 0, .int 0])), (q1, .inl (Γ.2.2 3, 5, .inr (.inr (.inr (.inr (va_up (va_up (va_up (va_up (fun _ => none) 0 (some q2)) 1 (some q3)) 2 (some q4)) 3 (some q5))))))), (q2, .inr (4, [.int 0, .int 0, .int 0, .int 0, .int 0])), (q3, .inr (4, [.int 0, .int 0, .int 0, .int 0, .int 0])), (q4, .inr (4, [.int 0, .int 0, .int 0, .int 0, .int 0])), (q5, .inr (4, [.int 0, .int 0, .int 0, .int 0, .int 0])), (q6, .inr (4, [.int 0, .int 0, .int 0, .int 0, .int 0]))]) rfl ?_
  refine KW_aastn (j := 4) (q0 := 1) (t := 3) (qk := 6) (ci := 4) (pc' := 32) dX0_init_31 rfl (by decide) rfl (fun _ => rfl) rfl (by decide) rfl ?_
  refine KW.eqW (ws2 := [(h0, .inr (0, [.ref q1, .int 0, .int 0, .int 0])), (q1, .inl (Γ.2.2 3, 5, .inr (.inr (.inr (.inr (va_up (va_up (va_up (va_up (va_up (fun _ => none) 0 (some q2)) 1 (some q3)) 2 (some q4)) 3 (some q5)) 4 (some q6))))))), (q2, .inr (4, [.int 0, .int 0, .int 0, .int 0, .int 0])), (q3, .inr (4, [.int 0, .int 0, .int 0, .int 0, .int 0])), (q4, .inr (4, [.int 0, .int 0, .int 0, .int 0, .int 0])), (q5, .inr (4, [.int 0, .int 0, .int 0, .int 0, .int 0])), (q6, .inr (4, [.int 0, .int 0, .int 0, .int 0, .int 0]))]) rfl ?_
  refine KW_iinc1 (pc' := 35) dX0_init_32 rfl (by decide) (nI_inc (h := 4)) ?_
  refine KW_goto (tgt := 14) dX0_init_35 rfl ?_
  refine KW_iload1 (pc' := 15) dX0_init_14 rfl rfl ?_
  refine KW_iconst (pc' := 16) dX0_init_15 rfl (v := nI 5) (by first | rfl | decide) ?_
  refine KW_geT (tgt := 38) dX0_init_16 rfl (by decide +kernel) ?_
  exact KW_return dX0_init_38 ⟨q1, q2, q3, q4, q5, q6, rfl⟩
