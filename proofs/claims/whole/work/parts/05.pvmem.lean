/-! the picture's rows for fields, arrays, calls; contracts (Ct) -/
theorem pv_T_sub : ∀ w ∈ pv_T, w ∈ lw_tbl := fun _ h => (List.mem_filter.mp h).1
theorem pv_good {w : Cond} (h : w ∈ pv_T) : (w.onTables && w.keeps) = true ∨ ∃ ty, w = .arrayClass ty := good_of_word (List.mem_filter.mp h).2
theorem pv_cl_in : ∀ q ∈ pv_cl, ∀ w ∈ u_ws q.1 q.2.1 q.2.2, w ∈ pv_T := by decide +kernel
theorem pv_cl_ty : ∀ q ∈ pv_cl, ∀ k, k < q.2.2 → (parseFieldDescriptor (q.2.1 k).2.2.1).isSome = true := by decide +kernel
theorem pv_cl_nm : ∀ q ∈ pv_cl, ∀ a, a < q.2.2 → ∀ b, b < q.2.2 → a ≠ b → (q.2.1 a).2.1 ≠ (q.2.1 b).2.1 := by decide +kernel
def pv_c (ci : Nat) : vw_C := pv_cl.getD ci ("", TX4, 0)
theorem pv_c_at {ci k : Nat} (h : k < (pv_c ci).2.2) : pv_cl[ci]? = some (pv_c ci) ∧ pv_c ci ∈ pv_cl := by
  have h2 : ci < pv_cl.length := by
    rcases Nat.lt_or_ge ci pv_cl.length with h2 | h2
    · exact h2
    · exfalso
      have e : pv_c ci = ("", TX4, 0) := by simp [pv_c, List.getD_eq_getElem?_getD, List.getElem?_eq_none h2]
      rw [e] at h
      exact absurd h (Nat.not_lt_zero k)
  have e : pv_c ci = pv_cl[ci] := by simp [pv_c, List.getD_eq_getElem?_getD, List.getElem?_eq_getElem h2]
  exact ⟨by rw [List.getElem?_eq_getElem h2, e], by rw [e]; exact List.getElem_mem h2⟩
/-- entry i of class own's pool names field k of class ci -/
def pv_fld (own : String) (i ci k : Nat) : Prop := k < (pv_c ci).2.2 ∧ Cond.fieldLink own i ((pv_c ci).2.1 k).1 ((pv_c ci).2.1 k).2.1 ((pv_c ci).2.1 k).2.2.1 ∈ pv_T
/-- it may be written: not final, of type ty -/
def pv_wr (ci k : Nat) (ty : FieldType) : Prop := ((pv_c ci).2.1 k).2.2.2 = false ∧ parseFieldDescriptor ((pv_c ci).2.1 k).2.2.1 = some ty
theorem pv_ce_o {cAt : Nat → ClassId} {ad : Nat → Nat} {M : pv_M} {pl ci : Nat} {fs : List (Option Nat)} (hl : pv_lay pl = .inl (ci, fs)) : pv_ce cAt ad M pl = .inr (ci, pv_fs ad (M pl) 0 fs) := by simp [pv_ce, hl]
theorem pv_ce_a {cAt : Nat → ClassId} {ad : Nat → Nat} {M : pv_M} {pl t n : Nat} (hl : pv_lay pl = .inr (.inl (t, n))) : pv_ce cAt ad M pl = .inl (cAt t, n, .inl (M pl)) := by simp [pv_ce, hl]
theorem pv_ce_r {cAt : Nat → ClassId} {ad : Nat → Nat} {M : pv_M} {pl t : Nat} {ps : List Nat} (hl : pv_lay pl = .inr (.inr (t, ps))) : pv_ce cAt ad M pl = .inl (cAt t, ps.length, .inr (.inr (.inr (.inr (fun j => (ps[j]?).map ad))))) := by simp [pv_ce, hl]
theorem pv_row_self (M : pv_M) (p : Nat) (f : Nat → Int32) : pv_row M p f p = f := by simp [pv_row]
theorem pv_lay_lt {pl : Nat} (h : pl < 50 ∨ pl ≥ 50) (hn : pv_lay pl ≠ .inr (.inr (9, []))) : pl < 50 := by
  rcases h with h | h
  · exact h
  · exact absurd (by
      unfold pv_lay
      split <;> first | rfl | (exfalso; omega)) hn
theorem pv_lt_o {pl ci : Nat} {fs : List (Option Nat)} (hl : pv_lay pl = .inl (ci, fs)) : pl < 50 := pv_lay_lt (Nat.lt_or_ge pl 50) (by rw [hl]; simp)
theorem pv_lt_a {pl t n : Nat} (hl : pv_lay pl = .inr (.inl (t, n))) : pl < 50 := pv_lay_lt (Nat.lt_or_ge pl 50) (by rw [hl]; simp)
theorem pv_lt_r {pl t p0 : Nat} {ps : List Nat} (hl : pv_lay pl = .inr (.inr (t, p0 :: ps))) : pl < 50 := pv_lay_lt (Nat.lt_or_ge pl 50) (by rw [hl]; simp)
section PV2
variable {Γ : pv_G} {d : Nat} {V : pv_V} {pc pc' : Nat} {L st : List Value} {M : pv_M} {Q : pv_Q}
theorem PW_getI {i pl ci k : Nat} {fs : List (Option Nat)} (hd : decode V.2.1 pc = .ok (.getfield i, 3)) (hp : pc + 3 = pc') (hf : pv_fld V.1.cls i ci k) (hl0 : pv_lay pl = .inl (ci, fs)) (hk : fs[k]? = some none) (k1 : PW Γ d V pc' L (.int (M pl k) :: st) M Q) : PW Γ d V pc L (.ref pl :: st) M Q := by
  subst hp
  intro p e R s m args below meth c A cells slots Qf C hR E H locs ls hW hl
  obtain ⟨hx, hb, hml, hown, hts, hK, hN, hRm, hA, hi, hX⟩ := id C
  obtain ⟨hc, hc2⟩ := pv_c_at hf.1
  exact va_get hx hb hts (pv_cl_in _ hc2) hown hK hW.1 pl ((pv_ws_get _ _ _ (pv_lt_o hl0)).trans (by rw [pv_ce_o hl0])) hc k hf.1 (hts _ hf.2) (fun _ h => h) (v := .int (M pl k)) (by rw [pv_fs_get, hk]; simp) hd (k1 p e R s m args below meth c A cells slots Qf C hR E H locs ls hW hl)
theorem PW_getR {i pl ci k q : Nat} {fs : List (Option Nat)} (hd : decode V.2.1 pc = .ok (.getfield i, 3)) (hp : pc + 3 = pc') (hf : pv_fld V.1.cls i ci k) (hl0 : pv_lay pl = .inl (ci, fs)) (hk : fs[k]? = some (some q)) (k1 : PW Γ d V pc' L (.ref q :: st) M Q) : PW Γ d V pc L (.ref pl :: st) M Q := by
  subst hp
  intro p e R s m args below meth c A cells slots Qf C hR E H locs ls hW hl
  obtain ⟨hx, hb, hml, hown, hts, hK, hN, hRm, hA, hi, hX⟩ := id C
  obtain ⟨hc, hc2⟩ := pv_c_at hf.1
  exact va_get hx hb hts (pv_cl_in _ hc2) hown hK hW.1 pl ((pv_ws_get _ _ _ (pv_lt_o hl0)).trans (by rw [pv_ce_o hl0])) hc k hf.1 (hts _ hf.2) (fun _ h => h) (v := .ref (Γ.2.2.2 q)) (by rw [pv_fs_get, hk]; simp) hd (k1 p e R s m args below meth c A cells slots Qf C hR E H locs ls hW hl)
theorem PW_putG {i pl ci k : Nat} {fs : List (Option Nat)} {x : Int32} (ty : FieldType) (hn : narrow ty (.int x) = .int x) (hft : fits ty (.int x) = true) (hd : decode V.2.1 pc = .ok (.putfield i, 3)) (hp : pc + 3 = pc') (hf : pv_fld V.1.cls i ci k) (hw : pv_wr ci k ty) (hl0 : pv_lay pl = .inl (ci, fs)) (hk : fs[k]? = some none) (k1 : PW Γ d V pc' L st (pv_up M pl k x) Q) : PW Γ d V pc L (.int x :: .ref pl :: st) M Q := by
  subst hp
  intro p e R s m args below meth c A cells slots Qf C hR E H locs ls hW hl
  obtain ⟨hx, hb, hml, hown, hts, hK, hN, hRm, hA, hi, hX⟩ := id C
  obtain ⟨hc, hc2⟩ := pv_c_at hf.1
  refine va_put hx hb hts (pv_cl_in _ hc2) (fun k => (parseFieldDescriptor ((pv_c ci).2.1 k).2.2.1).getD .int) (fun k hk => ?_) (pv_cl_nm _ hc2) hown hK hW.1 (pv_D hA hi) hW.2 pl ((pv_ws_get _ _ _ (pv_lt_o hl0)).trans (by rw [pv_ce_o hl0])) hc k hf.1 (hts _ hf.2) (fun _ h => h) hw.1 (v := .int x) hw.2 hn hft (by rw [pv_fs_len]; exact (List.getElem?_eq_some_iff.mp hk).1) hd (fun H1 locs1 hP1 hD1 hS1 => ?_)
  · have := pv_cl_ty _ hc2 k hk
    obtain ⟨t, ht⟩ := Option.isSome_iff_exists.mp this
    simp [ht]
  · rw [pv_fs_set _ _ _ _ _ hk, pv_ws_set _ _ _ _ (upd (M pl) k x) _ (by rw [pv_ce_o hl0, pv_row_self])] at hP1
    exact k1 p e R s m args below meth c A cells slots Qf C hR E H1 locs1 ls ⟨hP1, hS1⟩ hl
theorem PW_putI {i pl ci k : Nat} {fs : List (Option Nat)} {x : Int32} (hd : decode V.2.1 pc = .ok (.putfield i, 3)) (hp : pc + 3 = pc') (hf : pv_fld V.1.cls i ci k) (hw : pv_wr ci k .int) (hl0 : pv_lay pl = .inl (ci, fs)) (hk : fs[k]? = some none) (k1 : PW Γ d V pc' L st (pv_up M pl k x) Q) : PW Γ d V pc L (.int x :: .ref pl :: st) M Q :=
  PW_putG .int rfl rfl hd hp hf hw hl0 hk k1
theorem PW_iald {pl n : Nat} {i : Int32} (hd : decode V.2.1 pc = .ok (.iaload, 1)) (hp : pc + 1 = pc') (hl0 : pv_lay pl = .inr (.inl (0, n))) (hin : vp_in i n) (k1 : PW Γ d V pc' L (.int (M pl i.toNatClampNeg) :: st) M Q) : PW Γ d V pc L (.int i :: .ref pl :: st) M Q := by
  subst hp
  intro p e R s m args below meth c A cells slots Qf C hR E H locs ls hW hl
  obtain ⟨hx, hb, hml, hown, hts, hK, hN, hRm, hA, hi, hX⟩ := id C
  exact va_iald hx hb hK hW.1 pl 0 ((pv_ws_get _ _ _ (pv_lt_a hl0)).trans (by rw [pv_ce_a hl0])) rfl hin hd (k1 p e R s m args below meth c A cells slots Qf C hR E H locs ls hW hl)
theorem PW_zald {pl n : Nat} {i : Int32} (hd : decode V.2.1 pc = .ok (.baload, 1)) (hp : pc + 1 = pc') (hl0 : pv_lay pl = .inr (.inl (1, n))) (hin : vp_in i n) (k1 : PW Γ d V pc' L (.int (M pl i.toNatClampNeg) :: st) M Q) : PW Γ d V pc L (.int i :: .ref pl :: st) M Q := by
  subst hp
  intro p e R s m args below meth c A cells slots Qf C hR E H locs ls hW hl
  obtain ⟨hx, hb, hml, hown, hts, hK, hN, hRm, hA, hi, hX⟩ := id C
  exact va_zald hx hb hK hW.1 pl 1 ((pv_ws_get _ _ _ (pv_lt_a hl0)).trans (by rw [pv_ce_a hl0])) rfl hin hd (k1 p e R s m args below meth c A cells slots Qf C hR E H locs ls hW hl)
theorem PW_iast {pl n : Nat} {i x : Int32} (hd : decode V.2.1 pc = .ok (.iastore, 1)) (hp : pc + 1 = pc') (hl0 : pv_lay pl = .inr (.inl (0, n))) (hin : vp_in i n) (k1 : PW Γ d V pc' L st (pv_up M pl i.toNatClampNeg x) Q) : PW Γ d V pc L (.int x :: .int i :: .ref pl :: st) M Q := by
  subst hp
  intro p e R s m args below meth c A cells slots Qf C hR E H locs ls hW hl
  obtain ⟨hx, hb, hml, hown, hts, hK, hN, hRm, hA, hi, hX⟩ := id C
  refine va_iast hx hb hK hW.1 (pv_D hA hi) hW.2 pl 0 ((pv_ws_get _ _ _ (pv_lt_a hl0)).trans (by rw [pv_ce_a hl0])) rfl hin hd (fun H1 locs1 hP1 hD1 hS1 => ?_)
  rw [pv_ws_set _ _ _ _ (upd (M pl) i.toNatClampNeg x) _ (by rw [pv_ce_a hl0, pv_row_self])] at hP1
  exact k1 p e R s m args below meth c A cells slots Qf C hR E H1 locs1 ls ⟨hP1, hS1⟩ hl
theorem PW_zast {pl n : Nat} {i x : Int32} (hd : decode V.2.1 pc = .ok (.bastore, 1)) (hp : pc + 1 = pc') (hl0 : pv_lay pl = .inr (.inl (1, n))) (hin : vp_in i n) (hx1 : vp_nar .boolean x = x) (k1 : PW Γ d V pc' L st (pv_up M pl i.toNatClampNeg x) Q) : PW Γ d V pc L (.int x :: .int i :: .ref pl :: st) M Q := by
  subst hp
  intro p e R s m args below meth c A cells slots Qf C hR E H locs ls hW hl
  obtain ⟨hx, hb, hml, hown, hts, hK, hN, hRm, hA, hi, hX⟩ := id C
  refine va_zast hx hb hK hW.1 (pv_D hA hi) hW.2 pl 1 ((pv_ws_get _ _ _ (pv_lt_a hl0)).trans (by rw [pv_ce_a hl0])) rfl hin hd (fun H1 locs1 hP1 hD1 hS1 => ?_)
  rw [hx1, pv_ws_set _ _ _ _ (upd (M pl) i.toNatClampNeg x) _ (by rw [pv_ce_a hl0, pv_row_self])] at hP1
  exact k1 p e R s m args below meth c A cells slots Qf C hR E H1 locs1 ls ⟨hP1, hS1⟩ hl
theorem PW_aald {pl q t : Nat} {ps : List Nat} {i : Int32} (hd : decode V.2.1 pc = .ok (.aaload, 1)) (hp : pc + 1 = pc') (hl0 : pv_lay pl = .inr (.inr (t, ps))) (ht : t = 2 ∨ t = 3) (hin : vp_in i ps.length) (hq : ps[i.toNatClampNeg]? = some q) (k1 : PW Γ d V pc' L (.ref q :: st) M Q) : PW Γ d V pc L (.int i :: .ref pl :: st) M Q := by
  subst hp
  intro p e R s m args below meth c A cells slots Qf C hR E H locs ls hW hl
  obtain ⟨hx, hb, hml, hown, hts, hK, hN, hRm, hA, hi, hX⟩ := id C
  have hlt : pl < 50 := pv_lay_lt (Nat.lt_or_ge pl 50) (by rw [hl0]; rcases ht with rfl | rfl <;> simp)
  have kk := k1 p e R s m args below meth c A cells slots Qf C hR E H locs ls hW hl
  have e1 : va_rf ((fun j => (ps[j]?).map Γ.2.2.2) i.toNatClampNeg) = Value.ref (Γ.2.2.2 q) := by simp [hq, va_rf]
  rcases ht with rfl | rfl
  · exact va_aldq hx hb hK hW.1 pl 2 ((pv_ws_get _ _ _ hlt).trans (by rw [pv_ce_r hl0])) rfl hin hd (by rw [e1]; exact kk)
  · exact va_aldq hx hb hK hW.1 pl 3 ((pv_ws_get _ _ _ hlt).trans (by rw [pv_ce_r hl0])) rfl hin hd (by rw [e1]; exact kk)
theorem PW_copy {i a b na nb : Nat} {sp dp n : Int32} (hd : decode V.2.1 pc = .ok (.invokestatic i, 3)) (hp : pc + 3 = pc') (hlink : Cond.methodLink V.1.cls i arraycopyName ∈ pv_T) (hrest : (st.map fun v => v.category).sum ≤ 8) (hla : pv_lay a = .inr (.inl (0, na))) (hlb : pv_lay b = .inr (.inl (0, nb)))
    (h1 : ¬ sp < 0) (h2 : ¬ dp < 0) (h3 : ¬ n < 0) (h4 : sp.toNatClampNeg + n.toNatClampNeg ≤ na) (h5 : dp.toNatClampNeg + n.toNatClampNeg ≤ nb) (k1 : PW Γ d V pc' L st (pv_row M b (va_cpy (M a) (M b) sp.toNatClampNeg dp.toNatClampNeg n.toNatClampNeg)) Q) : PW Γ d V pc L (.int n :: .int dp :: .ref b :: .int sp :: .ref a :: st) M Q := by
  subst hp
  intro p e R s m args below meth c A cells slots Qf C hR E H locs ls hW hl
  obtain ⟨hx, hb, hml, hown, hts, hK, hN, hRm, hA, hi, hX⟩ := id C
  have hcat : ((st.map (pv_tr Γ.2.2.2)).map fun v => v.category).sum ≤ 8 := by
    rw [List.map_map, show ((fun v : Value => v.category) ∘ pv_tr Γ.2.2.2) = fun v => v.category from funext fun v => pv_tr_cat _ v]
    exact hrest
  have hnw : nativeFrameWords "java/lang/System" "arraycopy" 5 = 7 := by decide
  refine va_copyi hx hb (hml.trans hl.1.symm) hown (hts _ hlink) (hts _ (by decide +kernel)) (hts _ (by decide +kernel)) (hts _ (by decide +kernel)) hK hW.1 (pv_D hA hi) hW.2 a b 0 0 ((pv_ws_get _ _ _ (pv_lt_a hla)).trans (by rw [pv_ce_a hla])) ((pv_ws_get _ _ _ (pv_lt_a hlb)).trans (by rw [pv_ce_a hlb])) rfl rfl rfl h1 h2 h3 h4 h5 (fun _ _ => rfl) (by omega) (by rw [hnw]; omega) hd (fun H1 locs1 hP1 hD1 hS1 => ?_)
  rw [pv_ws_set _ _ _ _ (va_cpy (M a) (M b) sp.toNatClampNeg dp.toNatClampNeg n.toNatClampNeg) _ (by rw [pv_ce_a hlb, pv_row_self])] at hP1
  exact k1 p e R s m args below meth c A cells slots Qf C hR E H1 locs1 ls ⟨hP1, hS1⟩ hl
theorem PW_sld {n : Nat} {xs : Nat → Int32} {i : Int32} (hd : decode V.2.1 pc = .ok (.iaload, 1)) (hp : pc + 1 = pc') (hV : V.2.2.2.2 = some (n, xs)) (hin : vp_in i n) (k1 : PW Γ d V pc' L (.int (xs i.toNatClampNeg) :: st) M Q) : PW Γ d V pc L (.int i :: .ref 50 :: st) M Q := by
  subst hp
  intro p e R s m args below meth c A cells slots Qf C hR E H locs ls hW hl
  obtain ⟨hx, hb, hml, hown, hts, hK, hN, hRm, hA, hi, hX⟩ := id C
  obtain ⟨g1, g2, g3⟩ := hX _ _ hV
  exact va_sld hx hb g1 g2 g3 hW.2 hin hd (k1 p e R s m args below meth c A cells slots Qf C hR E H locs ls hW hl)
theorem PW_slen {n : Nat} {xs : Nat → Int32} (hd : decode V.2.1 pc = .ok (.arraylength, 1)) (hp : pc + 1 = pc') (hV : V.2.2.2.2 = some (n, xs)) (k1 : PW Γ d V pc' L (.int (Int32.ofNat n) :: st) M Q) : PW Γ d V pc L (.ref 50 :: st) M Q := by
  subst hp
  intro p e R s m args below meth c A cells slots Qf C hR E H locs ls hW hl
  obtain ⟨hx, hb, hml, hown, hts, hK, hN, hRm, hA, hi, hX⟩ := id C
  obtain ⟨g1, g2, g3⟩ := hX _ _ hV
  exact va_slen hx hb g1 g2 g3 hW.2 hd (k1 p e R s m args below meth c A cells slots Qf C hR E H locs ls hW hl)
/-! contracts -/
def pv_A (ad : Nat → Nat) : Nat → Prop := fun q => ∃ k, k < 50 ∧ ad k = q
def pv_rm (d : Nat) : Room := { frames := d + 2, cells := 0, slots := 0, locals := 64 * (d + 2) }
def pv_Qc (Γ : pv_G) (Q : pv_Q) : Array Value → State → Outcome → State → Prop := fun _ st oc t => (∃ (r : Option Value) (M' : pv_M), oc = .returned (r.map (pv_tr Γ.2.2.2)) ∧ Q r M' ∧ va_P Γ.2.1 pv_cl (pv_ws Γ.2.2.1 Γ.2.2.2 M') t.heap) ∧ va_F (pv_A Γ.2.2.2) st t
def pv_w (V : pv_V) : List Cond := Cond.code V.1 V.2.1 V.2.2.1 V.2.2.2.1 :: pv_T
def Ct (Γ : pv_G) (d : Nat) (V : pv_V) (as : List Value) (M : pv_M) (Q : pv_Q) : Prop :=
  Met Γ.1 V.1 (pv_w V) (pv_rm d) (va_Pc (as.map (pv_tr Γ.2.2.2)) (fun U => va_P Γ.2.1 pv_cl (pv_ws Γ.2.2.1 Γ.2.2.2 M) U.heap ∧ va_K Γ.2.1 pv_cl (pv_tys Γ.2.2.1) U ∧ pv_N U ∧ ∀ i j, i < 50 → j < 50 → Γ.2.2.2 i = Γ.2.2.2 j → i = j)) (pv_Qc Γ Q) 0 0 (pv_A Γ.2.2.2)
def pv_ent : List Value → List Value
  | [] => []
  | v :: r => match v with
    | .long x => .long x :: .null :: pv_ent r
    | v => v :: pv_ent r
theorem pv_ent_in (ad : Nat → Nat) (q : Nat × Value) (pad : Nat) : ∀ (as : List Value) (i : Nat), (∀ v ∈ as, v.category = 2 → ∃ x, v = .long x) → q ∈ pv_lv ad i (pv_ent as ++ List.replicate pad .null) → q ∈ lv_args i (as.map (pv_tr ad))
  | [], i, _, h => by
    exfalso
    obtain ⟨j, v, h1, h2, h3⟩ := (pv_lv_mem ad q _ i).mp h
    have := List.mem_of_getElem? h1
    simp [pv_ent] at this
    exact h2 this.2
  | v :: r, i, hc, h => by
    have ih := fun i => pv_ent_in ad q pad r i (fun w hw => hc w (List.mem_cons_of_mem _ hw))
    have hv := hc v List.mem_cons_self
    cases v with
    | long x =>
      simp only [pv_ent, List.cons_append, pv_lv, List.mem_cons] at h
      simp only [List.map_cons, lv_args, List.mem_cons, pv_tr_cat]
      rcases h with h | h
      · exact Or.inl h
      · exact Or.inr (by rw [if_pos (by rfl)]; exact ih _ h)
    | double x => obtain ⟨y, hy⟩ := hv rfl; cases hy
    | null =>
      simp only [pv_ent, List.cons_append, pv_lv] at h
      simp only [List.map_cons, lv_args, List.mem_cons, pv_tr_cat]
      exact Or.inr (by rw [if_neg (by simp [Value.category])]; exact ih _ h)
    | int x =>
      simp only [pv_ent, List.cons_append, pv_lv, List.mem_cons] at h
      simp only [List.map_cons, lv_args, List.mem_cons, pv_tr_cat]
      rcases h with h | h
      · exact Or.inl h
      · exact Or.inr (by rw [if_neg (by simp [Value.category])]; exact ih _ h)
    | float x =>
      simp only [pv_ent, List.cons_append, pv_lv, List.mem_cons] at h
      simp only [List.map_cons, lv_args, List.mem_cons, pv_tr_cat]
      rcases h with h | h
      · exact Or.inl h
      · exact Or.inr (by rw [if_neg (by simp [Value.category])]; exact ih _ h)
    | ref x =>
      simp only [pv_ent, List.cons_append, pv_lv, List.mem_cons] at h
      simp only [List.map_cons, lv_args, List.mem_cons, pv_tr_cat]
      rcases h with h | h
      · exact Or.inl h
      · exact Or.inr (by rw [if_neg (by simp [Value.category])]; exact ih _ h)
    | retAddr x =>
      simp only [pv_ent, List.cons_append, pv_lv, List.mem_cons] at h
      simp only [List.map_cons, lv_args, List.mem_cons, pv_tr_cat]
      rcases h with h | h
      · exact Or.inl h
      · exact Or.inr (by rw [if_neg (by simp [Value.category])]; exact ih _ h)
/-- a method that is called: its words are there, it has n arguments (the receiver aside) -/
def pv_ok (V : pv_V) (n : Nat) : Prop := Cond.code V.1 V.2.1 V.2.2.1 V.2.2.2.1 ∈ pv_T ∧ Cond.initialized V.1.cls ∈ pv_T ∧ (V.1.cls ≠ "java/lang/invoke/MethodHandle" ∧ V.1.cls ≠ "java/lang/invoke/VarHandle" ∧ (parseMethodDescriptor V.1.desc).map (fun d => d.parameters.length) = some n) ∧ V.2.2.1 ≤ 40 ∧ plainName V.1.cls = true ∧ V.2.2.2.2 = none
def pv_okV (V : pv_V) (n : Nat) : Prop := pv_ok V n ∧ Cond.instanceMethod V.1 ∈ pv_T ∧ Cond.selects V.1.cls V.1 V.1 ∈ pv_T
def pv_okS (V : pv_V) (n : Nat) : Prop := pv_ok V n ∧ Cond.static V.1 ∈ pv_T
theorem pv_slots : ∀ (as : List Value), (∀ v ∈ as, v.category = 2 → ∃ x, v = .long x) → (lg_sl as).length = (pv_ent as).length
  | [], _ => rfl
  | v :: r, h => by
    have ih := pv_slots r (fun w hw => h w (List.mem_cons_of_mem _ hw))
    have hv := h v List.mem_cons_self
    cases v with
    | long x => simp [lg_sl, pv_ent, Value.category] at ih ⊢; omega
    | double x => obtain ⟨y, hy⟩ := hv rfl; cases hy
    | _ => simp [lg_sl, pv_ent, Value.category] at ih ⊢; omega
/-- values that a call passes: ints, longs, references -/
def pv_plain (as : List Value) : Bool := as.all fun v => match v with
  | .int _ | .long _ | .ref _ => true
  | _ => false
theorem pv_plain_2 {as : List Value} (h : pv_plain as = true) : ∀ v ∈ as, v.category = 2 → ∃ x, v = .long x := by
  intro v hv hc
  have h1 := List.all_eq_true.mp h v hv
  cases v <;> first | exact ⟨_, rfl⟩ | (simp at h1; done) | (simp [Value.category] at hc; done)
theorem lg_sl_tr (ad : Nat → Nat) (as : List Value) : (lg_sl (as.map (pv_tr ad))).length = (lg_sl as).length := by
  induction as with
  | nil => rfl
  | cons v r ih =>
    have e : (lg_sl [pv_tr ad v]).length = (lg_sl [v]).length := by cases v <;> rfl
    simp only [lg_sl, List.flatMap_cons, List.flatMap_nil, List.append_nil, List.length_append, List.map_cons] at ih e ⊢
    omega
theorem Ct.of {n pad : Nat} {as : List Value} (hok : pv_ok V n) (hpl : pv_plain as = true) (hpad : (pv_ent as).length + pad = V.2.2.1) (k : PW Γ d V 0 (pv_ent as ++ List.replicate pad .null) [] M Q) : Ct Γ d V as M Q := by
  obtain ⟨hcode, hini, hnm, hml40, hplain, hnoX⟩ := hok
  refine Met.ofW (cc := V.2.1) (maxL := V.2.2.1) (ret := V.2.2.2.1) hplain rfl ?_
  intro p e s m args below meth c s₁ B hml hv
  obtain ⟨rfl, hP, hK, hN, hi⟩ := hv
  have hsl : (lg_sl (as.map (pv_tr Γ.2.2.2))).length ≤ V.2.2.1 := by
    rw [lg_sl_tr, pv_slots as (pv_plain_2 hpl)]
    omega
  have hl := lv_entry (as.map (pv_tr Γ.2.2.2)) (n := V.2.2.1) hsl
  rw [lg_entry_eq]
  generalize (lg_sl (as.map (pv_tr Γ.2.2.2)) ++ List.replicate (V.2.2.1 - (lg_sl (as.map (pv_tr Γ.2.2.2))).length) Slot.unset).toArray = ls at hl ⊢
  have hts := atoms_spec (ws := pv_w V) B.pre
  refine k p e _ s m _ below meth c (pv_A Γ.2.2.2) 0 0 _ ⟨B.exec, B.bytes, hml, findClass_of_methodNamed B.named, fun w hw => hts w (List.mem_cons_of_mem _ hw), hK, hN, ⟨Nat.le_refl _, Nat.le_refl _⟩, fun k hk => ⟨k, hk, rfl⟩, hi, fun n xs h => by rw [hnoX] at h; cases h⟩ ⟨Nat.le_refl _, Nat.le_refl _⟩ ?_ s.heap [] ls ⟨hP, va_S.rf⟩ ⟨hl.1, hl.2.1, fun q hq => hl.2.2 q (pv_ent_in _ q pad as 0 (pv_plain_2 hpl) hq)⟩
  intro r M' H' locs' ls' pc' hq hr hW
  have hlocks := B.notSynchronized
  have hF : ∀ t : State, t.heap = H' → pv_Qc Γ Q (as.map (pv_tr Γ.2.2.2)).toArray s (.returned (r.map (pv_tr Γ.2.2.2))) t := fun t ht => ⟨⟨r, M', rfl, hq, by rw [ht]; exact hW.1⟩, hW.2.F ht⟩
  cases r with
  | none =>
    obtain ⟨h1, h2⟩ := hr
    exact W.vret B.exec B.bytes (B.returns.trans h1) (fun t ht _ => hF t ht) hW.2.2.2 h2
  | some v =>
    cases v with
    | int v =>
      obtain ⟨⟨ty, h1, h3⟩, h2⟩ := hr
      exact W.zret B.exec B.bytes (B.returns.trans h1) h3 (fun t ht _ => hF t ht) hW.2.2.2 h2
    | long v =>
      obtain ⟨h1, h2⟩ := hr
      exact W.lret B.exec B.bytes (B.returns.trans h1) (fun t ht _ => hF t ht) hW.2.2.2 h2
    | _ => exact hr.elim
theorem pv_after {p : Program} {l : Launch} {e : Env} {R : Room} {s : State} {m : MethodId} {args : Array Value} {below : List Frame} {meth : Method} {c : Code} {H : Heap} {locs : List Loc} {cells slots : Nat} {Qf : State → Prop} {ls : Array Slot} {rest st0 : List Value} {a : Array Value} {A : Nat → Prop} {Q' : pv_Q} (hr : va_Run p l e R s m args below meth c H locs cells slots 0 0 (F0 m pc ls st0) rest (pv_Qc Γ Q' a) (pv_A Γ.2.2.2)) (hS : va_S A s.heap H locs) (hA : ∀ q, pv_A Γ.2.2.2 q → A q)
    (kk : ∀ (r : Option Value) (M' : pv_M) (H1 : Heap) (locs1 : List Loc), Q' r M' → va_P Γ.2.1 pv_cl (pv_ws Γ.2.2.1 Γ.2.2.2 M') H1 → va_S A s.heap H1 locs1 → W p l e R s m args below meth c H1 locs1 cells slots Qf (F0 m (pc + 3) ls ((r.map (pv_tr Γ.2.2.2)).toList ++ rest))) : W p l e R s m args below meth c H locs cells slots Qf (F0 m pc ls st0) := by
  intro T hT X
  obtain ⟨v, st₀, t, T', L1, h0, X', hL, e1, e2, ⟨⟨r, M', hv, hq, hP⟩, hz, hk⟩, st1⟩ := hr T hT X
  cases hv
  rw [h0] at hz hk
  obtain ⟨t2, a1, b1⟩ := kk r M' T'.heap (locs ++ L1) hq (by rw [e1]; exact hP)
    ⟨Nat.le_trans hS.1 (by rw [e1]; exact hz), fun q h1 h2 => by rw [e1, hk q (Nat.lt_of_lt_of_le h1 hS.1) (fun z => h2 (hA q z))]; exact hS.2.1 q h1 h2, fun q hq => by
      rcases List.mem_append.mp hq with h | h
      · exact hS.2.2 q h
      · exact hA _ (hL q h)⟩ T' rfl X'
  exact ⟨t2, st1 t2 a1, b1⟩
theorem pv_blind {d' : Nat} {V' : pv_V} {as : List Value} {M' : pv_M} : FrameBlind (va_Pc (as.map (pv_tr Γ.2.2.2)) (fun U => va_P Γ.2.1 pv_cl (pv_ws Γ.2.2.1 Γ.2.2.2 M') U.heap ∧ va_K Γ.2.1 pv_cl (pv_tys Γ.2.2.1) U ∧ pv_N U ∧ ∀ i j, i < 50 → j < 50 → Γ.2.2.2 i = Γ.2.2.2 j → i = j)) :=
  fun a U g mk q => by obtain ⟨q0, qP, qK, qN, qi⟩ := q; exact ⟨q0, qP, va_K.moved (u := U) (U := U.calling g mk a) (Vm.Alike.refl U.vm) qK, va_Nw.same (u := U) (U := U.calling g mk a) rfl rfl qN, qi⟩
theorem pv_goodIn {V' : pv_V} {n : Nat} (h : pv_ok V' n) : GoodIn pv_T (pv_w V') := by
  intro w hw
  rcases List.mem_cons.mp hw with rfl | hw
  · exact ⟨h.1, pv_good h.1⟩
  · exact ⟨hw, pv_good hw⟩
theorem pv_catsum {ad : Nat → Nat} {st : List Value} (hrest : (st.map fun v => v.category).sum ≤ 8) : ((st.map (pv_tr ad)).map fun v => v.category).sum ≤ 8 := by
  rw [List.map_map, show ((fun v : Value => v.category) ∘ pv_tr ad) = fun v => v.category from funext fun v => pv_tr_cat _ v]
  exact hrest
theorem PW_callS {V' : pv_V} {n i : Nat} {as : List Value} {Q' : pv_Q} {stk : List Value} (hd : decode V.2.1 pc = .ok (.invokestatic i, 3)) (hp : pc + 3 = pc') (hok : pv_okS V' n) (hlink : Cond.methodLink V.1.cls i V'.1 ∈ pv_T) (hn : as.length = n) (hrest : (st.map fun v => v.category).sum ≤ 8) (hst : stk = as.reverse ++ st) (hM : Ct Γ d V' as M Q')
    (k1 : ∀ (r : Option Value) (M' : pv_M), Q' r M' → PW Γ (d + 1) V pc' L (r.toList ++ st) M' Q) : PW Γ (d + 1) V pc L stk M Q := by
  subst hp
  subst hst
  intro p e R s m args below meth c A cells slots Qf C hR E H locs ls hW hl
  obtain ⟨hx, hb, hml, hown, hts, hK, hN, hRm, hA, hi, hX⟩ := id C
  refine pv_after (Γ := Γ) (Q' := Q') (va_runS (As := as.map (pv_tr Γ.2.2.2)) (rest := st.map (pv_tr Γ.2.2.2)) ⟨hx, hb, hml, hown, hts⟩ hM ⟨callB_of n hts (pv_goodIn hok.1) rfl rfl rfl (hts _ hok.1.2.1) (hts _ hlink) hok.1.2.2.1 ⟨by show d + 2 + 1 ≤ R.frames; omega, by show 8 + (V'.2.2.1 + 11) + 64 * (d + 2) ≤ R.locals; have := hok.1.2.2.2.1; omega⟩, hts _ hok.2⟩ ⟨pv_blind (d' := d) (V' := V'), fun U hU hWU => ⟨rfl, by rw [hU]; exact hW.1, va_K.moved hWU.alike hK, va_Nw.warmM hWU hN, hi⟩⟩ rfl (by rw [List.length_map]; exact hn) hl.1 (by simp [List.map_reverse]) (lv_room (pv_catsum hrest)) hd ⟨by omega, by omega⟩) hW.2 (fun q hq => by obtain ⟨k, hk, rfl⟩ := hq; exact hA k hk) (fun r M' H1 locs1 hq hP1 hS1 => ?_)
  have := k1 r M' hq p e R s m args below meth c A cells slots Qf C hR E H1 locs1 ls ⟨hP1, hS1⟩ hl
  cases r <;> exact this
theorem PW_callSN {V' : pv_V} {n : Nat} {as : List Value} {Q' : pv_Q} {stk : List Value} (hd : decode V.2.1 pc = .ok (.invokestatic 33, 3)) (hp : pc + 3 = pc') (hok : pv_okS V' n) (hlink : V.1.cls = RX0 ∧ V'.1 = yX6_isIn) (hn : as.length = n) (hrest : (st.map fun v => v.category).sum ≤ 8) (hst : stk = as.reverse ++ st) (hM : Ct Γ d V' as M Q')
    (k1 : ∀ (r : Option Value) (M' : pv_M), Q' r M' → PW Γ (d + 1) V pc' L (r.toList ++ st) M' Q) : PW Γ (d + 1) V pc L stk M Q := by
  subst hp
  subst hst
  intro p e R s m args below meth c A cells slots Qf C hR E H locs ls hW hl
  obtain ⟨hx, hb, hml, hown, hts, hK, hN, hRm, hA, hi, hX⟩ := id C
  refine pv_after (Γ := Γ) (Q' := Q') (va_runSN (As := as.map (pv_tr Γ.2.2.2)) (rest := st.map (pv_tr Γ.2.2.2)) (host := "UseMuseum") ⟨hx, hb, hml, hown, hts⟩ hM ⟨⟨⟨rfl, rfl, by show d + 2 + 1 ≤ R.frames; omega, by show 8 + (V'.2.2.1 + 11) + 64 * (d + 2) ≤ R.locals; have := hok.1.2.2.2.1; omega, pay_in hts (pv_goodIn hok.1), List.mem_cons_self⟩, hts _ hok.1.1, hts _ hok.1.2.1, ⟨hok.1.2.2.1.1, hok.1.2.2.1.2.1⟩, fun sig h => by
    have h2 := hok.1.2.2.1.2.2
    rw [h] at h2
    exact (Option.some.inj h2).symm, by rw [hlink.1, hlink.2]; exact va_Nw.use rfl hN⟩, hts _ hok.2, trivial⟩ ⟨pv_blind (d' := d) (V' := V'), fun U hU hWU => ⟨rfl, by rw [hU]; exact hW.1, va_K.moved hWU.alike hK, va_Nw.warmM hWU hN, hi⟩⟩ rfl (by rw [List.length_map]; exact hn) hl.1 (by simp [List.map_reverse]) (lv_room (pv_catsum hrest)) hd ⟨by omega, by omega⟩) hW.2 (fun q hq => by obtain ⟨k, hk, rfl⟩ := hq; exact hA k hk) (fun r M' H1 locs1 hq hP1 hS1 => ?_)
  have := k1 r M' hq p e R s m args below meth c A cells slots Qf C hR E H1 locs1 ls ⟨hP1, hS1⟩ hl
  cases r <;> exact this
theorem PW_callV {V' : pv_V} {n i pl ci : Nat} {fs : List (Option Nat)} {as : List Value} {Q' : pv_Q} {stk : List Value} (hd : decode V.2.1 pc = .ok (.invokevirtual i, 3)) (hp : pc + 3 = pc') (hok : pv_okV V' n) (hlink : Cond.methodLink V.1.cls i V'.1 ∈ pv_T) (hl0 : pv_lay pl = .inl (ci, fs)) (hci : pv_cl[ci]? = some (pv_c ci)) (hcn : (pv_c ci).1 = V'.1.cls) (hn : as.length = n) (hrest : (st.map fun v => v.category).sum ≤ 8) (hst : stk = as.reverse ++ .ref pl :: st) (hM : Ct Γ d V' (.ref pl :: as) M Q')
    (k1 : ∀ (r : Option Value) (M' : pv_M), Q' r M' → PW Γ (d + 1) V pc' L (r.toList ++ st) M' Q) : PW Γ (d + 1) V pc L stk M Q := by
  subst hp
  subst hst
  intro p e R s m args below meth c A cells slots Qf C hR E H locs ls hW hl
  obtain ⟨hx, hb, hml, hown, hts, hK, hN, hRm, hA, hi, hX⟩ := id C
  obtain ⟨⟨hcode, hini, hnm, hml40, hplain, hnoX⟩, hinst, hsel⟩ := id hok
  have hrv := va_recv hK hW.1 hci ((pv_ws_get _ _ _ (pv_lt_o hl0)).trans (by rw [pv_ce_o hl0]))
  rw [hcn] at hrv
  refine pv_after (Γ := Γ) (Q' := Q') (va_runV (C := V'.1.cls) (b := Γ.2.2.2 pl) (As := as.map (pv_tr Γ.2.2.2)) (rest := st.map (pv_tr Γ.2.2.2)) ⟨hx, hb, hml, hown, hts⟩ hM ⟨callB_of n hts (pv_goodIn hok.1) rfl rfl rfl (hts _ hini) (hts _ hlink) hnm ⟨by show d + 2 + 1 ≤ R.frames; omega, by show 8 + (V'.2.2.1 + 11) + 64 * (d + 2) ≤ R.locals; omega⟩, hts _ hinst, hts _ hsel⟩ ⟨pv_blind (as := .ref pl :: as) (d' := d) (V' := V'), hrv, fun U hU hWU => ⟨rfl, by rw [hU]; exact hW.1, va_K.moved hWU.alike hK, va_Nw.warmM hWU hN, hi⟩⟩ rfl (by rw [List.length_map]; exact hn) hl.1 (by simp [List.map_reverse, pv_tr]) (lv_room (pv_catsum hrest)) hd ⟨by omega, by omega⟩) hW.2 (fun q hq => by obtain ⟨k, hk, rfl⟩ := hq; exact hA k hk) (fun r M' H1 locs1 hq hP1 hS1 => ?_)
  have := k1 r M' hq p e R s m args below meth c A cells slots Qf C hR E H1 locs1 ls ⟨hP1, hS1⟩ hl
  cases r <;> exact this
end PV2
