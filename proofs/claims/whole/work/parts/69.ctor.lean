/-! constructors: KW: from here, with the cells ws, cu cells and su slots still to be made, the constructor comes to its end with T of its cells -/
abbrev kv_G : Type := Launch × va_G × (Nat → ClassId)
def kv_N (U : State) : Prop := va_Nw (.methodLinkNest RX6 17 yX3_init "UseMuseum") U ∧ va_Nw (.methodLinkNest RX0 17 yX5_init "UseMuseum") U ∧ va_Nw (.methodLinkNest RX6 27 yX1_init "UseMuseum") U ∧ va_Nw (.methodLinkNest RX6 34 yX2_init "UseMuseum") U ∧ va_AO "UseMuseum$Sheet" U ∧ va_AO "UseMuseum$Thing" U
theorem kv_N.warm {s U : State} (hW : s.WarmedH U.vm) (h : kv_N s) : kv_N U := ⟨va_Nw.warmM hW h.1, va_Nw.warmM hW h.2.1, va_Nw.warmM hW h.2.2.1, va_Nw.warmM hW h.2.2.2.1, va_AO.moved hW.alike h.2.2.2.2.1, va_AO.moved hW.alike h.2.2.2.2.2⟩
theorem kv_N.same {s U : State} (hv : s.vm = U.vm) (h : kv_N s) : kv_N U := ⟨va_Nw.same rfl hv h.1, va_Nw.same rfl hv h.2.1, va_Nw.same rfl hv h.2.2.1, va_Nw.same rfl hv h.2.2.2.1, va_AO.moved (by rw [hv]; exact Vm.Alike.refl U.vm) h.2.2.2.2.1, va_AO.moved (by rw [hv]; exact Vm.Alike.refl U.vm) h.2.2.2.2.2⟩
def kv_Cx (Γ : kv_G) (d : Nat) (V : pv_V) (p : Program) (R : Room) (s : State) (m : MethodId) (args : Array Value) (meth : Method) (c : Code) (A : Nat → Prop) : Prop :=
  p.tables.exec = Jvm.exec ∧ c.code = V.2.1 ∧ c.maxLocals = V.2.2.1 ∧ s.vm.findClass V.1.cls = some m.cls ∧ (∀ w ∈ pv_T, w.before args s = true) ∧ va_K Γ.2.1 pv_cl (pv_tys Γ.2.2) s ∧ kv_N s ∧ (d + 2 ≤ R.frames ∧ 64 * (d + 2) ≤ R.locals) ∧ meth.name = "<init>" ∧ ∀ q, s.heap.size ≤ q → A q
def kv_Exit (Γ : kv_G) (V : pv_V) (T : va_W → Prop) (p : Program) (e : Env) (R : Room) (s : State) (m : MethodId) (args : Array Value) (below : List Frame) (meth : Method) (c : Code) (A : Nat → Prop) (cE sE : Nat) (Qf : State → Prop) : Prop :=
  ∀ (ws1 : va_W) (H : Heap) (locs : List Loc) (ls : Array Slot) (pc : Nat), T ws1 → decode V.2.1 pc = .ok (.return_, 1) → va_P Γ.2.1 pv_cl ws1 H → va_D A ws1 → va_S A s.heap H locs → W p Γ.1 e R s m args below meth c H locs cE sE Qf (F0 m pc ls [])
def KW (Γ : kv_G) (d : Nat) (V : pv_V) (pc : Nat) (L : List (Nat × Value)) (st : List Value) (ws : va_W) (cu su : Nat) (T : va_W → Prop) : Prop :=
  ∀ (p : Program) (e : Env) (R : Room) (s : State) (m : MethodId) (args : Array Value) (below : List Frame) (meth : Method) (c : Code) (A : Nat → Prop) (cells slots : Nat) (Qf : State → Prop), kv_Cx Γ d V p R s m args meth c A → cells + cu ≤ R.cells ∧ slots + su ≤ R.slots → kv_Exit Γ V T p e R s m args below meth c A (cells + cu) (slots + su) Qf →
  ∀ (H : Heap) (locs : List Loc) (ls : Array Slot), va_P Γ.2.1 pv_cl ws H → va_D A ws → va_S A s.heap H locs → lv_has ls V.2.2.1 L → W p Γ.1 e R s m args below meth c H locs cells slots Qf (F0 m pc ls st)
def kv_rm (d mc ms : Nat) : Room := { frames := d + 2, cells := mc, slots := ms, locals := 64 * (d + 2) }
def kv_Pc (Γ : kv_G) (h0 : Nat) (ws0 : va_W) (sz : Nat) : Array Value → State → Prop := va_Pc [.ref h0] (fun U => U.heap.size = sz ∧ va_P Γ.2.1 pv_cl ws0 U.heap ∧ va_K Γ.2.1 pv_cl (pv_tys Γ.2.2) U ∧ kv_N U ∧ va_D (fun _ => True) ws0)
def kv_Qc (Γ : kv_G) (ws0 : va_W) (sz : Nat) (T : va_W → Prop) : Array Value → State → Outcome → State → Prop := va_Qv (fun ws1 : va_W => T ws1) (fun ws1 t => va_P Γ.2.1 pv_cl ws1 t.heap ∧ va_D (va_A ws0 sz) ws1) (va_A ws0 sz)
def Kt (Γ : kv_G) (d : Nat) (V : pv_V) (h0 : Nat) (ws0 : va_W) (mc ms : Nat) (T : va_W → Prop) : Prop := ∀ sz, Met Γ.1 V.1 (pv_w V) (kv_rm d mc ms) (kv_Pc Γ h0 ws0 sz) (kv_Qc Γ ws0 sz T) mc ms (va_A ws0 sz)
def kv_ok (V : pv_V) : Prop := Cond.code V.1 V.2.1 V.2.2.1 none ∈ pv_T ∧ Cond.initialized V.1.cls ∈ pv_T ∧ Cond.instanceMethod V.1 ∈ pv_T ∧ V.1.name = "<init>" ∧ (V.1.cls ≠ "java/lang/invoke/MethodHandle" ∧ V.1.cls ≠ "java/lang/invoke/VarHandle" ∧ (parseMethodDescriptor V.1.desc).map (fun d => d.parameters.length) = some 0) ∧ (1 ≤ V.2.2.1 ∧ V.2.2.1 ≤ 40) ∧ plainName V.1.cls = true ∧ V.2.2.2.1 = none
theorem kv_blind {Γ : kv_G} {h0 : Nat} {ws0 : va_W} {sz : Nat} : FrameBlind (kv_Pc Γ h0 ws0 sz) :=
  fun a U g mk q => by obtain ⟨q0, q1, qP, qK, qN, qD⟩ := q; exact ⟨q0, q1, qP, va_K.moved (u := U) (U := U.calling g mk a) (Vm.Alike.refl U.vm) qK, kv_N.same (s := U) (U := U.calling g mk a) rfl qN, qD⟩
theorem kv_goodIn {V : pv_V} (h : kv_ok V) : GoodIn pv_T (pv_w V) := by
  intro w hw
  rcases List.mem_cons.mp hw with rfl | hw
  · have h1 := h.1
    rw [← h.2.2.2.2.2.2.2] at h1
    exact ⟨h1, pv_good h1⟩
  · exact ⟨hw, pv_good hw⟩
theorem kv_uniq {D : va_G} {tys : List (ClassId × FieldType)} {s : State} {cA cB : ClassId} {ty : FieldType} {i : Nat} (h : va_K D pv_cl tys s) (h2 : va_K D pv_cl (tys ++ [(cA, ty)]) s) (hi : tys[i]? = some (cB, ty)) : cA = cB := by
  have e1 := (h.2 i _ hi).2
  have e2 := (h2.2 tys.length (cA, ty) (by simp)).2
  unfold va_RA at e1 e2
  cases ty with
  | object C =>
    obtain ⟨-, -, -, -, -, f1⟩ := e1
    obtain ⟨-, -, -, -, -, f2⟩ := e2
    exact Option.some.inj (f2.symm.trans f1)
  | _ => exact Option.some.inj (e2.symm.trans e1)
section KV
variable {Γ : kv_G} {d : Nat} {V : pv_V} {pc pc' : Nat} {L : List (Nat × Value)} {st : List Value} {ws : va_W} {cu su : Nat} {T : va_W → Prop}
theorem Kt.of {h0 : Nat} {ws0 : va_W} {mc ms : Nat} (hok : kv_ok V) (k : KW Γ d V 0 [(0, .ref h0)] [] ws0 mc ms T) : Kt Γ d V h0 ws0 mc ms T := by
  intro sz
  obtain ⟨hcode, hini, hinst, hnm, hd, hml40, hplain, hret⟩ := hok
  refine Met.ofW (cc := V.2.1) (maxL := V.2.2.1) (ret := V.2.2.2.1) hplain rfl ?_
  intro p e s m args below meth c s₁ B hml hv
  obtain ⟨rfl, hsz, hP, hK, hN, hD0⟩ := hv
  have hsl : (lg_sl ([.ref h0] : List Value)).length ≤ V.2.2.1 := hml40.1
  have hl := lv_entry ([.ref h0] : List Value) (n := V.2.2.1) hsl
  rw [lg_entry_eq]
  generalize (lg_sl ([.ref h0] : List Value) ++ List.replicate (V.2.2.1 - (lg_sl ([.ref h0] : List Value)).length) Slot.unset).toArray = ls at hl ⊢
  have hts := atoms_spec (ws := pv_w V) B.pre
  have hlocks := B.notSynchronized
  subst hsz
  refine W.widen (Nat.zero_le 0) (Nat.zero_le 0) ?_
  have kk := k p e (headSpec (pv_w V) (kv_rm d mc ms)).room s m #[.ref h0] below meth c (va_A ws0 s.heap.size) 0 0 (MQ below (kv_Qc Γ ws0 s.heap.size T) #[.ref h0] s mc ms (va_A ws0 s.heap.size)) ⟨B.exec, B.bytes, hml, findClass_of_methodNamed B.named, fun w hw => hts w (List.mem_cons_of_mem _ hw), hK, hN, ⟨Nat.le_refl _, Nat.le_refl _⟩, (name_of_methodNamed B.named B.method).1.trans hnm, fun q h => Or.inr h⟩ ⟨by rw [Nat.zero_add]; exact Nat.le_refl _, by rw [Nat.zero_add]; exact Nat.le_refl _⟩ ?_ s.heap [] ls hP hD0.self va_S.rf hl
  · exact kk
  · intro ws1 H locs ls1 pc1 hT hdec hP1 hD1 hS1
    rw [Nat.zero_add, Nat.zero_add]
    exact W.vret B.exec B.bytes (B.returns.trans hret) (fun t ht _ => ⟨⟨ws1, rfl, hT, by rw [ht]; exact hP1, hD1⟩, hS1.F ht⟩) hS1.2.2 hdec
theorem KW.eqW {ws2 : va_W} (h : ws = ws2) (k : KW Γ d V pc L st ws2 cu su T) : KW Γ d V pc L st ws cu su T := h ▸ k
theorem KW.perm {ws2 : va_W} (is : List Nat) (h1 : is.filterMap (fun i => ws[i]?) = ws2) (hn : va_nd is = true) (h2 : is.map (fun i => ws[i]?) = ws2.map some) (k : KW Γ d V pc L st ws2 cu su T) : KW Γ d V pc L st ws cu su T :=
  fun p e R s m args below meth c A cells slots Qf C hR E H locs ls hP hD hS hl => k p e R s m args below meth c A cells slots Qf C hR E H locs ls (hP.sub is h1) (hD.sub is hn h2) hS hl
theorem KW_iconst {n : Int} {v : Int32} (hd : decode V.2.1 pc = .ok (.iconst n, 1)) (hp : pc + 1 = pc') (hv : Int32.ofInt n = v) (k : KW Γ d V pc' L (.int v :: st) ws cu su T) : KW Γ d V pc L st ws cu su T := by
  subst hp
  intro p e R s m args below meth c A cells slots Qf C hR E H locs ls hP hD hS hl
  exact lv_iconst C.1 C.2.1 hd hv (k p e R s m args below meth c A cells slots Qf C hR E H locs ls hP hD hS hl)
theorem KW_bipush {n : Int} {v : Int32} (hd : decode V.2.1 pc = .ok (.bipush n, 2)) (hp : pc + 2 = pc') (hv : (Int8.ofInt n).toInt32 = v) (k : KW Γ d V pc' L (.int v :: st) ws cu su T) : KW Γ d V pc L st ws cu su T := by
  subst hp
  intro p e R s m args below meth c A cells slots Qf C hR E H locs ls hP hD hS hl
  exact lv_bipush C.1 C.2.1 hd hv (k p e R s m args below meth c A cells slots Qf C hR E H locs ls hP hD hS hl)
theorem KW_sipush {n : Int} {v : Int32} (hd : decode V.2.1 pc = .ok (.sipush n, 3)) (hp : pc + 3 = pc') (hv : (Int16.ofInt n).toInt32 = v) (k : KW Γ d V pc' L (.int v :: st) ws cu su T) : KW Γ d V pc L st ws cu su T := by
  subst hp
  intro p e R s m args below meth c A cells slots Qf C hR E H locs ls hP hD hS hl
  exact lv_sipush C.1 C.2.1 hd hv (k p e R s m args below meth c A cells slots Qf C hR E H locs ls hP hD hS hl)
theorem KW_aload0 {a : Nat} (hd : decode V.2.1 pc = .ok (.aload_n 0, 1)) (hp : pc + 1 = pc') (hL : L[0]? = some (0, .ref a)) (k : KW Γ d V pc' L (.ref a :: st) ws cu su T) : KW Γ d V pc L st ws cu su T := by
  subst hp
  intro p e R s m args below meth c A cells slots Qf C hR E H locs ls hP hD hS hl
  exact lv_aload_n C.1 C.2.1 hd rfl (lv_at hl 0 hL) (k p e R s m args below meth c A cells slots Qf C hR E H locs ls hP hD hS hl)
theorem KW_iload1 {x : Int32} (hd : decode V.2.1 pc = .ok (.iload_n 1, 1)) (hp : pc + 1 = pc') (hL : L[1]? = some (1, .int x)) (k : KW Γ d V pc' L (.int x :: st) ws cu su T) : KW Γ d V pc L st ws cu su T := by
  subst hp
  intro p e R s m args below meth c A cells slots Qf C hR E H locs ls hP hD hS hl
  exact lv_iload_n C.1 C.2.1 hd rfl (lv_at hl 1 hL) (k p e R s m args below meth c A cells slots Qf C hR E H locs ls hP hD hS hl)
theorem KW_istore1 {a : Nat} {x : Int32} (hd : decode V.2.1 pc = .ok (.istore_n 1, 1)) (hp : pc + 1 = pc') (hm : 1 < V.2.2.1) (k : KW Γ d V pc' [(0, .ref a), (1, .int x)] st ws cu su T) : KW Γ d V pc [(0, .ref a)] (.int x :: st) ws cu su T := by
  subst hp
  intro p e R s m args below meth c A cells slots Qf C hR E H locs ls hP hD hS hl
  exact lv_istore_n (lv' := [(1, .int x), (0, .ref a)]) C.1 C.2.1 hd rfl hl hm rfl (fun ls2 hl2 => k p e R s m args below meth c A cells slots Qf C hR E H locs ls2 hP hD hS (lv_sub hl2 [1, 0] rfl))
theorem KW_iinc1 {a : Nat} {n : Int} {x v : Int32} (hd : decode V.2.1 pc = .ok (.iinc 1 n, 3)) (hp : pc + 3 = pc') (hm : 1 < V.2.2.1) (hv : x + Int32.ofInt n = v) (k : KW Γ d V pc' [(0, .ref a), (1, .int v)] st ws cu su T) : KW Γ d V pc [(0, .ref a), (1, .int x)] st ws cu su T := by
  subst hp
  intro p e R s m args below meth c A cells slots Qf C hR E H locs ls hP hD hS hl
  exact lv_iinc (k := 1) (lv' := [(1, .int v), (0, .ref a)]) C.1 C.2.1 hd hl rfl hv hm rfl (fun ls2 hl2 => k p e R s m args below meth c A cells slots Qf C hR E H locs ls2 hP hD hS (lv_sub hl2 [1, 0] rfl))
theorem KW_dup {a : Nat} (hd : decode V.2.1 pc = .ok (.dup, 1)) (hp : pc + 1 = pc') (k : KW Γ d V pc' L (.ref a :: .ref a :: st) ws cu su T) : KW Γ d V pc L (.ref a :: st) ws cu su T := by
  subst hp
  intro p e R s m args below meth c A cells slots Qf C hR E H locs ls hP hD hS hl
  exact lv_dup C.1 C.2.1 hd rfl (k p e R s m args below meth c A cells slots Qf C hR E H locs ls hP hD hS hl)
theorem KW_goto {off : Int} {tgt : Nat} (hd : decode V.2.1 pc = .ok (.goto off, 3)) (ht : (pc : Int) + off = (tgt : Int)) (k : KW Γ d V tgt L st ws cu su T) : KW Γ d V pc L st ws cu su T := by
  intro p e R s m args below meth c A cells slots Qf C hR E H locs ls hP hD hS hl
  exact lv_goto C.1 C.2.1 hd ht (k p e R s m args below meth c A cells slots Qf C hR E H locs ls hP hD hS hl)
theorem KW_geT {x y : Int32} {off : Int} {tgt : Nat} (hd : decode V.2.1 pc = .ok (.if_icmp .ge off, 3)) (ht : (pc : Int) + off = (tgt : Int)) (h : y ≤ x) (k : KW Γ d V tgt L st ws cu su T) : KW Γ d V pc L (.int y :: .int x :: st) ws cu su T := by
  intro p e R s m args below meth c A cells slots Qf C hR E H locs ls hP hD hS hl
  exact lv_icmp_ge C.1 C.2.1 hd ht (fun _ => k p e R s m args below meth c A cells slots Qf C hR E H locs ls hP hD hS hl) (fun z => absurd h z)
theorem KW_geF {x y : Int32} {off : Int} {tgt : Nat} (hd : decode V.2.1 pc = .ok (.if_icmp .ge off, 3)) (ht : (pc : Int) + off = (tgt : Int)) (hp : pc + 3 = pc') (h : ¬ y ≤ x) (k : KW Γ d V pc' L st ws cu su T) : KW Γ d V pc L (.int y :: .int x :: st) ws cu su T := by
  subst hp
  intro p e R s m args below meth c A cells slots Qf C hR E H locs ls hP hD hS hl
  exact lv_icmp_ge C.1 C.2.1 hd ht (fun z => absurd z h) (fun _ => k p e R s m args below meth c A cells slots Qf C hR E H locs ls hP hD hS hl)
theorem KW_obj {i a : Nat} (hd : decode V.2.1 pc = .ok (.invokespecial i, 3)) (hp : pc + 3 = pc') (hlink : Cond.methodLink V.1.cls i objectInit ∈ pv_T) (hi : Cond.instanceMethod objectInit ∈ pv_T) (hc : Cond.code objectInit ⟨#[0xb1]⟩ 1 none ∈ pv_T) (hrest : (st.map fun v => v.category).sum ≤ 8) (k : KW Γ d V pc' L st ws cu su T) : KW Γ d V pc L (.ref a :: st) ws cu su T := by
  subst hp
  intro p e R s m args below meth c A cells slots Qf C hR E H locs ls hP hD hS hl
  obtain ⟨hx, hb, hml, hown, hts, hK, hN, hRm, hin, hA⟩ := id C
  have hr := lv_room (pc := pc) (ls := ls) (m := m) (rest := .ref a :: st) hrest
  refine W.objInit hx hb hown (hts _ hlink) (hts _ hi) (hts _ hc) rfl (hl.1.trans hml.symm) rfl hd (by omega) (by omega) ?_
  exact k p e R s m args below meth c A cells slots Qf C hR E H locs ls hP hD hS hl
theorem KW_newa {N : Nat} {n : Int32} (hd : decode V.2.1 pc = .ok (.newarray .int, 2)) (hp : pc + 2 = pc') (hw : Cond.arrayClass .int ∈ pv_T) (hn : ¬ n < 0) (hN : n.toNatClampNeg = N) (hN2 : Nat.ble N 1000 = true) (k : ∀ q, KW Γ d V pc' L (.ref q :: st) (ws ++ [(q, .inl (Γ.2.2 0, N, .inl (fun _ => 0)))]) cu su T) : KW Γ d V pc L (.int n :: st) ws (cu + 1) (su + N) T := by
  subst hp
  have h2 := Nat.le_of_ble_eq_true hN2
  intro p e R s m args below meth c A cells slots Qf C hR E H locs ls hP hD hS hl
  obtain ⟨hx, hb, hml, hown, hts, hK, hN9, hRm, hin, hA⟩ := id C
  refine va_newa (atype := .int) (a0 := (N, .inl (fun _ => 0))) hx hb (hts _ hw) rfl hK hP hD hS hA (fun _ => rfl) hn hN (by show N * 4 ≤ 536870912; omega) (by omega) (by omega) hd (fun q cA H1 hK1 hP1 hD1 hS1 => ?_)
  have e : cA = Γ.2.2 0 := kv_uniq hK hK1 (i := 0) rfl
  subst e
  refine k q p e R s m args below meth c A (cells + 1) (slots + N) Qf C ⟨by omega, by omega⟩ ?_ H1 locs ls hP1 hD1 hS1 hl
  rw [show cells + 1 + cu = cells + (cu + 1) by omega, show slots + N + su = slots + (su + N) by omega]
  exact E
theorem KW_newz {N : Nat} {n : Int32} (hd : decode V.2.1 pc = .ok (.newarray .boolean, 2)) (hp : pc + 2 = pc') (hw : Cond.arrayClass .boolean ∈ pv_T) (hn : ¬ n < 0) (hN : n.toNatClampNeg = N) (hN2 : Nat.ble N 1000 = true) (k : ∀ q, KW Γ d V pc' L (.ref q :: st) (ws ++ [(q, .inl (Γ.2.2 1, N, .inl (fun _ => 0)))]) cu su T) : KW Γ d V pc L (.int n :: st) ws (cu + 1) (su + N) T := by
  subst hp
  have h2 := Nat.le_of_ble_eq_true hN2
  intro p e R s m args below meth c A cells slots Qf C hR E H locs ls hP hD hS hl
  obtain ⟨hx, hb, hml, hown, hts, hK, hN9, hRm, hin, hA⟩ := id C
  refine va_newa (atype := .boolean) (a0 := (N, .inl (fun _ => 0))) hx hb (hts _ hw) rfl hK hP hD hS hA (fun _ => rfl) hn hN (by show N * 1 ≤ 536870912; omega) (by omega) (by omega) hd (fun q cA H1 hK1 hP1 hD1 hS1 => ?_)
  have e : cA = Γ.2.2 1 := kv_uniq hK hK1 (i := 1) rfl
  subst e
  refine k q p e R s m args below meth c A (cells + 1) (slots + N) Qf C ⟨by omega, by omega⟩ ?_ H1 locs ls hP1 hD1 hS1 hl
  rw [show cells + 1 + cu = cells + (cu + 1) by omega, show slots + N + su = slots + (su + N) by omega]
  exact E
theorem KW_newq {i t N : Nat} {C0 : String} {n : Int32} (hd : decode V.2.1 pc = .ok (.anewarray i, 3)) (hp : pc + 3 = pc') (hcl : Cond.classLink V.1.cls i C0 ∈ pv_T) (hao : ∀ s, kv_N s → va_AO C0 s) (ht : ∀ f : Nat → ClassId, (pv_tys f)[t]? = some (f t, .object C0)) (hn : ¬ n < 0) (hN : n.toNatClampNeg = N) (hN2 : Nat.ble N 1000 = true) (k : ∀ q, KW Γ d V pc' L (.ref q :: st) (ws ++ [(q, .inl (Γ.2.2 t, N, .inr (.inr (.inr (.inr (fun _ => none))))))]) cu su T) : KW Γ d V pc L (.int n :: st) ws (cu + 1) (su + N) T := by
  subst hp
  have h2 := Nat.le_of_ble_eq_true hN2
  intro p e R s m args below meth c A cells slots Qf C hR E H locs ls hP hD hS hl
  obtain ⟨hx, hb, hml, hown, hts, hK, hN9, hRm, hin, hA⟩ := id C
  refine va_newq hx hb hown (hts _ hcl) (hao _ hN9) hK hP hD hS hA hn hN (by omega) (by omega) (by omega) hd (fun q cA H1 hK1 hP1 hD1 hS1 => ?_)
  have e : cA = Γ.2.2 t := kv_uniq hK hK1 (ht _)
  subst e
  refine k q p e R s m args below meth c A (cells + 1) (slots + N) Qf C ⟨by omega, by omega⟩ ?_ H1 locs ls hP1 hD1 hS1 hl
  rw [show cells + 1 + cu = cells + (cu + 1) by omega, show slots + N + su = slots + (su + N) by omega]
  exact E
theorem KW_new {i ci : Nat} {ty : Nat → FieldType} {fs : List Value} (hd : decode V.2.1 pc = .ok (.new i, 3)) (hp : pc + 3 = pc') (h0 : 0 < (pv_c ci).2.2) (hcl : Cond.classLink V.1.cls i (pv_c ci).1 ∈ pv_T) (hinst : Cond.instantiable (pv_c ci).1 (pv_c ci).2.2 ∈ pv_T) (hini : Cond.initialized (pv_c ci).1 ∈ pv_T) (hty : ∀ k, k < (pv_c ci).2.2 → parseFieldDescriptor ((pv_c ci).2.1 k).2.2.1 = some (ty k)) (hfs : ∀ j, j < (pv_c ci).2.2 → defaultValue (ty j) = vp_V fs j) (k : ∀ q, KW Γ d V pc' L (.ref q :: st) (ws ++ [(q, .inr (ci, fs))]) cu su T) : KW Γ d V pc L st ws (cu + 1) (su + (pv_c ci).2.2) T := by
  subst hp
  intro p e R s m args below meth c A cells slots Qf C hR E H locs ls hP hD hS hl
  obtain ⟨hx, hb, hml, hown, hts, hK, hN9, hRm, hin, hA⟩ := id C
  obtain ⟨hc, hc2⟩ := pv_c_at h0
  refine va_new hx hb hts (pv_cl_in _ hc2) ty hty hown (hts _ hcl) (hts _ hinst) (hts _ hini) hK hP hD hS hA hc hfs (by omega) (by omega) hd (fun q H1 hP1 hD1 hS1 => ?_)
  refine k q p e R s m args below meth c A (cells + 1) (slots + (pv_c ci).2.2) Qf C ⟨by omega, by omega⟩ ?_ H1 locs ls hP1 hD1 hS1 hl
  rw [show cells + 1 + cu = cells + (cu + 1) by omega, show slots + (pv_c ci).2.2 + su = slots + (su + (pv_c ci).2.2) by omega]
  exact E
theorem KW_get {i q0 a ci k0 : Nat} {fs : List Value} {v : Value} (hd : decode V.2.1 pc = .ok (.getfield i, 3)) (hp : pc + 3 = pc') (hf : pv_fld V.1.cls i ci k0) (he : ws[q0]? = some (a, .inr (ci, fs))) (hv : fs[k0]? = some v) (k : KW Γ d V pc' L (v :: st) ws cu su T) : KW Γ d V pc L (.ref a :: st) ws cu su T := by
  subst hp
  intro p e R s m args below meth c A cells slots Qf C hR E H locs ls hP hD hS hl
  obtain ⟨hx, hb, hml, hown, hts, hK, hN9, hRm, hin, hA⟩ := id C
  obtain ⟨hc, hc2⟩ := pv_c_at hf.1
  exact va_get hx hb hts (pv_cl_in _ hc2) hown hK hP q0 he hc k0 hf.1 (hts _ hf.2) (fun _ h => h) hv hd (k p e R s m args below meth c A cells slots Qf C hR E H locs ls hP hD hS hl)
theorem KW_putF {i q0 a ci k0 : Nat} {fs : List Value} {v : Value} {ty : FieldType} (hd : decode V.2.1 pc = .ok (.putfield i, 3)) (hp : pc + 3 = pc') (hf : pv_fld V.1.cls i ci k0) (he : ws[q0]? = some (a, .inr (ci, fs))) (hfin : ((pv_c ci).2.1 k0).2.2.2 = true) (hdecl : ((pv_c ci).2.1 k0).1 = V.1.cls) (hty : parseFieldDescriptor ((pv_c ci).2.1 k0).2.2.1 = some ty) (hn : narrow ty v = v) (hfit : fits ty v = true) (hlen : k0 < fs.length) (k : KW Γ d V pc' L st (ws.set q0 (a, .inr (ci, fs.set k0 v))) cu su T) : KW Γ d V pc L (v :: .ref a :: st) ws cu su T := by
  subst hp
  intro p e R s m args below meth c A cells slots Qf C hR E H locs ls hP hD hS hl
  obtain ⟨hx, hb, hml, hown, hts, hK, hN9, hRm, hin, hA⟩ := id C
  obtain ⟨hc, hc2⟩ := pv_c_at hf.1
  refine va_putF hx hb hts (pv_cl_in _ hc2) (fun k => (parseFieldDescriptor ((pv_c ci).2.1 k).2.2.1).getD .int) (fun k hk => ?_) (pv_cl_nm _ hc2) hown hK hP hD hS q0 he hc k0 hf.1 (hts _ hf.2) (fun _ h => h) hfin hin hdecl hty hn hfit hlen hd (fun H1 locs1 hP1 hD1 hS1 => k p e R s m args below meth c A cells slots Qf C hR E H1 locs1 ls hP1 hD1 hS1 hl)
  have := pv_cl_ty _ hc2 k hk
  obtain ⟨t, ht⟩ := Option.isSome_iff_exists.mp this
  simp [ht]
theorem KW_putI {i q0 a ci k0 : Nat} {fs : List Value} {x : Int32} (hd : decode V.2.1 pc = .ok (.putfield i, 3)) (hp : pc + 3 = pc') (hf : pv_fld V.1.cls i ci k0) (he : ws[q0]? = some (a, .inr (ci, fs))) (hw : pv_wr ci k0 .int) (hlen : k0 < fs.length) (k : KW Γ d V pc' L st (ws.set q0 (a, .inr (ci, fs.set k0 (.int x)))) cu su T) : KW Γ d V pc L (.int x :: .ref a :: st) ws cu su T := by
  subst hp
  intro p e R s m args below meth c A cells slots Qf C hR E H locs ls hP hD hS hl
  obtain ⟨hx, hb, hml, hown, hts, hK, hN9, hRm, hin, hA⟩ := id C
  obtain ⟨hc, hc2⟩ := pv_c_at hf.1
  refine va_put hx hb hts (pv_cl_in _ hc2) (fun k => (parseFieldDescriptor ((pv_c ci).2.1 k).2.2.1).getD .int) (fun k hk => ?_) (pv_cl_nm _ hc2) hown hK hP hD hS q0 he hc k0 hf.1 (hts _ hf.2) (fun _ h => h) hw.1 hw.2 rfl rfl hlen hd (fun H1 locs1 hP1 hD1 hS1 => k p e R s m args below meth c A cells slots Qf C hR E H1 locs1 ls hP1 hD1 hS1 hl)
  have := pv_cl_ty _ hc2 k hk
  obtain ⟨t, ht⟩ := Option.isSome_iff_exists.mp this
  simp [ht]
theorem KW_aast {q0 t qk ci a v N : Nat} {vs : List Value} {f : Nat → Option Nat} {i : Int32} (hd : decode V.2.1 pc = .ok (.aastore, 1)) (hp : pc + 1 = pc') (h0 : 0 < (pv_c ci).2.2) (ha : ws[q0]? = some (a, .inl (Γ.2.2 t, N, .inr (.inr (.inr (.inr f)))))) (ht : ∀ f : Nat → ClassId, (pv_tys f)[t]? = some (f t, .object (pv_c ci).1)) (hv : ws[qk]? = some (v, .inr (ci, vs))) (hin : vp_in i N) (k : KW Γ d V pc' L st (ws.set q0 (a, .inl (Γ.2.2 t, N, .inr (.inr (.inr (.inr (va_up f i.toNatClampNeg (some v)))))))) cu su T) : KW Γ d V pc L (.ref v :: .int i :: .ref a :: st) ws cu su T := by
  subst hp
  intro p e R s m args below meth c A cells slots Qf C hR E H locs ls hP hD hS hl
  obtain ⟨hx, hb, hml, hown, hts, hK, hN9, hRm, hin9, hA⟩ := id C
  obtain ⟨hc, hc2⟩ := pv_c_at h0
  exact va_astq hx hb hK hP hD hS q0 t qk ci ha (ht _) hv hc hin hd (fun H1 locs1 hP1 hD1 hS1 => k p e R s m args below meth c A cells slots Qf C hR E H1 locs1 ls hP1 hD1 hS1 hl)
theorem KW_iast {q0 a N : Nat} {f : Nat → Int32} {i x : Int32} (hd : decode V.2.1 pc = .ok (.iastore, 1)) (hp : pc + 1 = pc') (ha : ws[q0]? = some (a, .inl (Γ.2.2 0, N, .inl f))) (hin : vp_in i N) (k : KW Γ d V pc' L st (ws.set q0 (a, .inl (Γ.2.2 0, N, .inl (upd f i.toNatClampNeg x)))) cu su T) : KW Γ d V pc L (.int x :: .int i :: .ref a :: st) ws cu su T := by
  subst hp
  intro p e R s m args below meth c A cells slots Qf C hR E H locs ls hP hD hS hl
  obtain ⟨hx, hb, hml, hown, hts, hK, hN9, hRm, hin9, hA⟩ := id C
  exact va_iast hx hb hK hP hD hS q0 0 ha rfl hin hd (fun H1 locs1 hP1 hD1 hS1 => k p e R s m args below meth c A cells slots Qf C hR E H1 locs1 ls hP1 hD1 hS1 hl)
theorem KW_return (hd : decode V.2.1 pc = .ok (.return_, 1)) (hT : T ws) : KW Γ d V pc L [] ws 0 0 T := by
  intro p e R s m args below meth c A cells slots Qf C hR E H locs ls hP hD hS hl
  exact E ws H locs ls pc hT hd hP hD hS
/-- a nest mate's constructor -/
theorem KW_callN {V' : pv_V} {i h0 mc ms : Nat} {wc wr : va_W} {T' : va_W → Prop} {host : String} (hd : decode V.2.1 pc = .ok (.invokespecial i, 3)) (hp : pc + 3 = pc') (hok : kv_ok V') (hlink : ∀ s, kv_N s → va_Nw (.methodLinkNest V.1.cls i V'.1 host) s) (hrest : (st.map fun v => v.category).sum ≤ 8) (hM : Kt Γ d V' h0 wc mc ms T') (isC isR : List Nat) (hC1 : isC.filterMap (fun i => ws[i]?) = wc) (hC : isC.map (fun i => ws[i]?) = wc.map some) (hR0 : isR.map (fun i => ws[i]?) = wr.map some) (hnC : va_nd isC = true) (hnR : va_nd isR = true) (hdis : ∀ i ∈ isR, i ∉ isC)
    (k : ∀ w1, T' w1 → KW Γ (d + 1) V pc' L st (wr ++ w1) cu su T) : KW Γ (d + 1) V pc L (.ref h0 :: st) ws (cu + mc) (su + ms) T := by
  subst hp
  intro p e R s m args below meth c A cells slots Qf C hR E H locs ls hP hD hS hl
  obtain ⟨hx, hb, hml, hown, hts, hK, hN9, hRm, hin9, hA⟩ := id C
  obtain ⟨o1, o2, o3, o4, o5, o6, o7, o8⟩ := id hok
  have hPc := hP.sub isC hC1
  have hDc := hD.sub isC hnC hC
  have hFc := va_free hD hS hA isC hC
  have hw : pv_w V' = Cond.code V'.1 V'.2.1 V'.2.2.1 none :: pv_T := by unfold pv_w; rw [o8]
  refine va_callv (va_runIN (As := []) (rest := st) (host := host) ⟨hx, hb, hml, hown, hts⟩ (hM H.size) ⟨va_cnB 0 hts (kv_goodIn hok) hw rfl rfl (hlink _ hN9) (hts _ o2) o5 ⟨by show d + 2 + 1 ≤ R.frames; omega, by show 8 + (V'.2.2.1 + 11) + 64 * (d + 2) ≤ R.locals; omega⟩, o4, hts _ o3⟩ ⟨kv_blind, fun U hU hWU => ⟨rfl, by rw [hU], by rw [hU]; exact hPc, va_K.moved hWU.alike hK, kv_N.warm hWU hN9, hDc.weaken (fun _ _ _ _ => trivial)⟩⟩ rfl rfl hl.1 rfl (lv_room hrest) hd ⟨by omega, by omega⟩) hS (fun q _ h => hFc q h) hFc (fun w1 t H1 locs1 ht hvm hT1 hB hz1 hk1 hS1 => ?_)
  obtain ⟨hP1, hD1⟩ := hB
  rw [ht] at hP1
  obtain ⟨hP2, hD2⟩ := va_join hP hD isC isR hC hR0 hnR hdis hk1 hFc hP1 hD1
  refine k w1 hT1 p e R s m args below meth c A (cells + mc) (slots + ms) Qf C ⟨by omega, by omega⟩ ?_ H1 locs1 ls hP2 hD2 hS1 hl
  rw [show cells + mc + cu = cells + (cu + mc) by omega, show slots + ms + su = slots + (su + ms) by omega]
  exact E
/-- a constructor that is no nest mate's secret -/
theorem KW_callI {V' : pv_V} {i h0 mc ms : Nat} {wc wr : va_W} {T' : va_W → Prop} (hd : decode V.2.1 pc = .ok (.invokespecial i, 3)) (hp : pc + 3 = pc') (hok : kv_ok V') (hlink : Cond.methodLink V.1.cls i V'.1 ∈ pv_T) (hrest : (st.map fun v => v.category).sum ≤ 8) (hM : Kt Γ d V' h0 wc mc ms T') (isC isR : List Nat) (hC1 : isC.filterMap (fun i => ws[i]?) = wc) (hC : isC.map (fun i => ws[i]?) = wc.map some) (hR0 : isR.map (fun i => ws[i]?) = wr.map some) (hnC : va_nd isC = true) (hnR : va_nd isR = true) (hdis : ∀ i ∈ isR, i ∉ isC)
    (k : ∀ w1, T' w1 → KW Γ (d + 1) V pc' L st (wr ++ w1) cu su T) : KW Γ (d + 1) V pc L (.ref h0 :: st) ws (cu + mc) (su + ms) T := by
  subst hp
  intro p e R s m args below meth c A cells slots Qf C hR E H locs ls hP hD hS hl
  obtain ⟨hx, hb, hml, hown, hts, hK, hN9, hRm, hin9, hA⟩ := id C
  obtain ⟨o1, o2, o3, o4, o5, o6, o7, o8⟩ := id hok
  have hPc := hP.sub isC hC1
  have hDc := hD.sub isC hnC hC
  have hFc := va_free hD hS hA isC hC
  have hw : pv_w V' = Cond.code V'.1 V'.2.1 V'.2.2.1 none :: pv_T := by unfold pv_w; rw [o8]
  refine va_callv (va_runI (As := []) (rest := st) ⟨hx, hb, hml, hown, hts⟩ (hM H.size) (cwI 0 hts (kv_goodIn hok) hw rfl rfl (hts _ o2) (hts _ hlink) (hts _ o3) o4 o5 ⟨by show d + 2 + 1 ≤ R.frames; omega, by show 8 + (V'.2.2.1 + 11) + 64 * (d + 2) ≤ R.locals; omega⟩) ⟨kv_blind, fun U hU hWU => ⟨rfl, by rw [hU], by rw [hU]; exact hPc, va_K.moved hWU.alike hK, kv_N.warm hWU hN9, hDc.weaken (fun _ _ _ _ => trivial)⟩⟩ rfl rfl hl.1 rfl (lv_room hrest) hd ⟨by omega, by omega⟩) hS (fun q _ h => hFc q h) hFc (fun w1 t H1 locs1 ht hvm hT1 hB hz1 hk1 hS1 => ?_)
  obtain ⟨hP1, hD1⟩ := hB
  rw [ht] at hP1
  obtain ⟨hP2, hD2⟩ := va_join hP hD isC isR hC hR0 hnR hdis hk1 hFc hP1 hD1
  refine k w1 hT1 p e R s m args below meth c A (cells + mc) (slots + ms) Qf C ⟨by omega, by omega⟩ ?_ H1 locs1 ls hP2 hD2 hS1 hl
  rw [show cells + mc + cu = cells + (cu + mc) by omega, show slots + ms + su = slots + (su + ms) by omega]
  exact E
end KV
