/-! THE PICTURE: fifty cells at addresses ad 0 .. ad 49 (50: the script), their numbers in a memory place -> index -> Int32; references never change. PW: from here the machine comes to an end with Q, in every context that holds the picture. -/
abbrev pv_M : Type := Nat → Nat → Int32
abbrev pv_Q : Type := Option Value → (Nat → Nat → Int32) → Prop
abbrev pv_V : Type := MethodName × ByteArray × Nat × Option FieldType × Option (Nat × (Nat → Int32))
abbrev pv_G : Type := Launch × va_G × (Nat → ClassId) × (Nat → Nat)
def pv_tr (ad : Nat → Nat) (v : Value) : Value := match v with
  | .ref k => .ref (ad k)
  | v => v
def pv_lay : Nat → (Nat × List (Option Nat)) ⊕ ((Nat × Nat) ⊕ (Nat × List Nat)) := fun k => match k with
  | 0 => .inl (5, [some 1, some 10, some 17, some 21, some 28, none, none])
  | 1 => .inr (.inr (2, [2, 3, 4, 5]))
  | 2 => .inl (3, [some 6, none, none, none])
  | 3 => .inl (3, [some 7, none, none, none])
  | 4 => .inl (3, [some 8, none, none, none])
  | 5 => .inl (3, [some 9, none, none, none])
  | 6 => .inr (.inl (0, 60))
  | 7 => .inr (.inl (0, 60))
  | 8 => .inr (.inl (0, 60))
  | 9 => .inr (.inl (0, 60))
  | 10 => .inl (0, [some 11, none, none, none])
  | 11 => .inr (.inr (3, [12, 13, 14, 15, 16]))
  | 12 => .inl (4, [none, none, none, none, none])
  | 13 => .inl (4, [none, none, none, none, none])
  | 14 => .inl (4, [none, none, none, none, none])
  | 15 => .inl (4, [none, none, none, none, none])
  | 16 => .inl (4, [none, none, none, none, none])
  | 17 => .inl (1, [some 18, some 19, some 20, none])
  | 18 => .inr (.inl (0, 8))
  | 19 => .inr (.inl (0, 8))
  | 20 => .inr (.inl (1, 8))
  | 21 => .inl (2, [some 22, some 23, some 24, some 25, some 26, some 27, none, none, none, none, none])
  | 22 => .inr (.inl (0, 6))
  | 23 => .inr (.inl (0, 6))
  | 24 => .inr (.inl (0, 6))
  | 25 => .inr (.inl (0, 6))
  | 26 => .inr (.inl (0, 6))
  | 27 => .inr (.inl (0, 6))
  | 28 => .inr (.inl (0, 6))
  | 29 => .inl (6, [none, none, none, none, some 30, some 31, some 32, some 33, some 34, none, none, none, none, some 35, some 36, some 37, some 38, some 39, some 40, some 41, some 42, none, none, none, none, none, some 43, some 44, some 45, some 46, some 47, some 48, some 49, none])
  | 30 => .inr (.inl (0, 5))
  | 31 => .inr (.inl (0, 5))
  | 32 => .inr (.inl (0, 5))
  | 33 => .inr (.inl (0, 5))
  | 34 => .inr (.inl (0, 5))
  | 35 => .inr (.inl (0, 5))
  | 36 => .inr (.inl (0, 5))
  | 37 => .inr (.inl (0, 5))
  | 38 => .inr (.inl (0, 5))
  | 39 => .inr (.inl (0, 5))
  | 40 => .inr (.inl (0, 6))
  | 41 => .inr (.inl (0, 6))
  | 42 => .inr (.inl (0, 5))
  | 43 => .inr (.inl (0, 8))
  | 44 => .inr (.inl (0, 8))
  | 45 => .inr (.inl (1, 8))
  | 46 => .inr (.inl (0, 4))
  | 47 => .inr (.inl (0, 4))
  | 48 => .inr (.inl (0, 240))
  | 49 => .inr (.inl (0, 60))
  | _ => .inr (.inr (9, []))
def pv_cl : List vw_C := [(RX0, TX0, 4), (RX1, TX1, 4), (RX2, TX2, 11), (RX3, TX3, 4), (RX5, TX5, 5), (RX6, TX6, 7), (RX7, TX7, 34)]
def pv_tys (cAt : Nat → ClassId) : List (ClassId × FieldType) := [(cAt 0, .int), (cAt 1, .boolean), (cAt 2, .object "UseMuseum$Sheet"), (cAt 3, .object "UseMuseum$Thing")]
def pv_fs (ad : Nat → Nat) (f : Nat → Int32) : Nat → List (Option Nat) → List Value
  | _, [] => []
  | i, none :: r => .int (f i) :: pv_fs ad f (i + 1) r
  | i, some q :: r => .ref (ad q) :: pv_fs ad f (i + 1) r
def pv_ce (cAt : Nat → ClassId) (ad : Nat → Nat) (M : pv_M) (k : Nat) : va_E := match pv_lay k with
  | .inl o => .inr (o.1, pv_fs ad (M k) 0 o.2)
  | .inr (.inl a) => .inl (cAt a.1, a.2, .inl (M k))
  | .inr (.inr a) => .inl (cAt a.1, a.2.length, .inr (.inr (.inr (.inr (fun j => (a.2[j]?).map ad)))))
def pv_ws (cAt : Nat → ClassId) (ad : Nat → Nat) (M : pv_M) : va_W := (List.range 50).map fun k => (ad k, pv_ce cAt ad M k)
def pv_row (M : pv_M) (p : Nat) (f : Nat → Int32) : pv_M := fun q => if q = p then f else M q
def pv_up (M : pv_M) (p k : Nat) (v : Int32) : pv_M := pv_row M p (upd (M p) k v)
theorem pv_fs_get (ad : Nat → Nat) (f : Nat → Int32) : ∀ (fs : List (Option Nat)) (i k : Nat), (pv_fs ad f i fs)[k]? = (fs[k]?).map (fun o => match o with | none => Value.int (f (i + k)) | some q => Value.ref (ad q))
  | [], i, k => by simp [pv_fs]
  | o :: r, i, k => by
    cases k with
    | zero => cases o <;> simp [pv_fs]
    | succ k =>
      have h := pv_fs_get ad f r (i + 1) k
      rw [show i + 1 + k = i + (k + 1) by omega] at h
      cases o <;> simpa [pv_fs] using h
theorem pv_fs_len (ad : Nat → Nat) (f : Nat → Int32) : ∀ (fs : List (Option Nat)) (i : Nat), (pv_fs ad f i fs).length = fs.length
  | [], i => rfl
  | o :: r, i => by cases o <;> simp [pv_fs, pv_fs_len ad f r (i + 1)]
theorem pv_fs_set (ad : Nat → Nat) (f : Nat → Int32) (fs : List (Option Nat)) (k : Nat) (v : Int32) (h : fs[k]? = some none) : (pv_fs ad f 0 fs).set k (.int v) = pv_fs ad (upd f k v) 0 fs := by
  apply List.ext_getElem?
  intro j
  rw [pv_fs_get, List.getElem?_set]
  by_cases hj : k = j
  · subst hj
    have hl := (List.getElem?_eq_some_iff.mp h).1
    rw [if_pos rfl, if_pos (by rw [pv_fs_len]; exact hl), h]
    simp [upd]
  · rw [if_neg hj, pv_fs_get]
    have e : upd f k v (0 + j) = f (0 + j) := by
      have : ¬ (0 + j = k) := by omega
      simp only [upd, if_neg this]
    simp only [e]
theorem pv_ws_get (cAt : Nat → ClassId) (ad : Nat → Nat) (M : pv_M) {k : Nat} (h : k < 50) : (pv_ws cAt ad M)[k]? = some (ad k, pv_ce cAt ad M k) := by
  simp [pv_ws, List.getElem?_map, List.getElem?_range h]
theorem pv_ws_in (cAt : Nat → ClassId) (ad : Nat → Nat) (M : pv_M) {k : Nat} {q : Nat × va_E} (h : (pv_ws cAt ad M)[k]? = some q) : k < 50 ∧ q = (ad k, pv_ce cAt ad M k) := by
  have hl := (List.getElem?_eq_some_iff.mp h).1
  have hk : k < 50 := by simpa [pv_ws] using hl
  rw [pv_ws_get cAt ad M hk] at h
  exact ⟨hk, (Option.some.inj h).symm⟩
theorem pv_ws_set (cAt : Nat → ClassId) (ad : Nat → Nat) (M : pv_M) (p : Nat) (f : Nat → Int32) (e : va_E) (he : pv_ce cAt ad (pv_row M p f) p = e) : (pv_ws cAt ad M).set p (ad p, e) = pv_ws cAt ad (pv_row M p f) := by
  apply List.ext_getElem?
  intro j
  rw [List.getElem?_set]
  by_cases hj : p = j
  · subst hj
    rw [if_pos rfl]
    by_cases hp : p < 50
    · rw [if_pos (by simpa [pv_ws] using hp), pv_ws_get _ _ _ hp, he]
    · rw [if_neg (by simpa [pv_ws] using hp)]
      simp [pv_ws, List.getElem?_eq_none (show (List.range 50).length ≤ p by simp; omega)]
  · rw [if_neg hj]
    have e2 : pv_ce cAt ad (pv_row M p f) j = pv_ce cAt ad M j := by
      have : pv_row M p f j = M j := by simp only [pv_row, if_neg (Ne.symm hj)]
      simp only [pv_ce, this]
    by_cases h5 : j < 50
    · rw [pv_ws_get _ _ _ h5, pv_ws_get _ _ _ h5, e2]
    · simp [pv_ws, List.getElem?_eq_none (show (List.range 50).length ≤ j by simp; omega)]
theorem pv_D {cAt : Nat → ClassId} {ad : Nat → Nat} {M : pv_M} {A : Nat → Prop} (hA : ∀ k, k < 50 → A (ad k)) (hi : ∀ i j, i < 50 → j < 50 → ad i = ad j → i = j) : va_D A (pv_ws cAt ad M) := by
  refine ⟨fun i j p q h1 h2 h3 => ?_, fun k q h => ?_⟩
  · obtain ⟨l1, rfl⟩ := pv_ws_in cAt ad M h1
    obtain ⟨l2, rfl⟩ := pv_ws_in cAt ad M h2
    exact hi i j l1 l2 h3
  · obtain ⟨l1, rfl⟩ := pv_ws_in cAt ad M h
    exact hA k l1
/-- locals: a list by place; null: not known, or the second word of a long -/
def pv_lv (ad : Nat → Nat) : Nat → List Value → List (Nat × Value)
  | _, [] => []
  | i, v :: L => match v with
    | .null => pv_lv ad (i + 1) L
    | _ => (i, pv_tr ad v) :: pv_lv ad (i + 1) L
theorem pv_lv_mem (ad : Nat → Nat) (q : Nat × Value) : ∀ (L : List Value) (i : Nat), q ∈ pv_lv ad i L ↔ ∃ (j : Nat) (v : Value), L[j]? = some v ∧ v ≠ .null ∧ q = (i + j, pv_tr ad v)
  | [], i => by simp [pv_lv]
  | w :: L, i => by
    have ih := pv_lv_mem ad q L (i + 1)
    have key : (∃ (j : Nat) (v : Value), (w :: L)[j]? = some v ∧ v ≠ .null ∧ q = (i + j, pv_tr ad v)) ↔ (w ≠ .null ∧ q = (i, pv_tr ad w)) ∨ ∃ (j : Nat) (v : Value), L[j]? = some v ∧ v ≠ .null ∧ q = (i + 1 + j, pv_tr ad v) := by
      constructor
      · rintro ⟨j, v, h1, h2, h3⟩
        cases j with
        | zero =>
          rw [List.getElem?_cons_zero] at h1
          cases h1
          exact Or.inl ⟨h2, h3⟩
        | succ j =>
          rw [List.getElem?_cons_succ] at h1
          exact Or.inr ⟨j, v, h1, h2, by rw [h3]; congr 1; omega⟩
      · rintro (⟨h1, h2⟩ | ⟨j, v, h1, h2, h3⟩)
        · exact ⟨0, w, rfl, h1, h2⟩
        · exact ⟨j + 1, v, h1, h2, by rw [h3]; congr 1; omega⟩
    rw [key, ← ih]
    cases w <;> simp [pv_lv]
theorem pv_at {ad : Nat → Nat} {ls : Array Slot} {n k : Nat} {L : List Value} {v : Value} (h : lv_has ls n (pv_lv ad 0 L)) (hk : L[k]? = some v) (hv : v ≠ .null) : ls[k]? = some (.val (pv_tr ad v)) :=
  h.2.2 (k, pv_tr ad v) ((pv_lv_mem ad _ L 0).mpr ⟨k, v, hk, hv, by rw [Nat.zero_add]⟩)
theorem pv_tr_cat (ad : Nat → Nat) (v : Value) : (pv_tr ad v).category = v.category := by cases v <;> rfl
def pv_nl (i : Nat) (L : List Value) : Bool := match i with
  | 0 => true
  | i + 1 => match L[i]? with
    | some v => v.category != 2
    | none => true
theorem pv_st1 {ad : Nat → Nat} {ls : Array Slot} {n i : Nat} {L : List Value} {v : Value} (hn : pv_nl i L = true) (h : lv_has ls n ((i, pv_tr ad v) :: (pv_lv ad 0 L).filter (fun q => !(q.1 == i) && !(q.1 + 1 == i && q.2.category == 2)))) : lv_has ls n (pv_lv ad 0 (L.set i v)) := by
  refine ⟨h.1, h.2.1, fun q hq => h.2.2 q ?_⟩
  obtain ⟨j, w, h1, h2, h3⟩ := (pv_lv_mem ad q _ 0).mp hq
  rw [Nat.zero_add] at h3
  rw [List.getElem?_set] at h1
  by_cases hj : i = j
  · rw [if_pos hj] at h1
    split at h1
    · cases h1
      rw [h3, ← hj]
      exact List.mem_cons_self
    · cases h1
  · rw [if_neg hj] at h1
    refine List.mem_cons_of_mem _ (List.mem_filter.mpr ⟨(pv_lv_mem ad q L 0).mpr ⟨j, w, h1, h2, by rw [Nat.zero_add]; exact h3⟩, ?_⟩)
    rw [h3]
    simp only [Bool.and_eq_true, Bool.not_eq_true', beq_eq_false_iff_ne, ne_eq, Bool.and_eq_false_imp, beq_iff_eq]
    refine ⟨fun z => hj z.symm, fun z => ?_⟩
    subst z
    simp only [pv_nl, h1] at hn
    rw [pv_tr_cat]
    simpa using hn
theorem pv_st2 {ad : Nat → Nat} {ls : Array Slot} {n i : Nat} {L : List Value} {v : Value} (hn : pv_nl i L = true) (h : lv_has ls n ((i, pv_tr ad v) :: (pv_lv ad 0 L).filter (fun q => !(q.1 == i) && (!(q.1 == i + 1) && !(q.1 + 1 == i && q.2.category == 2))))) : lv_has ls n (pv_lv ad 0 ((L.set i v).set (i + 1) .null)) := by
  refine ⟨h.1, h.2.1, fun q hq => h.2.2 q ?_⟩
  obtain ⟨j, w, h1, h2, h3⟩ := (pv_lv_mem ad q _ 0).mp hq
  rw [Nat.zero_add] at h3
  rw [List.getElem?_set] at h1
  by_cases hj1 : i + 1 = j
  · rw [if_pos hj1] at h1
    split at h1
    · cases h1
      exact absurd rfl h2
    · cases h1
  rw [if_neg hj1, List.getElem?_set] at h1
  by_cases hj : i = j
  · rw [if_pos hj] at h1
    split at h1
    · cases h1
      rw [h3, ← hj]
      exact List.mem_cons_self
    · cases h1
  · rw [if_neg hj] at h1
    refine List.mem_cons_of_mem _ (List.mem_filter.mpr ⟨(pv_lv_mem ad q L 0).mpr ⟨j, w, h1, h2, by rw [Nat.zero_add]; exact h3⟩, ?_⟩)
    rw [h3]
    simp only [Bool.and_eq_true, Bool.not_eq_true', beq_eq_false_iff_ne, ne_eq, Bool.and_eq_false_imp, beq_iff_eq]
    refine ⟨fun z => hj z.symm, fun z => hj1 z.symm, fun z => ?_⟩
    subst z
    simp only [pv_nl, h1] at hn
    rw [pv_tr_cat]
    simpa using hn
/-- the tables' words -/
def pv_T : List Cond := lw_tbl.filter goodWord
/-- the one link of a nest mate that a method takes (House calls isIn) -/
def pv_N (U : State) : Prop := va_Nw (.methodLinkNest RX0 33 yX6_isIn "UseMuseum") U
def pv_Cx (Γ : pv_G) (d : Nat) (V : pv_V) (p : Program) (R : Room) (s : State) (m : MethodId) (args : Array Value) (meth : Method) (c : Code) (A : Nat → Prop) : Prop :=
  p.tables.exec = Jvm.exec ∧ c.code = V.2.1 ∧ c.maxLocals = V.2.2.1 ∧ s.vm.findClass V.1.cls = some m.cls ∧ (∀ w ∈ pv_T, w.before args s = true) ∧ va_K Γ.2.1 pv_cl (pv_tys Γ.2.2.1) s ∧ pv_N s ∧ (d + 2 ≤ R.frames ∧ 64 * (d + 2) ≤ R.locals) ∧ (∀ k, k < 50 → A (Γ.2.2.2 k)) ∧ (∀ i j, i < 50 → j < 50 → Γ.2.2.2 i = Γ.2.2.2 j → i = j) ∧
  ∀ (n : Nat) (xs : Nat → Int32), V.2.2.2.2 = some (n, xs) → va_X (Γ.2.2.2 50) n xs s s.heap ∧ Γ.2.2.2 50 < s.heap.size ∧ ¬ A (Γ.2.2.2 50)
def pv_Wd (Γ : pv_G) (M : pv_M) (A : Nat → Prop) (s : State) (H : Heap) (locs : List Loc) : Prop := va_P Γ.2.1 pv_cl (pv_ws Γ.2.2.1 Γ.2.2.2 M) H ∧ va_S A s.heap H locs
def pv_ret (V : pv_V) (r : Option Value) (pc : Nat) : Prop := match r with
  | none => V.2.2.2.1 = none ∧ decode V.2.1 pc = .ok (.return_, 1)
  | some (.int v) => (∃ ty, V.2.2.2.1 = some ty ∧ narrow ty (.int v) = .int v) ∧ decode V.2.1 pc = .ok (.ireturn, 1)
  | some (.long _) => V.2.2.2.1 = some .long ∧ decode V.2.1 pc = .ok (.lreturn, 1)
  | _ => False
def pv_Exit (Γ : pv_G) (V : pv_V) (Q : pv_Q) (p : Program) (e : Env) (R : Room) (s : State) (m : MethodId) (args : Array Value) (below : List Frame) (meth : Method) (c : Code) (A : Nat → Prop) (cells slots : Nat) (Qf : State → Prop) : Prop :=
  ∀ (r : Option Value) (M : pv_M) (H : Heap) (locs : List Loc) (ls : Array Slot) (pc : Nat), Q r M → pv_ret V r pc → pv_Wd Γ M A s H locs → W p Γ.1 e R s m args below meth c H locs cells slots Qf (F0 m pc ls ((r.map (pv_tr Γ.2.2.2)).toList))
def PW (Γ : pv_G) (d : Nat) (V : pv_V) (pc : Nat) (L st : List Value) (M : pv_M) (Q : pv_Q) : Prop :=
  ∀ (p : Program) (e : Env) (R : Room) (s : State) (m : MethodId) (args : Array Value) (below : List Frame) (meth : Method) (c : Code) (A : Nat → Prop) (cells slots : Nat) (Qf : State → Prop), pv_Cx Γ d V p R s m args meth c A → cells ≤ R.cells ∧ slots ≤ R.slots → pv_Exit Γ V Q p e R s m args below meth c A cells slots Qf →
  ∀ (H : Heap) (locs : List Loc) (ls : Array Slot), pv_Wd Γ M A s H locs → lv_has ls V.2.2.1 (pv_lv Γ.2.2.2 0 L) → W p Γ.1 e R s m args below meth c H locs cells slots Qf (F0 m pc ls (st.map (pv_tr Γ.2.2.2)))
section PV
variable {Γ : pv_G} {d : Nat} {V : pv_V} {pc pc' : Nat} {L st : List Value} {M : pv_M} {Q : pv_Q}
theorem PW.mono {Q2 : pv_Q} (h : ∀ r M, Q2 r M → Q r M) (k : PW Γ d V pc L st M Q2) : PW Γ d V pc L st M Q :=
  fun p e R s m args below meth c A cells slots Qf C hR E => k p e R s m args below meth c A cells slots Qf C hR (fun r M H locs ls pc hq => E r M H locs ls pc (h r M hq))
theorem PW.eqM {M2 : pv_M} (h : M = M2) (k : PW Γ d V pc L st M2 Q) : PW Γ d V pc L st M Q := h ▸ k
theorem PW_iconst {n : Int} {v : Int32} (hd : decode V.2.1 pc = .ok (.iconst n, 1)) (hp : pc + 1 = pc') (hv : Int32.ofInt n = v) (k : PW Γ d V pc' L (.int v :: st) M Q) : PW Γ d V pc L (st) M Q := by
  subst hp
  intro p e R s m args below meth c A cells slots Qf C hR E H locs ls hW hl
  exact lv_iconst C.1 C.2.1 hd hv (k p e R s m args below meth c A cells slots Qf C hR E H locs ls hW hl)
theorem PW_bipush {n : Int} {v : Int32} (hd : decode V.2.1 pc = .ok (.bipush n, 2)) (hp : pc + 2 = pc') (hv : (Int8.ofInt n).toInt32 = v) (k : PW Γ d V pc' L (.int v :: st) M Q) : PW Γ d V pc L (st) M Q := by
  subst hp
  intro p e R s m args below meth c A cells slots Qf C hR E H locs ls hW hl
  exact lv_bipush C.1 C.2.1 hd hv (k p e R s m args below meth c A cells slots Qf C hR E H locs ls hW hl)
theorem PW_sipush {n : Int} {v : Int32} (hd : decode V.2.1 pc = .ok (.sipush n, 3)) (hp : pc + 3 = pc') (hv : (Int16.ofInt n).toInt32 = v) (k : PW Γ d V pc' L (.int v :: st) M Q) : PW Γ d V pc L (st) M Q := by
  subst hp
  intro p e R s m args below meth c A cells slots Qf C hR E H locs ls hW hl
  exact lv_sipush C.1 C.2.1 hd hv (k p e R s m args below meth c A cells slots Qf C hR E H locs ls hW hl)
theorem PW_lconst {n : Fin 2} {v : Int64} (hd : decode V.2.1 pc = .ok (.lconst n, 1)) (hp : pc + 1 = pc') (hv : Int64.ofNat (n : Nat) = v) (k : PW Γ d V pc' L (.long v :: st) M Q) : PW Γ d V pc L (st) M Q := by
  subst hp
  intro p e R s m args below meth c A cells slots Qf C hR E H locs ls hW hl
  exact lv_lconst C.1 C.2.1 hd hv (k p e R s m args below meth c A cells slots Qf C hR E H locs ls hW hl)
theorem PW_ldcw {i : Nat} {v : Int32} (hd : decode V.2.1 pc = .ok (.ldc_w i, 3)) (hp : pc + 3 = pc') (hc : Cond.constant V.1.cls i v ∈ pv_T) (k : PW Γ d V pc' L (.int v :: st) M Q) : PW Γ d V pc L (st) M Q := by
  subst hp
  intro p e R s m args below meth c A cells slots Qf C hR E H locs ls hW hl
  exact lv_ldcw C.1 C.2.1 C.2.2.2.1 (C.2.2.2.2.1 _ hc) hd (k p e R s m args below meth c A cells slots Qf C hR E H locs ls hW hl)
theorem PW_ldc2 {i : Nat} {v : Int64} (hd : decode V.2.1 pc = .ok (.ldc2_w i, 3)) (hp : pc + 3 = pc') (hc : Cond.constantLong V.1.cls i v ∈ pv_T) (k : PW Γ d V pc' L (.long v :: st) M Q) : PW Γ d V pc L (st) M Q := by
  subst hp
  intro p e R s m args below meth c A cells slots Qf C hR E H locs ls hW hl
  exact lv_ldc2 C.1 C.2.1 C.2.2.2.1 (C.2.2.2.2.1 _ hc) hd (k p e R s m args below meth c A cells slots Qf C hR E H locs ls hW hl)
theorem PW_iadd {x y : Int32} (hd : decode V.2.1 pc = .ok (.iadd, 1)) (hp : pc + 1 = pc') (k : PW Γ d V pc' L (.int (x + y) :: st) M Q) : PW Γ d V pc L (.int y :: .int x :: st) M Q := by
  subst hp
  intro p e R s m args below meth c A cells slots Qf C hR E H locs ls hW hl
  exact lv_iadd C.1 C.2.1 hd (k p e R s m args below meth c A cells slots Qf C hR E H locs ls hW hl)
theorem PW_isub {x y : Int32} (hd : decode V.2.1 pc = .ok (.isub, 1)) (hp : pc + 1 = pc') (k : PW Γ d V pc' L (.int (x - y) :: st) M Q) : PW Γ d V pc L (.int y :: .int x :: st) M Q := by
  subst hp
  intro p e R s m args below meth c A cells slots Qf C hR E H locs ls hW hl
  exact lv_isub C.1 C.2.1 hd (k p e R s m args below meth c A cells slots Qf C hR E H locs ls hW hl)
theorem PW_imul {x y : Int32} (hd : decode V.2.1 pc = .ok (.imul, 1)) (hp : pc + 1 = pc') (k : PW Γ d V pc' L (.int (x * y) :: st) M Q) : PW Γ d V pc L (.int y :: .int x :: st) M Q := by
  subst hp
  intro p e R s m args below meth c A cells slots Qf C hR E H locs ls hW hl
  exact lv_imul C.1 C.2.1 hd (k p e R s m args below meth c A cells slots Qf C hR E H locs ls hW hl)
theorem PW_iand {x y : Int32} (hd : decode V.2.1 pc = .ok (.iand, 1)) (hp : pc + 1 = pc') (k : PW Γ d V pc' L (.int (x &&& y) :: st) M Q) : PW Γ d V pc L (.int y :: .int x :: st) M Q := by
  subst hp
  intro p e R s m args below meth c A cells slots Qf C hR E H locs ls hW hl
  exact lv_iand C.1 C.2.1 hd (k p e R s m args below meth c A cells slots Qf C hR E H locs ls hW hl)
theorem PW_ior {x y : Int32} (hd : decode V.2.1 pc = .ok (.ior, 1)) (hp : pc + 1 = pc') (k : PW Γ d V pc' L (.int (x ||| y) :: st) M Q) : PW Γ d V pc L (.int y :: .int x :: st) M Q := by
  subst hp
  intro p e R s m args below meth c A cells slots Qf C hR E H locs ls hW hl
  exact lv_ior C.1 C.2.1 hd (k p e R s m args below meth c A cells slots Qf C hR E H locs ls hW hl)
theorem PW_ixor {x y : Int32} (hd : decode V.2.1 pc = .ok (.ixor, 1)) (hp : pc + 1 = pc') (k : PW Γ d V pc' L (.int (x ^^^ y) :: st) M Q) : PW Γ d V pc L (.int y :: .int x :: st) M Q := by
  subst hp
  intro p e R s m args below meth c A cells slots Qf C hR E H locs ls hW hl
  exact lv_ixor C.1 C.2.1 hd (k p e R s m args below meth c A cells slots Qf C hR E H locs ls hW hl)
theorem PW_ishl {x y : Int32} (hd : decode V.2.1 pc = .ok (.ishl, 1)) (hp : pc + 1 = pc') (k : PW Γ d V pc' L (.int (x <<< (y &&& 31)) :: st) M Q) : PW Γ d V pc L (.int y :: .int x :: st) M Q := by
  subst hp
  intro p e R s m args below meth c A cells slots Qf C hR E H locs ls hW hl
  exact lv_ishl C.1 C.2.1 hd (k p e R s m args below meth c A cells slots Qf C hR E H locs ls hW hl)
theorem PW_ishr {x y : Int32} (hd : decode V.2.1 pc = .ok (.ishr, 1)) (hp : pc + 1 = pc') (k : PW Γ d V pc' L (.int (x >>> (y &&& 31)) :: st) M Q) : PW Γ d V pc L (.int y :: .int x :: st) M Q := by
  subst hp
  intro p e R s m args below meth c A cells slots Qf C hR E H locs ls hW hl
  exact lv_ishr C.1 C.2.1 hd (k p e R s m args below meth c A cells slots Qf C hR E H locs ls hW hl)
theorem PW_idiv {x y : Int32} (hd : decode V.2.1 pc = .ok (.idiv, 1)) (hp : pc + 1 = pc') (hne : ¬ y = 0) (k : PW Γ d V pc' L (.int (x / y) :: st) M Q) : PW Γ d V pc L (.int y :: .int x :: st) M Q := by
  subst hp
  intro p e R s m args below meth c A cells slots Qf C hR E H locs ls hW hl
  exact lv_idiv C.1 C.2.1 hd hne (k p e R s m args below meth c A cells slots Qf C hR E H locs ls hW hl)
theorem PW_irem {x y : Int32} (hd : decode V.2.1 pc = .ok (.irem, 1)) (hp : pc + 1 = pc') (hne : ¬ y = 0) (k : PW Γ d V pc' L (.int (x - x / y * y) :: st) M Q) : PW Γ d V pc L (.int y :: .int x :: st) M Q := by
  subst hp
  intro p e R s m args below meth c A cells slots Qf C hR E H locs ls hW hl
  exact lv_irem C.1 C.2.1 hd hne (k p e R s m args below meth c A cells slots Qf C hR E H locs ls hW hl)
theorem PW_iushr {x y v : Int32} (hd : decode V.2.1 pc = .ok (.iushr, 1)) (hp : pc + 1 = pc') (hv : (x.toUInt32 >>> (y.toUInt32 &&& Int32.toUInt32 31)).toInt32 = v) (k : PW Γ d V pc' L (.int v :: st) M Q) : PW Γ d V pc L (.int y :: .int x :: st) M Q := by
  subst hp
  intro p e R s m args below meth c A cells slots Qf C hR E H locs ls hW hl
  exact lv_iushr C.1 C.2.1 hd hv (k p e R s m args below meth c A cells slots Qf C hR E H locs ls hW hl)
theorem PW_ladd {x y : Int64} (hd : decode V.2.1 pc = .ok (.ladd, 1)) (hp : pc + 1 = pc') (k : PW Γ d V pc' L (.long (x + y) :: st) M Q) : PW Γ d V pc L (.long y :: .long x :: st) M Q := by
  subst hp
  intro p e R s m args below meth c A cells slots Qf C hR E H locs ls hW hl
  exact lv_ladd C.1 C.2.1 hd (k p e R s m args below meth c A cells slots Qf C hR E H locs ls hW hl)
theorem PW_lsub {x y : Int64} (hd : decode V.2.1 pc = .ok (.lsub, 1)) (hp : pc + 1 = pc') (k : PW Γ d V pc' L (.long (x - y) :: st) M Q) : PW Γ d V pc L (.long y :: .long x :: st) M Q := by
  subst hp
  intro p e R s m args below meth c A cells slots Qf C hR E H locs ls hW hl
  exact lv_lsub C.1 C.2.1 hd (k p e R s m args below meth c A cells slots Qf C hR E H locs ls hW hl)
theorem PW_lmul {x y : Int64} (hd : decode V.2.1 pc = .ok (.lmul, 1)) (hp : pc + 1 = pc') (k : PW Γ d V pc' L (.long (x * y) :: st) M Q) : PW Γ d V pc L (.long y :: .long x :: st) M Q := by
  subst hp
  intro p e R s m args below meth c A cells slots Qf C hR E H locs ls hW hl
  exact lv_lmul C.1 C.2.1 hd (k p e R s m args below meth c A cells slots Qf C hR E H locs ls hW hl)
theorem PW_ldiv {x y : Int64} (hd : decode V.2.1 pc = .ok (.ldiv, 1)) (hp : pc + 1 = pc') (hne : ¬ y = 0) (k : PW Γ d V pc' L (.long (x / y) :: st) M Q) : PW Γ d V pc L (.long y :: .long x :: st) M Q := by
  subst hp
  intro p e R s m args below meth c A cells slots Qf C hR E H locs ls hW hl
  exact lv_ldiv C.1 C.2.1 hd hne (k p e R s m args below meth c A cells slots Qf C hR E H locs ls hW hl)
theorem PW_lrem {x y : Int64} (hd : decode V.2.1 pc = .ok (.lrem, 1)) (hp : pc + 1 = pc') (hne : ¬ y = 0) (k : PW Γ d V pc' L (.long (x - x / y * y) :: st) M Q) : PW Γ d V pc L (.long y :: .long x :: st) M Q := by
  subst hp
  intro p e R s m args below meth c A cells slots Qf C hR E H locs ls hW hl
  exact lv_lrem C.1 C.2.1 hd hne (k p e R s m args below meth c A cells slots Qf C hR E H locs ls hW hl)
theorem PW_lshl {x : Int64} {y : Int32} (hd : decode V.2.1 pc = .ok (.lshl, 1)) (hp : pc + 1 = pc') (k : PW Γ d V pc' L (.long (x <<< (y.toInt64 &&& 63)) :: st) M Q) : PW Γ d V pc L (.int y :: .long x :: st) M Q := by
  subst hp
  intro p e R s m args below meth c A cells slots Qf C hR E H locs ls hW hl
  exact lv_lshl C.1 C.2.1 hd rfl (k p e R s m args below meth c A cells slots Qf C hR E H locs ls hW hl)
theorem PW_i2l {x : Int32} (hd : decode V.2.1 pc = .ok (.i2l, 1)) (hp : pc + 1 = pc') (k : PW Γ d V pc' L (.long x.toInt64 :: st) M Q) : PW Γ d V pc L (.int x :: st) M Q := by
  subst hp
  intro p e R s m args below meth c A cells slots Qf C hR E H locs ls hW hl
  exact lv_i2l C.1 C.2.1 hd rfl (k p e R s m args below meth c A cells slots Qf C hR E H locs ls hW hl)
theorem PW_i2b {x : Int32} (hd : decode V.2.1 pc = .ok (.i2b, 1)) (hp : pc + 1 = pc') (k : PW Γ d V pc' L (.int x.toInt8.toInt32 :: st) M Q) : PW Γ d V pc L (.int x :: st) M Q := by
  subst hp
  intro p e R s m args below meth c A cells slots Qf C hR E H locs ls hW hl
  exact lv_i2b C.1 C.2.1 hd rfl (k p e R s m args below meth c A cells slots Qf C hR E H locs ls hW hl)
theorem PW_i2s {x : Int32} (hd : decode V.2.1 pc = .ok (.i2s, 1)) (hp : pc + 1 = pc') (k : PW Γ d V pc' L (.int x.toInt16.toInt32 :: st) M Q) : PW Γ d V pc L (.int x :: st) M Q := by
  subst hp
  intro p e R s m args below meth c A cells slots Qf C hR E H locs ls hW hl
  exact lv_i2s C.1 C.2.1 hd rfl (k p e R s m args below meth c A cells slots Qf C hR E H locs ls hW hl)
theorem PW_lcmp {x y : Int64} (hd : decode V.2.1 pc = .ok (.lcmp, 1)) (hp : pc + 1 = pc') (k : PW Γ d V pc' L (.int (lg_cmp x y) :: st) M Q) : PW Γ d V pc L (.long y :: .long x :: st) M Q := by
  subst hp
  intro p e R s m args below meth c A cells slots Qf C hR E H locs ls hW hl
  exact W.lcmp C.1 C.2.1 hd (k p e R s m args below meth c A cells slots Qf C hR E H locs ls hW hl)
theorem PW_dupI {x : Int32} (hd : decode V.2.1 pc = .ok (.dup, 1)) (hp : pc + 1 = pc') (k : PW Γ d V pc' L (.int x :: .int x :: st) M Q) : PW Γ d V pc L (.int x :: st) M Q := by
  subst hp
  intro p e R s m args below meth c A cells slots Qf C hR E H locs ls hW hl
  exact lv_dup C.1 C.2.1 hd rfl (k p e R s m args below meth c A cells slots Qf C hR E H locs ls hW hl)
theorem PW_dupR {x : Nat} (hd : decode V.2.1 pc = .ok (.dup, 1)) (hp : pc + 1 = pc') (k : PW Γ d V pc' L (.ref x :: .ref x :: st) M Q) : PW Γ d V pc L (.ref x :: st) M Q := by
  subst hp
  intro p e R s m args below meth c A cells slots Qf C hR E H locs ls hW hl
  exact lv_dup C.1 C.2.1 hd rfl (k p e R s m args below meth c A cells slots Qf C hR E H locs ls hW hl)
theorem PW_popI {x : Int32} (hd : decode V.2.1 pc = .ok (.pop, 1)) (hp : pc + 1 = pc') (k : PW Γ d V pc' L (st) M Q) : PW Γ d V pc L (.int x :: st) M Q := by
  subst hp
  intro p e R s m args below meth c A cells slots Qf C hR E H locs ls hW hl
  exact lv_pop C.1 C.2.1 hd rfl (k p e R s m args below meth c A cells slots Qf C hR E H locs ls hW hl)
theorem PW_dup_x1I {x y : Int32} (hd : decode V.2.1 pc = .ok (.dup_x1, 1)) (hp : pc + 1 = pc') (k : PW Γ d V pc' L (.int x :: .int y :: .int x :: st) M Q) : PW Γ d V pc L (.int x :: .int y :: st) M Q := by
  subst hp
  intro p e R s m args below meth c A cells slots Qf C hR E H locs ls hW hl
  exact lv_dup_x1 C.1 C.2.1 hd rfl rfl (k p e R s m args below meth c A cells slots Qf C hR E H locs ls hW hl)
theorem PW_dup_x1R {x : Int32} {y : Nat} (hd : decode V.2.1 pc = .ok (.dup_x1, 1)) (hp : pc + 1 = pc') (k : PW Γ d V pc' L (.int x :: .ref y :: .int x :: st) M Q) : PW Γ d V pc L (.int x :: .ref y :: st) M Q := by
  subst hp
  intro p e R s m args below meth c A cells slots Qf C hR E H locs ls hW hl
  exact lv_dup_x1 C.1 C.2.1 hd rfl rfl (k p e R s m args below meth c A cells slots Qf C hR E H locs ls hW hl)
theorem PW_dup2IR {x : Int32} {y : Nat} (hd : decode V.2.1 pc = .ok (.dup2, 1)) (hp : pc + 1 = pc') (k : PW Γ d V pc' L (.int x :: .ref y :: .int x :: .ref y :: st) M Q) : PW Γ d V pc L (.int x :: .ref y :: st) M Q := by
  subst hp
  intro p e R s m args below meth c A cells slots Qf C hR E H locs ls hW hl
  exact lv_dup2_11 C.1 C.2.1 hd rfl rfl (k p e R s m args below meth c A cells slots Qf C hR E H locs ls hW hl)
theorem PW_iload0 {x : Int32} (hd : decode V.2.1 pc = .ok (.iload_n 0, 1)) (hp : pc + 1 = pc') (k : PW Γ d V pc' (.int x :: L) (.int x :: st) M Q) : PW Γ d V pc (.int x :: L) st M Q := by
  subst hp
  intro p e R s m args below meth c A cells slots Qf C hR E H locs ls hW hl
  exact lv_iload_n C.1 C.2.1 hd rfl (pv_at hl (k := 0) (v := .int x) rfl (by simp)) (k p e R s m args below meth c A cells slots Qf C hR E H locs ls hW hl)
theorem PW_istore0 {o : Value} {x : Int32} (hd : decode V.2.1 pc = .ok (.istore_n 0, 1)) (hp : pc + 1 = pc') (hm : Nat.blt 0 V.2.2.1 = true) (hn : pv_nl 0 (o :: L) = true) (k : PW Γ d V pc' (.int x :: L) st M Q) : PW Γ d V pc (o :: L) (.int x :: st) M Q := by
  subst hp
  intro p e R s m args below meth c A cells slots Qf C hR E H locs ls hW hl
  exact lv_istore_n C.1 C.2.1 hd rfl hl (Nat.le_of_ble_eq_true hm) rfl (fun ls2 hl2 => k p e R s m args below meth c A cells slots Qf C hR E H locs ls2 hW (pv_st1 (v := .int x) hn hl2))
theorem PW_lload0 {x : Int64} (hd : decode V.2.1 pc = .ok (.lload_n 0, 1)) (hp : pc + 1 = pc') (k : PW Γ d V pc' (.long x :: L) (.long x :: st) M Q) : PW Γ d V pc (.long x :: L) st M Q := by
  subst hp
  intro p e R s m args below meth c A cells slots Qf C hR E H locs ls hW hl
  exact lv_lload_n C.1 C.2.1 hd rfl (pv_at hl (k := 0) (v := .long x) rfl (by simp)) (k p e R s m args below meth c A cells slots Qf C hR E H locs ls hW hl)
theorem PW_lstore0 {o o2 : Value} {x : Int64} (hd : decode V.2.1 pc = .ok (.lstore_n 0, 1)) (hp : pc + 1 = pc') (hm : Nat.blt 1 V.2.2.1 = true) (hn : pv_nl 0 (o :: o2 :: L) = true) (k : PW Γ d V pc' (.long x :: .null :: L) st M Q) : PW Γ d V pc (o :: o2 :: L) (.long x :: st) M Q := by
  subst hp
  intro p e R s m args below meth c A cells slots Qf C hR E H locs ls hW hl
  exact lv_lstore_n C.1 C.2.1 hd rfl hl (Nat.le_of_ble_eq_true hm) rfl (fun ls2 hl2 => k p e R s m args below meth c A cells slots Qf C hR E H locs ls2 hW (pv_st2 (v := .long x) hn hl2))
theorem PW_aload0 {x : Nat} (hd : decode V.2.1 pc = .ok (.aload_n 0, 1)) (hp : pc + 1 = pc') (k : PW Γ d V pc' (.ref x :: L) (.ref x :: st) M Q) : PW Γ d V pc (.ref x :: L) st M Q := by
  subst hp
  intro p e R s m args below meth c A cells slots Qf C hR E H locs ls hW hl
  exact lv_aload_n C.1 C.2.1 hd rfl (pv_at hl (k := 0) (v := .ref x) rfl (by simp)) (k p e R s m args below meth c A cells slots Qf C hR E H locs ls hW hl)
theorem PW_astore0 {o : Value} {x : Nat} (hd : decode V.2.1 pc = .ok (.astore_n 0, 1)) (hp : pc + 1 = pc') (hm : Nat.blt 0 V.2.2.1 = true) (hn : pv_nl 0 (o :: L) = true) (k : PW Γ d V pc' (.ref x :: L) st M Q) : PW Γ d V pc (o :: L) (.ref x :: st) M Q := by
  subst hp
  intro p e R s m args below meth c A cells slots Qf C hR E H locs ls hW hl
  exact lv_astore_n C.1 C.2.1 hd rfl hl (Nat.le_of_ble_eq_true hm) rfl (fun ls2 hl2 => k p e R s m args below meth c A cells slots Qf C hR E H locs ls2 hW (pv_st1 (v := .ref x) hn hl2))
theorem PW_iinc0 {n : Int} {x v : Int32} (hd : decode V.2.1 pc = .ok (.iinc 0 n, 3)) (hp : pc + 3 = pc') (hm : Nat.blt 0 V.2.2.1 = true) (hn : pv_nl 0 (.int x :: L) = true) (hv : x + Int32.ofInt n = v) (k : PW Γ d V pc' (.int v :: L) st M Q) : PW Γ d V pc (.int x :: L) st M Q := by
  subst hp
  intro p e R s m args below meth c A cells slots Qf C hR E H locs ls hW hl
  obtain ⟨j, hj⟩ := List.getElem?_of_mem ((pv_lv_mem Γ.2.2.2 (0, .int x) (.int x :: L) 0).mpr ⟨0, .int x, rfl, by simp, rfl⟩)
  exact lv_iinc C.1 C.2.1 hd hl hj hv (Nat.le_of_ble_eq_true hm) rfl (fun ls2 hl2 => k p e R s m args below meth c A cells slots Qf C hR E H locs ls2 hW (pv_st1 (v := .int v) hn hl2))
theorem PW_iload1 {a0 : Value} {x : Int32} (hd : decode V.2.1 pc = .ok (.iload_n 1, 1)) (hp : pc + 1 = pc') (k : PW Γ d V pc' (a0 :: .int x :: L) (.int x :: st) M Q) : PW Γ d V pc (a0 :: .int x :: L) st M Q := by
  subst hp
  intro p e R s m args below meth c A cells slots Qf C hR E H locs ls hW hl
  exact lv_iload_n C.1 C.2.1 hd rfl (pv_at hl (k := 1) (v := .int x) rfl (by simp)) (k p e R s m args below meth c A cells slots Qf C hR E H locs ls hW hl)
theorem PW_istore1 {a0 : Value} {o : Value} {x : Int32} (hd : decode V.2.1 pc = .ok (.istore_n 1, 1)) (hp : pc + 1 = pc') (hm : Nat.blt 1 V.2.2.1 = true) (hn : pv_nl 1 (a0 :: o :: L) = true) (k : PW Γ d V pc' (a0 :: .int x :: L) st M Q) : PW Γ d V pc (a0 :: o :: L) (.int x :: st) M Q := by
  subst hp
  intro p e R s m args below meth c A cells slots Qf C hR E H locs ls hW hl
  exact lv_istore_n C.1 C.2.1 hd rfl hl (Nat.le_of_ble_eq_true hm) rfl (fun ls2 hl2 => k p e R s m args below meth c A cells slots Qf C hR E H locs ls2 hW (pv_st1 (v := .int x) hn hl2))
theorem PW_lload1 {a0 : Value} {x : Int64} (hd : decode V.2.1 pc = .ok (.lload_n 1, 1)) (hp : pc + 1 = pc') (k : PW Γ d V pc' (a0 :: .long x :: L) (.long x :: st) M Q) : PW Γ d V pc (a0 :: .long x :: L) st M Q := by
  subst hp
  intro p e R s m args below meth c A cells slots Qf C hR E H locs ls hW hl
  exact lv_lload_n C.1 C.2.1 hd rfl (pv_at hl (k := 1) (v := .long x) rfl (by simp)) (k p e R s m args below meth c A cells slots Qf C hR E H locs ls hW hl)
theorem PW_lstore1 {a0 : Value} {o o2 : Value} {x : Int64} (hd : decode V.2.1 pc = .ok (.lstore_n 1, 1)) (hp : pc + 1 = pc') (hm : Nat.blt 2 V.2.2.1 = true) (hn : pv_nl 1 (a0 :: o :: o2 :: L) = true) (k : PW Γ d V pc' (a0 :: .long x :: .null :: L) st M Q) : PW Γ d V pc (a0 :: o :: o2 :: L) (.long x :: st) M Q := by
  subst hp
  intro p e R s m args below meth c A cells slots Qf C hR E H locs ls hW hl
  exact lv_lstore_n C.1 C.2.1 hd rfl hl (Nat.le_of_ble_eq_true hm) rfl (fun ls2 hl2 => k p e R s m args below meth c A cells slots Qf C hR E H locs ls2 hW (pv_st2 (v := .long x) hn hl2))
theorem PW_aload1 {a0 : Value} {x : Nat} (hd : decode V.2.1 pc = .ok (.aload_n 1, 1)) (hp : pc + 1 = pc') (k : PW Γ d V pc' (a0 :: .ref x :: L) (.ref x :: st) M Q) : PW Γ d V pc (a0 :: .ref x :: L) st M Q := by
  subst hp
  intro p e R s m args below meth c A cells slots Qf C hR E H locs ls hW hl
  exact lv_aload_n C.1 C.2.1 hd rfl (pv_at hl (k := 1) (v := .ref x) rfl (by simp)) (k p e R s m args below meth c A cells slots Qf C hR E H locs ls hW hl)
theorem PW_astore1 {a0 : Value} {o : Value} {x : Nat} (hd : decode V.2.1 pc = .ok (.astore_n 1, 1)) (hp : pc + 1 = pc') (hm : Nat.blt 1 V.2.2.1 = true) (hn : pv_nl 1 (a0 :: o :: L) = true) (k : PW Γ d V pc' (a0 :: .ref x :: L) st M Q) : PW Γ d V pc (a0 :: o :: L) (.ref x :: st) M Q := by
  subst hp
  intro p e R s m args below meth c A cells slots Qf C hR E H locs ls hW hl
  exact lv_astore_n C.1 C.2.1 hd rfl hl (Nat.le_of_ble_eq_true hm) rfl (fun ls2 hl2 => k p e R s m args below meth c A cells slots Qf C hR E H locs ls2 hW (pv_st1 (v := .ref x) hn hl2))
theorem PW_iinc1 {a0 : Value} {n : Int} {x v : Int32} (hd : decode V.2.1 pc = .ok (.iinc 1 n, 3)) (hp : pc + 3 = pc') (hm : Nat.blt 1 V.2.2.1 = true) (hn : pv_nl 1 (a0 :: .int x :: L) = true) (hv : x + Int32.ofInt n = v) (k : PW Γ d V pc' (a0 :: .int v :: L) st M Q) : PW Γ d V pc (a0 :: .int x :: L) st M Q := by
  subst hp
  intro p e R s m args below meth c A cells slots Qf C hR E H locs ls hW hl
  obtain ⟨j, hj⟩ := List.getElem?_of_mem ((pv_lv_mem Γ.2.2.2 (1, .int x) (a0 :: .int x :: L) 0).mpr ⟨1, .int x, rfl, by simp, rfl⟩)
  exact lv_iinc C.1 C.2.1 hd hl hj hv (Nat.le_of_ble_eq_true hm) rfl (fun ls2 hl2 => k p e R s m args below meth c A cells slots Qf C hR E H locs ls2 hW (pv_st1 (v := .int v) hn hl2))
theorem PW_iload2 {a0 a1 : Value} {x : Int32} (hd : decode V.2.1 pc = .ok (.iload_n 2, 1)) (hp : pc + 1 = pc') (k : PW Γ d V pc' (a0 :: a1 :: .int x :: L) (.int x :: st) M Q) : PW Γ d V pc (a0 :: a1 :: .int x :: L) st M Q := by
  subst hp
  intro p e R s m args below meth c A cells slots Qf C hR E H locs ls hW hl
  exact lv_iload_n C.1 C.2.1 hd rfl (pv_at hl (k := 2) (v := .int x) rfl (by simp)) (k p e R s m args below meth c A cells slots Qf C hR E H locs ls hW hl)
theorem PW_istore2 {a0 a1 : Value} {o : Value} {x : Int32} (hd : decode V.2.1 pc = .ok (.istore_n 2, 1)) (hp : pc + 1 = pc') (hm : Nat.blt 2 V.2.2.1 = true) (hn : pv_nl 2 (a0 :: a1 :: o :: L) = true) (k : PW Γ d V pc' (a0 :: a1 :: .int x :: L) st M Q) : PW Γ d V pc (a0 :: a1 :: o :: L) (.int x :: st) M Q := by
  subst hp
  intro p e R s m args below meth c A cells slots Qf C hR E H locs ls hW hl
  exact lv_istore_n C.1 C.2.1 hd rfl hl (Nat.le_of_ble_eq_true hm) rfl (fun ls2 hl2 => k p e R s m args below meth c A cells slots Qf C hR E H locs ls2 hW (pv_st1 (v := .int x) hn hl2))
theorem PW_lload2 {a0 a1 : Value} {x : Int64} (hd : decode V.2.1 pc = .ok (.lload_n 2, 1)) (hp : pc + 1 = pc') (k : PW Γ d V pc' (a0 :: a1 :: .long x :: L) (.long x :: st) M Q) : PW Γ d V pc (a0 :: a1 :: .long x :: L) st M Q := by
  subst hp
  intro p e R s m args below meth c A cells slots Qf C hR E H locs ls hW hl
  exact lv_lload_n C.1 C.2.1 hd rfl (pv_at hl (k := 2) (v := .long x) rfl (by simp)) (k p e R s m args below meth c A cells slots Qf C hR E H locs ls hW hl)
theorem PW_lstore2 {a0 a1 : Value} {o o2 : Value} {x : Int64} (hd : decode V.2.1 pc = .ok (.lstore_n 2, 1)) (hp : pc + 1 = pc') (hm : Nat.blt 3 V.2.2.1 = true) (hn : pv_nl 2 (a0 :: a1 :: o :: o2 :: L) = true) (k : PW Γ d V pc' (a0 :: a1 :: .long x :: .null :: L) st M Q) : PW Γ d V pc (a0 :: a1 :: o :: o2 :: L) (.long x :: st) M Q := by
  subst hp
  intro p e R s m args below meth c A cells slots Qf C hR E H locs ls hW hl
  exact lv_lstore_n C.1 C.2.1 hd rfl hl (Nat.le_of_ble_eq_true hm) rfl (fun ls2 hl2 => k p e R s m args below meth c A cells slots Qf C hR E H locs ls2 hW (pv_st2 (v := .long x) hn hl2))
theorem PW_aload2 {a0 a1 : Value} {x : Nat} (hd : decode V.2.1 pc = .ok (.aload_n 2, 1)) (hp : pc + 1 = pc') (k : PW Γ d V pc' (a0 :: a1 :: .ref x :: L) (.ref x :: st) M Q) : PW Γ d V pc (a0 :: a1 :: .ref x :: L) st M Q := by
  subst hp
  intro p e R s m args below meth c A cells slots Qf C hR E H locs ls hW hl
  exact lv_aload_n C.1 C.2.1 hd rfl (pv_at hl (k := 2) (v := .ref x) rfl (by simp)) (k p e R s m args below meth c A cells slots Qf C hR E H locs ls hW hl)
theorem PW_astore2 {a0 a1 : Value} {o : Value} {x : Nat} (hd : decode V.2.1 pc = .ok (.astore_n 2, 1)) (hp : pc + 1 = pc') (hm : Nat.blt 2 V.2.2.1 = true) (hn : pv_nl 2 (a0 :: a1 :: o :: L) = true) (k : PW Γ d V pc' (a0 :: a1 :: .ref x :: L) st M Q) : PW Γ d V pc (a0 :: a1 :: o :: L) (.ref x :: st) M Q := by
  subst hp
  intro p e R s m args below meth c A cells slots Qf C hR E H locs ls hW hl
  exact lv_astore_n C.1 C.2.1 hd rfl hl (Nat.le_of_ble_eq_true hm) rfl (fun ls2 hl2 => k p e R s m args below meth c A cells slots Qf C hR E H locs ls2 hW (pv_st1 (v := .ref x) hn hl2))
theorem PW_iinc2 {a0 a1 : Value} {n : Int} {x v : Int32} (hd : decode V.2.1 pc = .ok (.iinc 2 n, 3)) (hp : pc + 3 = pc') (hm : Nat.blt 2 V.2.2.1 = true) (hn : pv_nl 2 (a0 :: a1 :: .int x :: L) = true) (hv : x + Int32.ofInt n = v) (k : PW Γ d V pc' (a0 :: a1 :: .int v :: L) st M Q) : PW Γ d V pc (a0 :: a1 :: .int x :: L) st M Q := by
  subst hp
  intro p e R s m args below meth c A cells slots Qf C hR E H locs ls hW hl
  obtain ⟨j, hj⟩ := List.getElem?_of_mem ((pv_lv_mem Γ.2.2.2 (2, .int x) (a0 :: a1 :: .int x :: L) 0).mpr ⟨2, .int x, rfl, by simp, rfl⟩)
  exact lv_iinc C.1 C.2.1 hd hl hj hv (Nat.le_of_ble_eq_true hm) rfl (fun ls2 hl2 => k p e R s m args below meth c A cells slots Qf C hR E H locs ls2 hW (pv_st1 (v := .int v) hn hl2))
theorem PW_iload3 {a0 a1 a2 : Value} {x : Int32} (hd : decode V.2.1 pc = .ok (.iload_n 3, 1)) (hp : pc + 1 = pc') (k : PW Γ d V pc' (a0 :: a1 :: a2 :: .int x :: L) (.int x :: st) M Q) : PW Γ d V pc (a0 :: a1 :: a2 :: .int x :: L) st M Q := by
  subst hp
  intro p e R s m args below meth c A cells slots Qf C hR E H locs ls hW hl
  exact lv_iload_n C.1 C.2.1 hd rfl (pv_at hl (k := 3) (v := .int x) rfl (by simp)) (k p e R s m args below meth c A cells slots Qf C hR E H locs ls hW hl)
theorem PW_istore3 {a0 a1 a2 : Value} {o : Value} {x : Int32} (hd : decode V.2.1 pc = .ok (.istore_n 3, 1)) (hp : pc + 1 = pc') (hm : Nat.blt 3 V.2.2.1 = true) (hn : pv_nl 3 (a0 :: a1 :: a2 :: o :: L) = true) (k : PW Γ d V pc' (a0 :: a1 :: a2 :: .int x :: L) st M Q) : PW Γ d V pc (a0 :: a1 :: a2 :: o :: L) (.int x :: st) M Q := by
  subst hp
  intro p e R s m args below meth c A cells slots Qf C hR E H locs ls hW hl
  exact lv_istore_n C.1 C.2.1 hd rfl hl (Nat.le_of_ble_eq_true hm) rfl (fun ls2 hl2 => k p e R s m args below meth c A cells slots Qf C hR E H locs ls2 hW (pv_st1 (v := .int x) hn hl2))
theorem PW_lload3 {a0 a1 a2 : Value} {x : Int64} (hd : decode V.2.1 pc = .ok (.lload_n 3, 1)) (hp : pc + 1 = pc') (k : PW Γ d V pc' (a0 :: a1 :: a2 :: .long x :: L) (.long x :: st) M Q) : PW Γ d V pc (a0 :: a1 :: a2 :: .long x :: L) st M Q := by
  subst hp
  intro p e R s m args below meth c A cells slots Qf C hR E H locs ls hW hl
  exact lv_lload_n C.1 C.2.1 hd rfl (pv_at hl (k := 3) (v := .long x) rfl (by simp)) (k p e R s m args below meth c A cells slots Qf C hR E H locs ls hW hl)
theorem PW_lstore3 {a0 a1 a2 : Value} {o o2 : Value} {x : Int64} (hd : decode V.2.1 pc = .ok (.lstore_n 3, 1)) (hp : pc + 1 = pc') (hm : Nat.blt 4 V.2.2.1 = true) (hn : pv_nl 3 (a0 :: a1 :: a2 :: o :: o2 :: L) = true) (k : PW Γ d V pc' (a0 :: a1 :: a2 :: .long x :: .null :: L) st M Q) : PW Γ d V pc (a0 :: a1 :: a2 :: o :: o2 :: L) (.long x :: st) M Q := by
  subst hp
  intro p e R s m args below meth c A cells slots Qf C hR E H locs ls hW hl
  exact lv_lstore_n C.1 C.2.1 hd rfl hl (Nat.le_of_ble_eq_true hm) rfl (fun ls2 hl2 => k p e R s m args below meth c A cells slots Qf C hR E H locs ls2 hW (pv_st2 (v := .long x) hn hl2))
theorem PW_aload3 {a0 a1 a2 : Value} {x : Nat} (hd : decode V.2.1 pc = .ok (.aload_n 3, 1)) (hp : pc + 1 = pc') (k : PW Γ d V pc' (a0 :: a1 :: a2 :: .ref x :: L) (.ref x :: st) M Q) : PW Γ d V pc (a0 :: a1 :: a2 :: .ref x :: L) st M Q := by
  subst hp
  intro p e R s m args below meth c A cells slots Qf C hR E H locs ls hW hl
  exact lv_aload_n C.1 C.2.1 hd rfl (pv_at hl (k := 3) (v := .ref x) rfl (by simp)) (k p e R s m args below meth c A cells slots Qf C hR E H locs ls hW hl)
theorem PW_astore3 {a0 a1 a2 : Value} {o : Value} {x : Nat} (hd : decode V.2.1 pc = .ok (.astore_n 3, 1)) (hp : pc + 1 = pc') (hm : Nat.blt 3 V.2.2.1 = true) (hn : pv_nl 3 (a0 :: a1 :: a2 :: o :: L) = true) (k : PW Γ d V pc' (a0 :: a1 :: a2 :: .ref x :: L) st M Q) : PW Γ d V pc (a0 :: a1 :: a2 :: o :: L) (.ref x :: st) M Q := by
  subst hp
  intro p e R s m args below meth c A cells slots Qf C hR E H locs ls hW hl
  exact lv_astore_n C.1 C.2.1 hd rfl hl (Nat.le_of_ble_eq_true hm) rfl (fun ls2 hl2 => k p e R s m args below meth c A cells slots Qf C hR E H locs ls2 hW (pv_st1 (v := .ref x) hn hl2))
theorem PW_iinc3 {a0 a1 a2 : Value} {n : Int} {x v : Int32} (hd : decode V.2.1 pc = .ok (.iinc 3 n, 3)) (hp : pc + 3 = pc') (hm : Nat.blt 3 V.2.2.1 = true) (hn : pv_nl 3 (a0 :: a1 :: a2 :: .int x :: L) = true) (hv : x + Int32.ofInt n = v) (k : PW Γ d V pc' (a0 :: a1 :: a2 :: .int v :: L) st M Q) : PW Γ d V pc (a0 :: a1 :: a2 :: .int x :: L) st M Q := by
  subst hp
  intro p e R s m args below meth c A cells slots Qf C hR E H locs ls hW hl
  obtain ⟨j, hj⟩ := List.getElem?_of_mem ((pv_lv_mem Γ.2.2.2 (3, .int x) (a0 :: a1 :: a2 :: .int x :: L) 0).mpr ⟨3, .int x, rfl, by simp, rfl⟩)
  exact lv_iinc C.1 C.2.1 hd hl hj hv (Nat.le_of_ble_eq_true hm) rfl (fun ls2 hl2 => k p e R s m args below meth c A cells slots Qf C hR E H locs ls2 hW (pv_st1 (v := .int v) hn hl2))
theorem PW_iload4 {a0 a1 a2 a3 : Value} {x : Int32} (hd : decode V.2.1 pc = .ok (.iload 4, 2)) (hp : pc + 2 = pc') (k : PW Γ d V pc' (a0 :: a1 :: a2 :: a3 :: .int x :: L) (.int x :: st) M Q) : PW Γ d V pc (a0 :: a1 :: a2 :: a3 :: .int x :: L) st M Q := by
  subst hp
  intro p e R s m args below meth c A cells slots Qf C hR E H locs ls hW hl
  exact lv_iload C.1 C.2.1 hd (pv_at hl (k := 4) (v := .int x) rfl (by simp)) (k p e R s m args below meth c A cells slots Qf C hR E H locs ls hW hl)
theorem PW_istore4 {a0 a1 a2 a3 : Value} {o : Value} {x : Int32} (hd : decode V.2.1 pc = .ok (.istore 4, 2)) (hp : pc + 2 = pc') (hm : Nat.blt 4 V.2.2.1 = true) (hn : pv_nl 4 (a0 :: a1 :: a2 :: a3 :: o :: L) = true) (k : PW Γ d V pc' (a0 :: a1 :: a2 :: a3 :: .int x :: L) st M Q) : PW Γ d V pc (a0 :: a1 :: a2 :: a3 :: o :: L) (.int x :: st) M Q := by
  subst hp
  intro p e R s m args below meth c A cells slots Qf C hR E H locs ls hW hl
  exact lv_istore C.1 C.2.1 hd hl (Nat.le_of_ble_eq_true hm) rfl (fun ls2 hl2 => k p e R s m args below meth c A cells slots Qf C hR E H locs ls2 hW (pv_st1 (v := .int x) hn hl2))
theorem PW_lload4 {a0 a1 a2 a3 : Value} {x : Int64} (hd : decode V.2.1 pc = .ok (.lload 4, 2)) (hp : pc + 2 = pc') (k : PW Γ d V pc' (a0 :: a1 :: a2 :: a3 :: .long x :: L) (.long x :: st) M Q) : PW Γ d V pc (a0 :: a1 :: a2 :: a3 :: .long x :: L) st M Q := by
  subst hp
  intro p e R s m args below meth c A cells slots Qf C hR E H locs ls hW hl
  exact lv_lload C.1 C.2.1 hd (pv_at hl (k := 4) (v := .long x) rfl (by simp)) (k p e R s m args below meth c A cells slots Qf C hR E H locs ls hW hl)
theorem PW_lstore4 {a0 a1 a2 a3 : Value} {o o2 : Value} {x : Int64} (hd : decode V.2.1 pc = .ok (.lstore 4, 2)) (hp : pc + 2 = pc') (hm : Nat.blt 5 V.2.2.1 = true) (hn : pv_nl 4 (a0 :: a1 :: a2 :: a3 :: o :: o2 :: L) = true) (k : PW Γ d V pc' (a0 :: a1 :: a2 :: a3 :: .long x :: .null :: L) st M Q) : PW Γ d V pc (a0 :: a1 :: a2 :: a3 :: o :: o2 :: L) (.long x :: st) M Q := by
  subst hp
  intro p e R s m args below meth c A cells slots Qf C hR E H locs ls hW hl
  exact lv_lstore C.1 C.2.1 hd hl (Nat.le_of_ble_eq_true hm) rfl (fun ls2 hl2 => k p e R s m args below meth c A cells slots Qf C hR E H locs ls2 hW (pv_st2 (v := .long x) hn hl2))
theorem PW_aload4 {a0 a1 a2 a3 : Value} {x : Nat} (hd : decode V.2.1 pc = .ok (.aload 4, 2)) (hp : pc + 2 = pc') (k : PW Γ d V pc' (a0 :: a1 :: a2 :: a3 :: .ref x :: L) (.ref x :: st) M Q) : PW Γ d V pc (a0 :: a1 :: a2 :: a3 :: .ref x :: L) st M Q := by
  subst hp
  intro p e R s m args below meth c A cells slots Qf C hR E H locs ls hW hl
  exact lv_aload C.1 C.2.1 hd (pv_at hl (k := 4) (v := .ref x) rfl (by simp)) (k p e R s m args below meth c A cells slots Qf C hR E H locs ls hW hl)
theorem PW_astore4 {a0 a1 a2 a3 : Value} {o : Value} {x : Nat} (hd : decode V.2.1 pc = .ok (.astore 4, 2)) (hp : pc + 2 = pc') (hm : Nat.blt 4 V.2.2.1 = true) (hn : pv_nl 4 (a0 :: a1 :: a2 :: a3 :: o :: L) = true) (k : PW Γ d V pc' (a0 :: a1 :: a2 :: a3 :: .ref x :: L) st M Q) : PW Γ d V pc (a0 :: a1 :: a2 :: a3 :: o :: L) (.ref x :: st) M Q := by
  subst hp
  intro p e R s m args below meth c A cells slots Qf C hR E H locs ls hW hl
  exact lv_astore C.1 C.2.1 hd hl (Nat.le_of_ble_eq_true hm) rfl (fun ls2 hl2 => k p e R s m args below meth c A cells slots Qf C hR E H locs ls2 hW (pv_st1 (v := .ref x) hn hl2))
theorem PW_iinc4 {a0 a1 a2 a3 : Value} {n : Int} {x v : Int32} (hd : decode V.2.1 pc = .ok (.iinc 4 n, 3)) (hp : pc + 3 = pc') (hm : Nat.blt 4 V.2.2.1 = true) (hn : pv_nl 4 (a0 :: a1 :: a2 :: a3 :: .int x :: L) = true) (hv : x + Int32.ofInt n = v) (k : PW Γ d V pc' (a0 :: a1 :: a2 :: a3 :: .int v :: L) st M Q) : PW Γ d V pc (a0 :: a1 :: a2 :: a3 :: .int x :: L) st M Q := by
  subst hp
  intro p e R s m args below meth c A cells slots Qf C hR E H locs ls hW hl
  obtain ⟨j, hj⟩ := List.getElem?_of_mem ((pv_lv_mem Γ.2.2.2 (4, .int x) (a0 :: a1 :: a2 :: a3 :: .int x :: L) 0).mpr ⟨4, .int x, rfl, by simp, rfl⟩)
  exact lv_iinc C.1 C.2.1 hd hl hj hv (Nat.le_of_ble_eq_true hm) rfl (fun ls2 hl2 => k p e R s m args below meth c A cells slots Qf C hR E H locs ls2 hW (pv_st1 (v := .int v) hn hl2))
theorem PW_iload5 {a0 a1 a2 a3 a4 : Value} {x : Int32} (hd : decode V.2.1 pc = .ok (.iload 5, 2)) (hp : pc + 2 = pc') (k : PW Γ d V pc' (a0 :: a1 :: a2 :: a3 :: a4 :: .int x :: L) (.int x :: st) M Q) : PW Γ d V pc (a0 :: a1 :: a2 :: a3 :: a4 :: .int x :: L) st M Q := by
  subst hp
  intro p e R s m args below meth c A cells slots Qf C hR E H locs ls hW hl
  exact lv_iload C.1 C.2.1 hd (pv_at hl (k := 5) (v := .int x) rfl (by simp)) (k p e R s m args below meth c A cells slots Qf C hR E H locs ls hW hl)
theorem PW_istore5 {a0 a1 a2 a3 a4 : Value} {o : Value} {x : Int32} (hd : decode V.2.1 pc = .ok (.istore 5, 2)) (hp : pc + 2 = pc') (hm : Nat.blt 5 V.2.2.1 = true) (hn : pv_nl 5 (a0 :: a1 :: a2 :: a3 :: a4 :: o :: L) = true) (k : PW Γ d V pc' (a0 :: a1 :: a2 :: a3 :: a4 :: .int x :: L) st M Q) : PW Γ d V pc (a0 :: a1 :: a2 :: a3 :: a4 :: o :: L) (.int x :: st) M Q := by
  subst hp
  intro p e R s m args below meth c A cells slots Qf C hR E H locs ls hW hl
  exact lv_istore C.1 C.2.1 hd hl (Nat.le_of_ble_eq_true hm) rfl (fun ls2 hl2 => k p e R s m args below meth c A cells slots Qf C hR E H locs ls2 hW (pv_st1 (v := .int x) hn hl2))
theorem PW_lload5 {a0 a1 a2 a3 a4 : Value} {x : Int64} (hd : decode V.2.1 pc = .ok (.lload 5, 2)) (hp : pc + 2 = pc') (k : PW Γ d V pc' (a0 :: a1 :: a2 :: a3 :: a4 :: .long x :: L) (.long x :: st) M Q) : PW Γ d V pc (a0 :: a1 :: a2 :: a3 :: a4 :: .long x :: L) st M Q := by
  subst hp
  intro p e R s m args below meth c A cells slots Qf C hR E H locs ls hW hl
  exact lv_lload C.1 C.2.1 hd (pv_at hl (k := 5) (v := .long x) rfl (by simp)) (k p e R s m args below meth c A cells slots Qf C hR E H locs ls hW hl)
theorem PW_lstore5 {a0 a1 a2 a3 a4 : Value} {o o2 : Value} {x : Int64} (hd : decode V.2.1 pc = .ok (.lstore 5, 2)) (hp : pc + 2 = pc') (hm : Nat.blt 6 V.2.2.1 = true) (hn : pv_nl 5 (a0 :: a1 :: a2 :: a3 :: a4 :: o :: o2 :: L) = true) (k : PW Γ d V pc' (a0 :: a1 :: a2 :: a3 :: a4 :: .long x :: .null :: L) st M Q) : PW Γ d V pc (a0 :: a1 :: a2 :: a3 :: a4 :: o :: o2 :: L) (.long x :: st) M Q := by
  subst hp
  intro p e R s m args below meth c A cells slots Qf C hR E H locs ls hW hl
  exact lv_lstore C.1 C.2.1 hd hl (Nat.le_of_ble_eq_true hm) rfl (fun ls2 hl2 => k p e R s m args below meth c A cells slots Qf C hR E H locs ls2 hW (pv_st2 (v := .long x) hn hl2))
theorem PW_aload5 {a0 a1 a2 a3 a4 : Value} {x : Nat} (hd : decode V.2.1 pc = .ok (.aload 5, 2)) (hp : pc + 2 = pc') (k : PW Γ d V pc' (a0 :: a1 :: a2 :: a3 :: a4 :: .ref x :: L) (.ref x :: st) M Q) : PW Γ d V pc (a0 :: a1 :: a2 :: a3 :: a4 :: .ref x :: L) st M Q := by
  subst hp
  intro p e R s m args below meth c A cells slots Qf C hR E H locs ls hW hl
  exact lv_aload C.1 C.2.1 hd (pv_at hl (k := 5) (v := .ref x) rfl (by simp)) (k p e R s m args below meth c A cells slots Qf C hR E H locs ls hW hl)
theorem PW_astore5 {a0 a1 a2 a3 a4 : Value} {o : Value} {x : Nat} (hd : decode V.2.1 pc = .ok (.astore 5, 2)) (hp : pc + 2 = pc') (hm : Nat.blt 5 V.2.2.1 = true) (hn : pv_nl 5 (a0 :: a1 :: a2 :: a3 :: a4 :: o :: L) = true) (k : PW Γ d V pc' (a0 :: a1 :: a2 :: a3 :: a4 :: .ref x :: L) st M Q) : PW Γ d V pc (a0 :: a1 :: a2 :: a3 :: a4 :: o :: L) (.ref x :: st) M Q := by
  subst hp
  intro p e R s m args below meth c A cells slots Qf C hR E H locs ls hW hl
  exact lv_astore C.1 C.2.1 hd hl (Nat.le_of_ble_eq_true hm) rfl (fun ls2 hl2 => k p e R s m args below meth c A cells slots Qf C hR E H locs ls2 hW (pv_st1 (v := .ref x) hn hl2))
theorem PW_iinc5 {a0 a1 a2 a3 a4 : Value} {n : Int} {x v : Int32} (hd : decode V.2.1 pc = .ok (.iinc 5 n, 3)) (hp : pc + 3 = pc') (hm : Nat.blt 5 V.2.2.1 = true) (hn : pv_nl 5 (a0 :: a1 :: a2 :: a3 :: a4 :: .int x :: L) = true) (hv : x + Int32.ofInt n = v) (k : PW Γ d V pc' (a0 :: a1 :: a2 :: a3 :: a4 :: .int v :: L) st M Q) : PW Γ d V pc (a0 :: a1 :: a2 :: a3 :: a4 :: .int x :: L) st M Q := by
  subst hp
  intro p e R s m args below meth c A cells slots Qf C hR E H locs ls hW hl
  obtain ⟨j, hj⟩ := List.getElem?_of_mem ((pv_lv_mem Γ.2.2.2 (5, .int x) (a0 :: a1 :: a2 :: a3 :: a4 :: .int x :: L) 0).mpr ⟨5, .int x, rfl, by simp, rfl⟩)
  exact lv_iinc C.1 C.2.1 hd hl hj hv (Nat.le_of_ble_eq_true hm) rfl (fun ls2 hl2 => k p e R s m args below meth c A cells slots Qf C hR E H locs ls2 hW (pv_st1 (v := .int v) hn hl2))
theorem PW_iload6 {a0 a1 a2 a3 a4 a5 : Value} {x : Int32} (hd : decode V.2.1 pc = .ok (.iload 6, 2)) (hp : pc + 2 = pc') (k : PW Γ d V pc' (a0 :: a1 :: a2 :: a3 :: a4 :: a5 :: .int x :: L) (.int x :: st) M Q) : PW Γ d V pc (a0 :: a1 :: a2 :: a3 :: a4 :: a5 :: .int x :: L) st M Q := by
  subst hp
  intro p e R s m args below meth c A cells slots Qf C hR E H locs ls hW hl
  exact lv_iload C.1 C.2.1 hd (pv_at hl (k := 6) (v := .int x) rfl (by simp)) (k p e R s m args below meth c A cells slots Qf C hR E H locs ls hW hl)
theorem PW_istore6 {a0 a1 a2 a3 a4 a5 : Value} {o : Value} {x : Int32} (hd : decode V.2.1 pc = .ok (.istore 6, 2)) (hp : pc + 2 = pc') (hm : Nat.blt 6 V.2.2.1 = true) (hn : pv_nl 6 (a0 :: a1 :: a2 :: a3 :: a4 :: a5 :: o :: L) = true) (k : PW Γ d V pc' (a0 :: a1 :: a2 :: a3 :: a4 :: a5 :: .int x :: L) st M Q) : PW Γ d V pc (a0 :: a1 :: a2 :: a3 :: a4 :: a5 :: o :: L) (.int x :: st) M Q := by
  subst hp
  intro p e R s m args below meth c A cells slots Qf C hR E H locs ls hW hl
  exact lv_istore C.1 C.2.1 hd hl (Nat.le_of_ble_eq_true hm) rfl (fun ls2 hl2 => k p e R s m args below meth c A cells slots Qf C hR E H locs ls2 hW (pv_st1 (v := .int x) hn hl2))
theorem PW_lload6 {a0 a1 a2 a3 a4 a5 : Value} {x : Int64} (hd : decode V.2.1 pc = .ok (.lload 6, 2)) (hp : pc + 2 = pc') (k : PW Γ d V pc' (a0 :: a1 :: a2 :: a3 :: a4 :: a5 :: .long x :: L) (.long x :: st) M Q) : PW Γ d V pc (a0 :: a1 :: a2 :: a3 :: a4 :: a5 :: .long x :: L) st M Q := by
  subst hp
  intro p e R s m args below meth c A cells slots Qf C hR E H locs ls hW hl
  exact lv_lload C.1 C.2.1 hd (pv_at hl (k := 6) (v := .long x) rfl (by simp)) (k p e R s m args below meth c A cells slots Qf C hR E H locs ls hW hl)
theorem PW_lstore6 {a0 a1 a2 a3 a4 a5 : Value} {o o2 : Value} {x : Int64} (hd : decode V.2.1 pc = .ok (.lstore 6, 2)) (hp : pc + 2 = pc') (hm : Nat.blt 7 V.2.2.1 = true) (hn : pv_nl 6 (a0 :: a1 :: a2 :: a3 :: a4 :: a5 :: o :: o2 :: L) = true) (k : PW Γ d V pc' (a0 :: a1 :: a2 :: a3 :: a4 :: a5 :: .long x :: .null :: L) st M Q) : PW Γ d V pc (a0 :: a1 :: a2 :: a3 :: a4 :: a5 :: o :: o2 :: L) (.long x :: st) M Q := by
  subst hp
  intro p e R s m args below meth c A cells slots Qf C hR E H locs ls hW hl
  exact lv_lstore C.1 C.2.1 hd hl (Nat.le_of_ble_eq_true hm) rfl (fun ls2 hl2 => k p e R s m args below meth c A cells slots Qf C hR E H locs ls2 hW (pv_st2 (v := .long x) hn hl2))
theorem PW_aload6 {a0 a1 a2 a3 a4 a5 : Value} {x : Nat} (hd : decode V.2.1 pc = .ok (.aload 6, 2)) (hp : pc + 2 = pc') (k : PW Γ d V pc' (a0 :: a1 :: a2 :: a3 :: a4 :: a5 :: .ref x :: L) (.ref x :: st) M Q) : PW Γ d V pc (a0 :: a1 :: a2 :: a3 :: a4 :: a5 :: .ref x :: L) st M Q := by
  subst hp
  intro p e R s m args below meth c A cells slots Qf C hR E H locs ls hW hl
  exact lv_aload C.1 C.2.1 hd (pv_at hl (k := 6) (v := .ref x) rfl (by simp)) (k p e R s m args below meth c A cells slots Qf C hR E H locs ls hW hl)
theorem PW_astore6 {a0 a1 a2 a3 a4 a5 : Value} {o : Value} {x : Nat} (hd : decode V.2.1 pc = .ok (.astore 6, 2)) (hp : pc + 2 = pc') (hm : Nat.blt 6 V.2.2.1 = true) (hn : pv_nl 6 (a0 :: a1 :: a2 :: a3 :: a4 :: a5 :: o :: L) = true) (k : PW Γ d V pc' (a0 :: a1 :: a2 :: a3 :: a4 :: a5 :: .ref x :: L) st M Q) : PW Γ d V pc (a0 :: a1 :: a2 :: a3 :: a4 :: a5 :: o :: L) (.ref x :: st) M Q := by
  subst hp
  intro p e R s m args below meth c A cells slots Qf C hR E H locs ls hW hl
  exact lv_astore C.1 C.2.1 hd hl (Nat.le_of_ble_eq_true hm) rfl (fun ls2 hl2 => k p e R s m args below meth c A cells slots Qf C hR E H locs ls2 hW (pv_st1 (v := .ref x) hn hl2))
theorem PW_iinc6 {a0 a1 a2 a3 a4 a5 : Value} {n : Int} {x v : Int32} (hd : decode V.2.1 pc = .ok (.iinc 6 n, 3)) (hp : pc + 3 = pc') (hm : Nat.blt 6 V.2.2.1 = true) (hn : pv_nl 6 (a0 :: a1 :: a2 :: a3 :: a4 :: a5 :: .int x :: L) = true) (hv : x + Int32.ofInt n = v) (k : PW Γ d V pc' (a0 :: a1 :: a2 :: a3 :: a4 :: a5 :: .int v :: L) st M Q) : PW Γ d V pc (a0 :: a1 :: a2 :: a3 :: a4 :: a5 :: .int x :: L) st M Q := by
  subst hp
  intro p e R s m args below meth c A cells slots Qf C hR E H locs ls hW hl
  obtain ⟨j, hj⟩ := List.getElem?_of_mem ((pv_lv_mem Γ.2.2.2 (6, .int x) (a0 :: a1 :: a2 :: a3 :: a4 :: a5 :: .int x :: L) 0).mpr ⟨6, .int x, rfl, by simp, rfl⟩)
  exact lv_iinc C.1 C.2.1 hd hl hj hv (Nat.le_of_ble_eq_true hm) rfl (fun ls2 hl2 => k p e R s m args below meth c A cells slots Qf C hR E H locs ls2 hW (pv_st1 (v := .int v) hn hl2))
theorem PW_iload7 {a0 a1 a2 a3 a4 a5 a6 : Value} {x : Int32} (hd : decode V.2.1 pc = .ok (.iload 7, 2)) (hp : pc + 2 = pc') (k : PW Γ d V pc' (a0 :: a1 :: a2 :: a3 :: a4 :: a5 :: a6 :: .int x :: L) (.int x :: st) M Q) : PW Γ d V pc (a0 :: a1 :: a2 :: a3 :: a4 :: a5 :: a6 :: .int x :: L) st M Q := by
  subst hp
  intro p e R s m args below meth c A cells slots Qf C hR E H locs ls hW hl
  exact lv_iload C.1 C.2.1 hd (pv_at hl (k := 7) (v := .int x) rfl (by simp)) (k p e R s m args below meth c A cells slots Qf C hR E H locs ls hW hl)
theorem PW_istore7 {a0 a1 a2 a3 a4 a5 a6 : Value} {o : Value} {x : Int32} (hd : decode V.2.1 pc = .ok (.istore 7, 2)) (hp : pc + 2 = pc') (hm : Nat.blt 7 V.2.2.1 = true) (hn : pv_nl 7 (a0 :: a1 :: a2 :: a3 :: a4 :: a5 :: a6 :: o :: L) = true) (k : PW Γ d V pc' (a0 :: a1 :: a2 :: a3 :: a4 :: a5 :: a6 :: .int x :: L) st M Q) : PW Γ d V pc (a0 :: a1 :: a2 :: a3 :: a4 :: a5 :: a6 :: o :: L) (.int x :: st) M Q := by
  subst hp
  intro p e R s m args below meth c A cells slots Qf C hR E H locs ls hW hl
  exact lv_istore C.1 C.2.1 hd hl (Nat.le_of_ble_eq_true hm) rfl (fun ls2 hl2 => k p e R s m args below meth c A cells slots Qf C hR E H locs ls2 hW (pv_st1 (v := .int x) hn hl2))
theorem PW_lload7 {a0 a1 a2 a3 a4 a5 a6 : Value} {x : Int64} (hd : decode V.2.1 pc = .ok (.lload 7, 2)) (hp : pc + 2 = pc') (k : PW Γ d V pc' (a0 :: a1 :: a2 :: a3 :: a4 :: a5 :: a6 :: .long x :: L) (.long x :: st) M Q) : PW Γ d V pc (a0 :: a1 :: a2 :: a3 :: a4 :: a5 :: a6 :: .long x :: L) st M Q := by
  subst hp
  intro p e R s m args below meth c A cells slots Qf C hR E H locs ls hW hl
  exact lv_lload C.1 C.2.1 hd (pv_at hl (k := 7) (v := .long x) rfl (by simp)) (k p e R s m args below meth c A cells slots Qf C hR E H locs ls hW hl)
theorem PW_lstore7 {a0 a1 a2 a3 a4 a5 a6 : Value} {o o2 : Value} {x : Int64} (hd : decode V.2.1 pc = .ok (.lstore 7, 2)) (hp : pc + 2 = pc') (hm : Nat.blt 8 V.2.2.1 = true) (hn : pv_nl 7 (a0 :: a1 :: a2 :: a3 :: a4 :: a5 :: a6 :: o :: o2 :: L) = true) (k : PW Γ d V pc' (a0 :: a1 :: a2 :: a3 :: a4 :: a5 :: a6 :: .long x :: .null :: L) st M Q) : PW Γ d V pc (a0 :: a1 :: a2 :: a3 :: a4 :: a5 :: a6 :: o :: o2 :: L) (.long x :: st) M Q := by
  subst hp
  intro p e R s m args below meth c A cells slots Qf C hR E H locs ls hW hl
  exact lv_lstore C.1 C.2.1 hd hl (Nat.le_of_ble_eq_true hm) rfl (fun ls2 hl2 => k p e R s m args below meth c A cells slots Qf C hR E H locs ls2 hW (pv_st2 (v := .long x) hn hl2))
theorem PW_aload7 {a0 a1 a2 a3 a4 a5 a6 : Value} {x : Nat} (hd : decode V.2.1 pc = .ok (.aload 7, 2)) (hp : pc + 2 = pc') (k : PW Γ d V pc' (a0 :: a1 :: a2 :: a3 :: a4 :: a5 :: a6 :: .ref x :: L) (.ref x :: st) M Q) : PW Γ d V pc (a0 :: a1 :: a2 :: a3 :: a4 :: a5 :: a6 :: .ref x :: L) st M Q := by
  subst hp
  intro p e R s m args below meth c A cells slots Qf C hR E H locs ls hW hl
  exact lv_aload C.1 C.2.1 hd (pv_at hl (k := 7) (v := .ref x) rfl (by simp)) (k p e R s m args below meth c A cells slots Qf C hR E H locs ls hW hl)
theorem PW_astore7 {a0 a1 a2 a3 a4 a5 a6 : Value} {o : Value} {x : Nat} (hd : decode V.2.1 pc = .ok (.astore 7, 2)) (hp : pc + 2 = pc') (hm : Nat.blt 7 V.2.2.1 = true) (hn : pv_nl 7 (a0 :: a1 :: a2 :: a3 :: a4 :: a5 :: a6 :: o :: L) = true) (k : PW Γ d V pc' (a0 :: a1 :: a2 :: a3 :: a4 :: a5 :: a6 :: .ref x :: L) st M Q) : PW Γ d V pc (a0 :: a1 :: a2 :: a3 :: a4 :: a5 :: a6 :: o :: L) (.ref x :: st) M Q := by
  subst hp
  intro p e R s m args below meth c A cells slots Qf C hR E H locs ls hW hl
  exact lv_astore C.1 C.2.1 hd hl (Nat.le_of_ble_eq_true hm) rfl (fun ls2 hl2 => k p e R s m args below meth c A cells slots Qf C hR E H locs ls2 hW (pv_st1 (v := .ref x) hn hl2))
theorem PW_iinc7 {a0 a1 a2 a3 a4 a5 a6 : Value} {n : Int} {x v : Int32} (hd : decode V.2.1 pc = .ok (.iinc 7 n, 3)) (hp : pc + 3 = pc') (hm : Nat.blt 7 V.2.2.1 = true) (hn : pv_nl 7 (a0 :: a1 :: a2 :: a3 :: a4 :: a5 :: a6 :: .int x :: L) = true) (hv : x + Int32.ofInt n = v) (k : PW Γ d V pc' (a0 :: a1 :: a2 :: a3 :: a4 :: a5 :: a6 :: .int v :: L) st M Q) : PW Γ d V pc (a0 :: a1 :: a2 :: a3 :: a4 :: a5 :: a6 :: .int x :: L) st M Q := by
  subst hp
  intro p e R s m args below meth c A cells slots Qf C hR E H locs ls hW hl
  obtain ⟨j, hj⟩ := List.getElem?_of_mem ((pv_lv_mem Γ.2.2.2 (7, .int x) (a0 :: a1 :: a2 :: a3 :: a4 :: a5 :: a6 :: .int x :: L) 0).mpr ⟨7, .int x, rfl, by simp, rfl⟩)
  exact lv_iinc C.1 C.2.1 hd hl hj hv (Nat.le_of_ble_eq_true hm) rfl (fun ls2 hl2 => k p e R s m args below meth c A cells slots Qf C hR E H locs ls2 hW (pv_st1 (v := .int v) hn hl2))
theorem PW_iload8 {a0 a1 a2 a3 a4 a5 a6 a7 : Value} {x : Int32} (hd : decode V.2.1 pc = .ok (.iload 8, 2)) (hp : pc + 2 = pc') (k : PW Γ d V pc' (a0 :: a1 :: a2 :: a3 :: a4 :: a5 :: a6 :: a7 :: .int x :: L) (.int x :: st) M Q) : PW Γ d V pc (a0 :: a1 :: a2 :: a3 :: a4 :: a5 :: a6 :: a7 :: .int x :: L) st M Q := by
  subst hp
  intro p e R s m args below meth c A cells slots Qf C hR E H locs ls hW hl
  exact lv_iload C.1 C.2.1 hd (pv_at hl (k := 8) (v := .int x) rfl (by simp)) (k p e R s m args below meth c A cells slots Qf C hR E H locs ls hW hl)
theorem PW_istore8 {a0 a1 a2 a3 a4 a5 a6 a7 : Value} {o : Value} {x : Int32} (hd : decode V.2.1 pc = .ok (.istore 8, 2)) (hp : pc + 2 = pc') (hm : Nat.blt 8 V.2.2.1 = true) (hn : pv_nl 8 (a0 :: a1 :: a2 :: a3 :: a4 :: a5 :: a6 :: a7 :: o :: L) = true) (k : PW Γ d V pc' (a0 :: a1 :: a2 :: a3 :: a4 :: a5 :: a6 :: a7 :: .int x :: L) st M Q) : PW Γ d V pc (a0 :: a1 :: a2 :: a3 :: a4 :: a5 :: a6 :: a7 :: o :: L) (.int x :: st) M Q := by
  subst hp
  intro p e R s m args below meth c A cells slots Qf C hR E H locs ls hW hl
  exact lv_istore C.1 C.2.1 hd hl (Nat.le_of_ble_eq_true hm) rfl (fun ls2 hl2 => k p e R s m args below meth c A cells slots Qf C hR E H locs ls2 hW (pv_st1 (v := .int x) hn hl2))
theorem PW_lload8 {a0 a1 a2 a3 a4 a5 a6 a7 : Value} {x : Int64} (hd : decode V.2.1 pc = .ok (.lload 8, 2)) (hp : pc + 2 = pc') (k : PW Γ d V pc' (a0 :: a1 :: a2 :: a3 :: a4 :: a5 :: a6 :: a7 :: .long x :: L) (.long x :: st) M Q) : PW Γ d V pc (a0 :: a1 :: a2 :: a3 :: a4 :: a5 :: a6 :: a7 :: .long x :: L) st M Q := by
  subst hp
  intro p e R s m args below meth c A cells slots Qf C hR E H locs ls hW hl
  exact lv_lload C.1 C.2.1 hd (pv_at hl (k := 8) (v := .long x) rfl (by simp)) (k p e R s m args below meth c A cells slots Qf C hR E H locs ls hW hl)
theorem PW_lstore8 {a0 a1 a2 a3 a4 a5 a6 a7 : Value} {o o2 : Value} {x : Int64} (hd : decode V.2.1 pc = .ok (.lstore 8, 2)) (hp : pc + 2 = pc') (hm : Nat.blt 9 V.2.2.1 = true) (hn : pv_nl 8 (a0 :: a1 :: a2 :: a3 :: a4 :: a5 :: a6 :: a7 :: o :: o2 :: L) = true) (k : PW Γ d V pc' (a0 :: a1 :: a2 :: a3 :: a4 :: a5 :: a6 :: a7 :: .long x :: .null :: L) st M Q) : PW Γ d V pc (a0 :: a1 :: a2 :: a3 :: a4 :: a5 :: a6 :: a7 :: o :: o2 :: L) (.long x :: st) M Q := by
  subst hp
  intro p e R s m args below meth c A cells slots Qf C hR E H locs ls hW hl
  exact lv_lstore C.1 C.2.1 hd hl (Nat.le_of_ble_eq_true hm) rfl (fun ls2 hl2 => k p e R s m args below meth c A cells slots Qf C hR E H locs ls2 hW (pv_st2 (v := .long x) hn hl2))
theorem PW_aload8 {a0 a1 a2 a3 a4 a5 a6 a7 : Value} {x : Nat} (hd : decode V.2.1 pc = .ok (.aload 8, 2)) (hp : pc + 2 = pc') (k : PW Γ d V pc' (a0 :: a1 :: a2 :: a3 :: a4 :: a5 :: a6 :: a7 :: .ref x :: L) (.ref x :: st) M Q) : PW Γ d V pc (a0 :: a1 :: a2 :: a3 :: a4 :: a5 :: a6 :: a7 :: .ref x :: L) st M Q := by
  subst hp
  intro p e R s m args below meth c A cells slots Qf C hR E H locs ls hW hl
  exact lv_aload C.1 C.2.1 hd (pv_at hl (k := 8) (v := .ref x) rfl (by simp)) (k p e R s m args below meth c A cells slots Qf C hR E H locs ls hW hl)
theorem PW_astore8 {a0 a1 a2 a3 a4 a5 a6 a7 : Value} {o : Value} {x : Nat} (hd : decode V.2.1 pc = .ok (.astore 8, 2)) (hp : pc + 2 = pc') (hm : Nat.blt 8 V.2.2.1 = true) (hn : pv_nl 8 (a0 :: a1 :: a2 :: a3 :: a4 :: a5 :: a6 :: a7 :: o :: L) = true) (k : PW Γ d V pc' (a0 :: a1 :: a2 :: a3 :: a4 :: a5 :: a6 :: a7 :: .ref x :: L) st M Q) : PW Γ d V pc (a0 :: a1 :: a2 :: a3 :: a4 :: a5 :: a6 :: a7 :: o :: L) (.ref x :: st) M Q := by
  subst hp
  intro p e R s m args below meth c A cells slots Qf C hR E H locs ls hW hl
  exact lv_astore C.1 C.2.1 hd hl (Nat.le_of_ble_eq_true hm) rfl (fun ls2 hl2 => k p e R s m args below meth c A cells slots Qf C hR E H locs ls2 hW (pv_st1 (v := .ref x) hn hl2))
theorem PW_iinc8 {a0 a1 a2 a3 a4 a5 a6 a7 : Value} {n : Int} {x v : Int32} (hd : decode V.2.1 pc = .ok (.iinc 8 n, 3)) (hp : pc + 3 = pc') (hm : Nat.blt 8 V.2.2.1 = true) (hn : pv_nl 8 (a0 :: a1 :: a2 :: a3 :: a4 :: a5 :: a6 :: a7 :: .int x :: L) = true) (hv : x + Int32.ofInt n = v) (k : PW Γ d V pc' (a0 :: a1 :: a2 :: a3 :: a4 :: a5 :: a6 :: a7 :: .int v :: L) st M Q) : PW Γ d V pc (a0 :: a1 :: a2 :: a3 :: a4 :: a5 :: a6 :: a7 :: .int x :: L) st M Q := by
  subst hp
  intro p e R s m args below meth c A cells slots Qf C hR E H locs ls hW hl
  obtain ⟨j, hj⟩ := List.getElem?_of_mem ((pv_lv_mem Γ.2.2.2 (8, .int x) (a0 :: a1 :: a2 :: a3 :: a4 :: a5 :: a6 :: a7 :: .int x :: L) 0).mpr ⟨8, .int x, rfl, by simp, rfl⟩)
  exact lv_iinc C.1 C.2.1 hd hl hj hv (Nat.le_of_ble_eq_true hm) rfl (fun ls2 hl2 => k p e R s m args below meth c A cells slots Qf C hR E H locs ls2 hW (pv_st1 (v := .int v) hn hl2))
theorem PW_iload9 {a0 a1 a2 a3 a4 a5 a6 a7 a8 : Value} {x : Int32} (hd : decode V.2.1 pc = .ok (.iload 9, 2)) (hp : pc + 2 = pc') (k : PW Γ d V pc' (a0 :: a1 :: a2 :: a3 :: a4 :: a5 :: a6 :: a7 :: a8 :: .int x :: L) (.int x :: st) M Q) : PW Γ d V pc (a0 :: a1 :: a2 :: a3 :: a4 :: a5 :: a6 :: a7 :: a8 :: .int x :: L) st M Q := by
  subst hp
  intro p e R s m args below meth c A cells slots Qf C hR E H locs ls hW hl
  exact lv_iload C.1 C.2.1 hd (pv_at hl (k := 9) (v := .int x) rfl (by simp)) (k p e R s m args below meth c A cells slots Qf C hR E H locs ls hW hl)
theorem PW_istore9 {a0 a1 a2 a3 a4 a5 a6 a7 a8 : Value} {o : Value} {x : Int32} (hd : decode V.2.1 pc = .ok (.istore 9, 2)) (hp : pc + 2 = pc') (hm : Nat.blt 9 V.2.2.1 = true) (hn : pv_nl 9 (a0 :: a1 :: a2 :: a3 :: a4 :: a5 :: a6 :: a7 :: a8 :: o :: L) = true) (k : PW Γ d V pc' (a0 :: a1 :: a2 :: a3 :: a4 :: a5 :: a6 :: a7 :: a8 :: .int x :: L) st M Q) : PW Γ d V pc (a0 :: a1 :: a2 :: a3 :: a4 :: a5 :: a6 :: a7 :: a8 :: o :: L) (.int x :: st) M Q := by
  subst hp
  intro p e R s m args below meth c A cells slots Qf C hR E H locs ls hW hl
  exact lv_istore C.1 C.2.1 hd hl (Nat.le_of_ble_eq_true hm) rfl (fun ls2 hl2 => k p e R s m args below meth c A cells slots Qf C hR E H locs ls2 hW (pv_st1 (v := .int x) hn hl2))
theorem PW_lload9 {a0 a1 a2 a3 a4 a5 a6 a7 a8 : Value} {x : Int64} (hd : decode V.2.1 pc = .ok (.lload 9, 2)) (hp : pc + 2 = pc') (k : PW Γ d V pc' (a0 :: a1 :: a2 :: a3 :: a4 :: a5 :: a6 :: a7 :: a8 :: .long x :: L) (.long x :: st) M Q) : PW Γ d V pc (a0 :: a1 :: a2 :: a3 :: a4 :: a5 :: a6 :: a7 :: a8 :: .long x :: L) st M Q := by
  subst hp
  intro p e R s m args below meth c A cells slots Qf C hR E H locs ls hW hl
  exact lv_lload C.1 C.2.1 hd (pv_at hl (k := 9) (v := .long x) rfl (by simp)) (k p e R s m args below meth c A cells slots Qf C hR E H locs ls hW hl)
theorem PW_lstore9 {a0 a1 a2 a3 a4 a5 a6 a7 a8 : Value} {o o2 : Value} {x : Int64} (hd : decode V.2.1 pc = .ok (.lstore 9, 2)) (hp : pc + 2 = pc') (hm : Nat.blt 10 V.2.2.1 = true) (hn : pv_nl 9 (a0 :: a1 :: a2 :: a3 :: a4 :: a5 :: a6 :: a7 :: a8 :: o :: o2 :: L) = true) (k : PW Γ d V pc' (a0 :: a1 :: a2 :: a3 :: a4 :: a5 :: a6 :: a7 :: a8 :: .long x :: .null :: L) st M Q) : PW Γ d V pc (a0 :: a1 :: a2 :: a3 :: a4 :: a5 :: a6 :: a7 :: a8 :: o :: o2 :: L) (.long x :: st) M Q := by
  subst hp
  intro p e R s m args below meth c A cells slots Qf C hR E H locs ls hW hl
  exact lv_lstore C.1 C.2.1 hd hl (Nat.le_of_ble_eq_true hm) rfl (fun ls2 hl2 => k p e R s m args below meth c A cells slots Qf C hR E H locs ls2 hW (pv_st2 (v := .long x) hn hl2))
theorem PW_aload9 {a0 a1 a2 a3 a4 a5 a6 a7 a8 : Value} {x : Nat} (hd : decode V.2.1 pc = .ok (.aload 9, 2)) (hp : pc + 2 = pc') (k : PW Γ d V pc' (a0 :: a1 :: a2 :: a3 :: a4 :: a5 :: a6 :: a7 :: a8 :: .ref x :: L) (.ref x :: st) M Q) : PW Γ d V pc (a0 :: a1 :: a2 :: a3 :: a4 :: a5 :: a6 :: a7 :: a8 :: .ref x :: L) st M Q := by
  subst hp
  intro p e R s m args below meth c A cells slots Qf C hR E H locs ls hW hl
  exact lv_aload C.1 C.2.1 hd (pv_at hl (k := 9) (v := .ref x) rfl (by simp)) (k p e R s m args below meth c A cells slots Qf C hR E H locs ls hW hl)
theorem PW_astore9 {a0 a1 a2 a3 a4 a5 a6 a7 a8 : Value} {o : Value} {x : Nat} (hd : decode V.2.1 pc = .ok (.astore 9, 2)) (hp : pc + 2 = pc') (hm : Nat.blt 9 V.2.2.1 = true) (hn : pv_nl 9 (a0 :: a1 :: a2 :: a3 :: a4 :: a5 :: a6 :: a7 :: a8 :: o :: L) = true) (k : PW Γ d V pc' (a0 :: a1 :: a2 :: a3 :: a4 :: a5 :: a6 :: a7 :: a8 :: .ref x :: L) st M Q) : PW Γ d V pc (a0 :: a1 :: a2 :: a3 :: a4 :: a5 :: a6 :: a7 :: a8 :: o :: L) (.ref x :: st) M Q := by
  subst hp
  intro p e R s m args below meth c A cells slots Qf C hR E H locs ls hW hl
  exact lv_astore C.1 C.2.1 hd hl (Nat.le_of_ble_eq_true hm) rfl (fun ls2 hl2 => k p e R s m args below meth c A cells slots Qf C hR E H locs ls2 hW (pv_st1 (v := .ref x) hn hl2))
theorem PW_iinc9 {a0 a1 a2 a3 a4 a5 a6 a7 a8 : Value} {n : Int} {x v : Int32} (hd : decode V.2.1 pc = .ok (.iinc 9 n, 3)) (hp : pc + 3 = pc') (hm : Nat.blt 9 V.2.2.1 = true) (hn : pv_nl 9 (a0 :: a1 :: a2 :: a3 :: a4 :: a5 :: a6 :: a7 :: a8 :: .int x :: L) = true) (hv : x + Int32.ofInt n = v) (k : PW Γ d V pc' (a0 :: a1 :: a2 :: a3 :: a4 :: a5 :: a6 :: a7 :: a8 :: .int v :: L) st M Q) : PW Γ d V pc (a0 :: a1 :: a2 :: a3 :: a4 :: a5 :: a6 :: a7 :: a8 :: .int x :: L) st M Q := by
  subst hp
  intro p e R s m args below meth c A cells slots Qf C hR E H locs ls hW hl
  obtain ⟨j, hj⟩ := List.getElem?_of_mem ((pv_lv_mem Γ.2.2.2 (9, .int x) (a0 :: a1 :: a2 :: a3 :: a4 :: a5 :: a6 :: a7 :: a8 :: .int x :: L) 0).mpr ⟨9, .int x, rfl, by simp, rfl⟩)
  exact lv_iinc C.1 C.2.1 hd hl hj hv (Nat.le_of_ble_eq_true hm) rfl (fun ls2 hl2 => k p e R s m args below meth c A cells slots Qf C hR E H locs ls2 hW (pv_st1 (v := .int v) hn hl2))
theorem PW_iload10 {a0 a1 a2 a3 a4 a5 a6 a7 a8 a9 : Value} {x : Int32} (hd : decode V.2.1 pc = .ok (.iload 10, 2)) (hp : pc + 2 = pc') (k : PW Γ d V pc' (a0 :: a1 :: a2 :: a3 :: a4 :: a5 :: a6 :: a7 :: a8 :: a9 :: .int x :: L) (.int x :: st) M Q) : PW Γ d V pc (a0 :: a1 :: a2 :: a3 :: a4 :: a5 :: a6 :: a7 :: a8 :: a9 :: .int x :: L) st M Q := by
  subst hp
  intro p e R s m args below meth c A cells slots Qf C hR E H locs ls hW hl
  exact lv_iload C.1 C.2.1 hd (pv_at hl (k := 10) (v := .int x) rfl (by simp)) (k p e R s m args below meth c A cells slots Qf C hR E H locs ls hW hl)
theorem PW_istore10 {a0 a1 a2 a3 a4 a5 a6 a7 a8 a9 : Value} {o : Value} {x : Int32} (hd : decode V.2.1 pc = .ok (.istore 10, 2)) (hp : pc + 2 = pc') (hm : Nat.blt 10 V.2.2.1 = true) (hn : pv_nl 10 (a0 :: a1 :: a2 :: a3 :: a4 :: a5 :: a6 :: a7 :: a8 :: a9 :: o :: L) = true) (k : PW Γ d V pc' (a0 :: a1 :: a2 :: a3 :: a4 :: a5 :: a6 :: a7 :: a8 :: a9 :: .int x :: L) st M Q) : PW Γ d V pc (a0 :: a1 :: a2 :: a3 :: a4 :: a5 :: a6 :: a7 :: a8 :: a9 :: o :: L) (.int x :: st) M Q := by
  subst hp
  intro p e R s m args below meth c A cells slots Qf C hR E H locs ls hW hl
  exact lv_istore C.1 C.2.1 hd hl (Nat.le_of_ble_eq_true hm) rfl (fun ls2 hl2 => k p e R s m args below meth c A cells slots Qf C hR E H locs ls2 hW (pv_st1 (v := .int x) hn hl2))
theorem PW_lload10 {a0 a1 a2 a3 a4 a5 a6 a7 a8 a9 : Value} {x : Int64} (hd : decode V.2.1 pc = .ok (.lload 10, 2)) (hp : pc + 2 = pc') (k : PW Γ d V pc' (a0 :: a1 :: a2 :: a3 :: a4 :: a5 :: a6 :: a7 :: a8 :: a9 :: .long x :: L) (.long x :: st) M Q) : PW Γ d V pc (a0 :: a1 :: a2 :: a3 :: a4 :: a5 :: a6 :: a7 :: a8 :: a9 :: .long x :: L) st M Q := by
  subst hp
  intro p e R s m args below meth c A cells slots Qf C hR E H locs ls hW hl
  exact lv_lload C.1 C.2.1 hd (pv_at hl (k := 10) (v := .long x) rfl (by simp)) (k p e R s m args below meth c A cells slots Qf C hR E H locs ls hW hl)
theorem PW_lstore10 {a0 a1 a2 a3 a4 a5 a6 a7 a8 a9 : Value} {o o2 : Value} {x : Int64} (hd : decode V.2.1 pc = .ok (.lstore 10, 2)) (hp : pc + 2 = pc') (hm : Nat.blt 11 V.2.2.1 = true) (hn : pv_nl 10 (a0 :: a1 :: a2 :: a3 :: a4 :: a5 :: a6 :: a7 :: a8 :: a9 :: o :: o2 :: L) = true) (k : PW Γ d V pc' (a0 :: a1 :: a2 :: a3 :: a4 :: a5 :: a6 :: a7 :: a8 :: a9 :: .long x :: .null :: L) st M Q) : PW Γ d V pc (a0 :: a1 :: a2 :: a3 :: a4 :: a5 :: a6 :: a7 :: a8 :: a9 :: o :: o2 :: L) (.long x :: st) M Q := by
  subst hp
  intro p e R s m args below meth c A cells slots Qf C hR E H locs ls hW hl
  exact lv_lstore C.1 C.2.1 hd hl (Nat.le_of_ble_eq_true hm) rfl (fun ls2 hl2 => k p e R s m args below meth c A cells slots Qf C hR E H locs ls2 hW (pv_st2 (v := .long x) hn hl2))
theorem PW_aload10 {a0 a1 a2 a3 a4 a5 a6 a7 a8 a9 : Value} {x : Nat} (hd : decode V.2.1 pc = .ok (.aload 10, 2)) (hp : pc + 2 = pc') (k : PW Γ d V pc' (a0 :: a1 :: a2 :: a3 :: a4 :: a5 :: a6 :: a7 :: a8 :: a9 :: .ref x :: L) (.ref x :: st) M Q) : PW Γ d V pc (a0 :: a1 :: a2 :: a3 :: a4 :: a5 :: a6 :: a7 :: a8 :: a9 :: .ref x :: L) st M Q := by
  subst hp
  intro p e R s m args below meth c A cells slots Qf C hR E H locs ls hW hl
  exact lv_aload C.1 C.2.1 hd (pv_at hl (k := 10) (v := .ref x) rfl (by simp)) (k p e R s m args below meth c A cells slots Qf C hR E H locs ls hW hl)
theorem PW_astore10 {a0 a1 a2 a3 a4 a5 a6 a7 a8 a9 : Value} {o : Value} {x : Nat} (hd : decode V.2.1 pc = .ok (.astore 10, 2)) (hp : pc + 2 = pc') (hm : Nat.blt 10 V.2.2.1 = true) (hn : pv_nl 10 (a0 :: a1 :: a2 :: a3 :: a4 :: a5 :: a6 :: a7 :: a8 :: a9 :: o :: L) = true) (k : PW Γ d V pc' (a0 :: a1 :: a2 :: a3 :: a4 :: a5 :: a6 :: a7 :: a8 :: a9 :: .ref x :: L) st M Q) : PW Γ d V pc (a0 :: a1 :: a2 :: a3 :: a4 :: a5 :: a6 :: a7 :: a8 :: a9 :: o :: L) (.ref x :: st) M Q := by
  subst hp
  intro p e R s m args below meth c A cells slots Qf C hR E H locs ls hW hl
  exact lv_astore C.1 C.2.1 hd hl (Nat.le_of_ble_eq_true hm) rfl (fun ls2 hl2 => k p e R s m args below meth c A cells slots Qf C hR E H locs ls2 hW (pv_st1 (v := .ref x) hn hl2))
theorem PW_iinc10 {a0 a1 a2 a3 a4 a5 a6 a7 a8 a9 : Value} {n : Int} {x v : Int32} (hd : decode V.2.1 pc = .ok (.iinc 10 n, 3)) (hp : pc + 3 = pc') (hm : Nat.blt 10 V.2.2.1 = true) (hn : pv_nl 10 (a0 :: a1 :: a2 :: a3 :: a4 :: a5 :: a6 :: a7 :: a8 :: a9 :: .int x :: L) = true) (hv : x + Int32.ofInt n = v) (k : PW Γ d V pc' (a0 :: a1 :: a2 :: a3 :: a4 :: a5 :: a6 :: a7 :: a8 :: a9 :: .int v :: L) st M Q) : PW Γ d V pc (a0 :: a1 :: a2 :: a3 :: a4 :: a5 :: a6 :: a7 :: a8 :: a9 :: .int x :: L) st M Q := by
  subst hp
  intro p e R s m args below meth c A cells slots Qf C hR E H locs ls hW hl
  obtain ⟨j, hj⟩ := List.getElem?_of_mem ((pv_lv_mem Γ.2.2.2 (10, .int x) (a0 :: a1 :: a2 :: a3 :: a4 :: a5 :: a6 :: a7 :: a8 :: a9 :: .int x :: L) 0).mpr ⟨10, .int x, rfl, by simp, rfl⟩)
  exact lv_iinc C.1 C.2.1 hd hl hj hv (Nat.le_of_ble_eq_true hm) rfl (fun ls2 hl2 => k p e R s m args below meth c A cells slots Qf C hR E H locs ls2 hW (pv_st1 (v := .int v) hn hl2))
theorem PW_iload11 {a0 a1 a2 a3 a4 a5 a6 a7 a8 a9 a10 : Value} {x : Int32} (hd : decode V.2.1 pc = .ok (.iload 11, 2)) (hp : pc + 2 = pc') (k : PW Γ d V pc' (a0 :: a1 :: a2 :: a3 :: a4 :: a5 :: a6 :: a7 :: a8 :: a9 :: a10 :: .int x :: L) (.int x :: st) M Q) : PW Γ d V pc (a0 :: a1 :: a2 :: a3 :: a4 :: a5 :: a6 :: a7 :: a8 :: a9 :: a10 :: .int x :: L) st M Q := by
  subst hp
  intro p e R s m args below meth c A cells slots Qf C hR E H locs ls hW hl
  exact lv_iload C.1 C.2.1 hd (pv_at hl (k := 11) (v := .int x) rfl (by simp)) (k p e R s m args below meth c A cells slots Qf C hR E H locs ls hW hl)
theorem PW_istore11 {a0 a1 a2 a3 a4 a5 a6 a7 a8 a9 a10 : Value} {o : Value} {x : Int32} (hd : decode V.2.1 pc = .ok (.istore 11, 2)) (hp : pc + 2 = pc') (hm : Nat.blt 11 V.2.2.1 = true) (hn : pv_nl 11 (a0 :: a1 :: a2 :: a3 :: a4 :: a5 :: a6 :: a7 :: a8 :: a9 :: a10 :: o :: L) = true) (k : PW Γ d V pc' (a0 :: a1 :: a2 :: a3 :: a4 :: a5 :: a6 :: a7 :: a8 :: a9 :: a10 :: .int x :: L) st M Q) : PW Γ d V pc (a0 :: a1 :: a2 :: a3 :: a4 :: a5 :: a6 :: a7 :: a8 :: a9 :: a10 :: o :: L) (.int x :: st) M Q := by
  subst hp
  intro p e R s m args below meth c A cells slots Qf C hR E H locs ls hW hl
  exact lv_istore C.1 C.2.1 hd hl (Nat.le_of_ble_eq_true hm) rfl (fun ls2 hl2 => k p e R s m args below meth c A cells slots Qf C hR E H locs ls2 hW (pv_st1 (v := .int x) hn hl2))
theorem PW_lload11 {a0 a1 a2 a3 a4 a5 a6 a7 a8 a9 a10 : Value} {x : Int64} (hd : decode V.2.1 pc = .ok (.lload 11, 2)) (hp : pc + 2 = pc') (k : PW Γ d V pc' (a0 :: a1 :: a2 :: a3 :: a4 :: a5 :: a6 :: a7 :: a8 :: a9 :: a10 :: .long x :: L) (.long x :: st) M Q) : PW Γ d V pc (a0 :: a1 :: a2 :: a3 :: a4 :: a5 :: a6 :: a7 :: a8 :: a9 :: a10 :: .long x :: L) st M Q := by
  subst hp
  intro p e R s m args below meth c A cells slots Qf C hR E H locs ls hW hl
  exact lv_lload C.1 C.2.1 hd (pv_at hl (k := 11) (v := .long x) rfl (by simp)) (k p e R s m args below meth c A cells slots Qf C hR E H locs ls hW hl)
theorem PW_lstore11 {a0 a1 a2 a3 a4 a5 a6 a7 a8 a9 a10 : Value} {o o2 : Value} {x : Int64} (hd : decode V.2.1 pc = .ok (.lstore 11, 2)) (hp : pc + 2 = pc') (hm : Nat.blt 12 V.2.2.1 = true) (hn : pv_nl 11 (a0 :: a1 :: a2 :: a3 :: a4 :: a5 :: a6 :: a7 :: a8 :: a9 :: a10 :: o :: o2 :: L) = true) (k : PW Γ d V pc' (a0 :: a1 :: a2 :: a3 :: a4 :: a5 :: a6 :: a7 :: a8 :: a9 :: a10 :: .long x :: .null :: L) st M Q) : PW Γ d V pc (a0 :: a1 :: a2 :: a3 :: a4 :: a5 :: a6 :: a7 :: a8 :: a9 :: a10 :: o :: o2 :: L) (.long x :: st) M Q := by
  subst hp
  intro p e R s m args below meth c A cells slots Qf C hR E H locs ls hW hl
  exact lv_lstore C.1 C.2.1 hd hl (Nat.le_of_ble_eq_true hm) rfl (fun ls2 hl2 => k p e R s m args below meth c A cells slots Qf C hR E H locs ls2 hW (pv_st2 (v := .long x) hn hl2))
theorem PW_aload11 {a0 a1 a2 a3 a4 a5 a6 a7 a8 a9 a10 : Value} {x : Nat} (hd : decode V.2.1 pc = .ok (.aload 11, 2)) (hp : pc + 2 = pc') (k : PW Γ d V pc' (a0 :: a1 :: a2 :: a3 :: a4 :: a5 :: a6 :: a7 :: a8 :: a9 :: a10 :: .ref x :: L) (.ref x :: st) M Q) : PW Γ d V pc (a0 :: a1 :: a2 :: a3 :: a4 :: a5 :: a6 :: a7 :: a8 :: a9 :: a10 :: .ref x :: L) st M Q := by
  subst hp
  intro p e R s m args below meth c A cells slots Qf C hR E H locs ls hW hl
  exact lv_aload C.1 C.2.1 hd (pv_at hl (k := 11) (v := .ref x) rfl (by simp)) (k p e R s m args below meth c A cells slots Qf C hR E H locs ls hW hl)
theorem PW_astore11 {a0 a1 a2 a3 a4 a5 a6 a7 a8 a9 a10 : Value} {o : Value} {x : Nat} (hd : decode V.2.1 pc = .ok (.astore 11, 2)) (hp : pc + 2 = pc') (hm : Nat.blt 11 V.2.2.1 = true) (hn : pv_nl 11 (a0 :: a1 :: a2 :: a3 :: a4 :: a5 :: a6 :: a7 :: a8 :: a9 :: a10 :: o :: L) = true) (k : PW Γ d V pc' (a0 :: a1 :: a2 :: a3 :: a4 :: a5 :: a6 :: a7 :: a8 :: a9 :: a10 :: .ref x :: L) st M Q) : PW Γ d V pc (a0 :: a1 :: a2 :: a3 :: a4 :: a5 :: a6 :: a7 :: a8 :: a9 :: a10 :: o :: L) (.ref x :: st) M Q := by
  subst hp
  intro p e R s m args below meth c A cells slots Qf C hR E H locs ls hW hl
  exact lv_astore C.1 C.2.1 hd hl (Nat.le_of_ble_eq_true hm) rfl (fun ls2 hl2 => k p e R s m args below meth c A cells slots Qf C hR E H locs ls2 hW (pv_st1 (v := .ref x) hn hl2))
theorem PW_iinc11 {a0 a1 a2 a3 a4 a5 a6 a7 a8 a9 a10 : Value} {n : Int} {x v : Int32} (hd : decode V.2.1 pc = .ok (.iinc 11 n, 3)) (hp : pc + 3 = pc') (hm : Nat.blt 11 V.2.2.1 = true) (hn : pv_nl 11 (a0 :: a1 :: a2 :: a3 :: a4 :: a5 :: a6 :: a7 :: a8 :: a9 :: a10 :: .int x :: L) = true) (hv : x + Int32.ofInt n = v) (k : PW Γ d V pc' (a0 :: a1 :: a2 :: a3 :: a4 :: a5 :: a6 :: a7 :: a8 :: a9 :: a10 :: .int v :: L) st M Q) : PW Γ d V pc (a0 :: a1 :: a2 :: a3 :: a4 :: a5 :: a6 :: a7 :: a8 :: a9 :: a10 :: .int x :: L) st M Q := by
  subst hp
  intro p e R s m args below meth c A cells slots Qf C hR E H locs ls hW hl
  obtain ⟨j, hj⟩ := List.getElem?_of_mem ((pv_lv_mem Γ.2.2.2 (11, .int x) (a0 :: a1 :: a2 :: a3 :: a4 :: a5 :: a6 :: a7 :: a8 :: a9 :: a10 :: .int x :: L) 0).mpr ⟨11, .int x, rfl, by simp, rfl⟩)
  exact lv_iinc C.1 C.2.1 hd hl hj hv (Nat.le_of_ble_eq_true hm) rfl (fun ls2 hl2 => k p e R s m args below meth c A cells slots Qf C hR E H locs ls2 hW (pv_st1 (v := .int v) hn hl2))
theorem PW_iload12 {a0 a1 a2 a3 a4 a5 a6 a7 a8 a9 a10 a11 : Value} {x : Int32} (hd : decode V.2.1 pc = .ok (.iload 12, 2)) (hp : pc + 2 = pc') (k : PW Γ d V pc' (a0 :: a1 :: a2 :: a3 :: a4 :: a5 :: a6 :: a7 :: a8 :: a9 :: a10 :: a11 :: .int x :: L) (.int x :: st) M Q) : PW Γ d V pc (a0 :: a1 :: a2 :: a3 :: a4 :: a5 :: a6 :: a7 :: a8 :: a9 :: a10 :: a11 :: .int x :: L) st M Q := by
  subst hp
  intro p e R s m args below meth c A cells slots Qf C hR E H locs ls hW hl
  exact lv_iload C.1 C.2.1 hd (pv_at hl (k := 12) (v := .int x) rfl (by simp)) (k p e R s m args below meth c A cells slots Qf C hR E H locs ls hW hl)
theorem PW_istore12 {a0 a1 a2 a3 a4 a5 a6 a7 a8 a9 a10 a11 : Value} {o : Value} {x : Int32} (hd : decode V.2.1 pc = .ok (.istore 12, 2)) (hp : pc + 2 = pc') (hm : Nat.blt 12 V.2.2.1 = true) (hn : pv_nl 12 (a0 :: a1 :: a2 :: a3 :: a4 :: a5 :: a6 :: a7 :: a8 :: a9 :: a10 :: a11 :: o :: L) = true) (k : PW Γ d V pc' (a0 :: a1 :: a2 :: a3 :: a4 :: a5 :: a6 :: a7 :: a8 :: a9 :: a10 :: a11 :: .int x :: L) st M Q) : PW Γ d V pc (a0 :: a1 :: a2 :: a3 :: a4 :: a5 :: a6 :: a7 :: a8 :: a9 :: a10 :: a11 :: o :: L) (.int x :: st) M Q := by
  subst hp
  intro p e R s m args below meth c A cells slots Qf C hR E H locs ls hW hl
  exact lv_istore C.1 C.2.1 hd hl (Nat.le_of_ble_eq_true hm) rfl (fun ls2 hl2 => k p e R s m args below meth c A cells slots Qf C hR E H locs ls2 hW (pv_st1 (v := .int x) hn hl2))
theorem PW_lload12 {a0 a1 a2 a3 a4 a5 a6 a7 a8 a9 a10 a11 : Value} {x : Int64} (hd : decode V.2.1 pc = .ok (.lload 12, 2)) (hp : pc + 2 = pc') (k : PW Γ d V pc' (a0 :: a1 :: a2 :: a3 :: a4 :: a5 :: a6 :: a7 :: a8 :: a9 :: a10 :: a11 :: .long x :: L) (.long x :: st) M Q) : PW Γ d V pc (a0 :: a1 :: a2 :: a3 :: a4 :: a5 :: a6 :: a7 :: a8 :: a9 :: a10 :: a11 :: .long x :: L) st M Q := by
  subst hp
  intro p e R s m args below meth c A cells slots Qf C hR E H locs ls hW hl
  exact lv_lload C.1 C.2.1 hd (pv_at hl (k := 12) (v := .long x) rfl (by simp)) (k p e R s m args below meth c A cells slots Qf C hR E H locs ls hW hl)
theorem PW_lstore12 {a0 a1 a2 a3 a4 a5 a6 a7 a8 a9 a10 a11 : Value} {o o2 : Value} {x : Int64} (hd : decode V.2.1 pc = .ok (.lstore 12, 2)) (hp : pc + 2 = pc') (hm : Nat.blt 13 V.2.2.1 = true) (hn : pv_nl 12 (a0 :: a1 :: a2 :: a3 :: a4 :: a5 :: a6 :: a7 :: a8 :: a9 :: a10 :: a11 :: o :: o2 :: L) = true) (k : PW Γ d V pc' (a0 :: a1 :: a2 :: a3 :: a4 :: a5 :: a6 :: a7 :: a8 :: a9 :: a10 :: a11 :: .long x :: .null :: L) st M Q) : PW Γ d V pc (a0 :: a1 :: a2 :: a3 :: a4 :: a5 :: a6 :: a7 :: a8 :: a9 :: a10 :: a11 :: o :: o2 :: L) (.long x :: st) M Q := by
  subst hp
  intro p e R s m args below meth c A cells slots Qf C hR E H locs ls hW hl
  exact lv_lstore C.1 C.2.1 hd hl (Nat.le_of_ble_eq_true hm) rfl (fun ls2 hl2 => k p e R s m args below meth c A cells slots Qf C hR E H locs ls2 hW (pv_st2 (v := .long x) hn hl2))
theorem PW_aload12 {a0 a1 a2 a3 a4 a5 a6 a7 a8 a9 a10 a11 : Value} {x : Nat} (hd : decode V.2.1 pc = .ok (.aload 12, 2)) (hp : pc + 2 = pc') (k : PW Γ d V pc' (a0 :: a1 :: a2 :: a3 :: a4 :: a5 :: a6 :: a7 :: a8 :: a9 :: a10 :: a11 :: .ref x :: L) (.ref x :: st) M Q) : PW Γ d V pc (a0 :: a1 :: a2 :: a3 :: a4 :: a5 :: a6 :: a7 :: a8 :: a9 :: a10 :: a11 :: .ref x :: L) st M Q := by
  subst hp
  intro p e R s m args below meth c A cells slots Qf C hR E H locs ls hW hl
  exact lv_aload C.1 C.2.1 hd (pv_at hl (k := 12) (v := .ref x) rfl (by simp)) (k p e R s m args below meth c A cells slots Qf C hR E H locs ls hW hl)
theorem PW_astore12 {a0 a1 a2 a3 a4 a5 a6 a7 a8 a9 a10 a11 : Value} {o : Value} {x : Nat} (hd : decode V.2.1 pc = .ok (.astore 12, 2)) (hp : pc + 2 = pc') (hm : Nat.blt 12 V.2.2.1 = true) (hn : pv_nl 12 (a0 :: a1 :: a2 :: a3 :: a4 :: a5 :: a6 :: a7 :: a8 :: a9 :: a10 :: a11 :: o :: L) = true) (k : PW Γ d V pc' (a0 :: a1 :: a2 :: a3 :: a4 :: a5 :: a6 :: a7 :: a8 :: a9 :: a10 :: a11 :: .ref x :: L) st M Q) : PW Γ d V pc (a0 :: a1 :: a2 :: a3 :: a4 :: a5 :: a6 :: a7 :: a8 :: a9 :: a10 :: a11 :: o :: L) (.ref x :: st) M Q := by
  subst hp
  intro p e R s m args below meth c A cells slots Qf C hR E H locs ls hW hl
  exact lv_astore C.1 C.2.1 hd hl (Nat.le_of_ble_eq_true hm) rfl (fun ls2 hl2 => k p e R s m args below meth c A cells slots Qf C hR E H locs ls2 hW (pv_st1 (v := .ref x) hn hl2))
theorem PW_iinc12 {a0 a1 a2 a3 a4 a5 a6 a7 a8 a9 a10 a11 : Value} {n : Int} {x v : Int32} (hd : decode V.2.1 pc = .ok (.iinc 12 n, 3)) (hp : pc + 3 = pc') (hm : Nat.blt 12 V.2.2.1 = true) (hn : pv_nl 12 (a0 :: a1 :: a2 :: a3 :: a4 :: a5 :: a6 :: a7 :: a8 :: a9 :: a10 :: a11 :: .int x :: L) = true) (hv : x + Int32.ofInt n = v) (k : PW Γ d V pc' (a0 :: a1 :: a2 :: a3 :: a4 :: a5 :: a6 :: a7 :: a8 :: a9 :: a10 :: a11 :: .int v :: L) st M Q) : PW Γ d V pc (a0 :: a1 :: a2 :: a3 :: a4 :: a5 :: a6 :: a7 :: a8 :: a9 :: a10 :: a11 :: .int x :: L) st M Q := by
  subst hp
  intro p e R s m args below meth c A cells slots Qf C hR E H locs ls hW hl
  obtain ⟨j, hj⟩ := List.getElem?_of_mem ((pv_lv_mem Γ.2.2.2 (12, .int x) (a0 :: a1 :: a2 :: a3 :: a4 :: a5 :: a6 :: a7 :: a8 :: a9 :: a10 :: a11 :: .int x :: L) 0).mpr ⟨12, .int x, rfl, by simp, rfl⟩)
  exact lv_iinc C.1 C.2.1 hd hl hj hv (Nat.le_of_ble_eq_true hm) rfl (fun ls2 hl2 => k p e R s m args below meth c A cells slots Qf C hR E H locs ls2 hW (pv_st1 (v := .int v) hn hl2))
theorem PW_iload13 {a0 a1 a2 a3 a4 a5 a6 a7 a8 a9 a10 a11 a12 : Value} {x : Int32} (hd : decode V.2.1 pc = .ok (.iload 13, 2)) (hp : pc + 2 = pc') (k : PW Γ d V pc' (a0 :: a1 :: a2 :: a3 :: a4 :: a5 :: a6 :: a7 :: a8 :: a9 :: a10 :: a11 :: a12 :: .int x :: L) (.int x :: st) M Q) : PW Γ d V pc (a0 :: a1 :: a2 :: a3 :: a4 :: a5 :: a6 :: a7 :: a8 :: a9 :: a10 :: a11 :: a12 :: .int x :: L) st M Q := by
  subst hp
  intro p e R s m args below meth c A cells slots Qf C hR E H locs ls hW hl
  exact lv_iload C.1 C.2.1 hd (pv_at hl (k := 13) (v := .int x) rfl (by simp)) (k p e R s m args below meth c A cells slots Qf C hR E H locs ls hW hl)
theorem PW_istore13 {a0 a1 a2 a3 a4 a5 a6 a7 a8 a9 a10 a11 a12 : Value} {o : Value} {x : Int32} (hd : decode V.2.1 pc = .ok (.istore 13, 2)) (hp : pc + 2 = pc') (hm : Nat.blt 13 V.2.2.1 = true) (hn : pv_nl 13 (a0 :: a1 :: a2 :: a3 :: a4 :: a5 :: a6 :: a7 :: a8 :: a9 :: a10 :: a11 :: a12 :: o :: L) = true) (k : PW Γ d V pc' (a0 :: a1 :: a2 :: a3 :: a4 :: a5 :: a6 :: a7 :: a8 :: a9 :: a10 :: a11 :: a12 :: .int x :: L) st M Q) : PW Γ d V pc (a0 :: a1 :: a2 :: a3 :: a4 :: a5 :: a6 :: a7 :: a8 :: a9 :: a10 :: a11 :: a12 :: o :: L) (.int x :: st) M Q := by
  subst hp
  intro p e R s m args below meth c A cells slots Qf C hR E H locs ls hW hl
  exact lv_istore C.1 C.2.1 hd hl (Nat.le_of_ble_eq_true hm) rfl (fun ls2 hl2 => k p e R s m args below meth c A cells slots Qf C hR E H locs ls2 hW (pv_st1 (v := .int x) hn hl2))
theorem PW_lload13 {a0 a1 a2 a3 a4 a5 a6 a7 a8 a9 a10 a11 a12 : Value} {x : Int64} (hd : decode V.2.1 pc = .ok (.lload 13, 2)) (hp : pc + 2 = pc') (k : PW Γ d V pc' (a0 :: a1 :: a2 :: a3 :: a4 :: a5 :: a6 :: a7 :: a8 :: a9 :: a10 :: a11 :: a12 :: .long x :: L) (.long x :: st) M Q) : PW Γ d V pc (a0 :: a1 :: a2 :: a3 :: a4 :: a5 :: a6 :: a7 :: a8 :: a9 :: a10 :: a11 :: a12 :: .long x :: L) st M Q := by
  subst hp
  intro p e R s m args below meth c A cells slots Qf C hR E H locs ls hW hl
  exact lv_lload C.1 C.2.1 hd (pv_at hl (k := 13) (v := .long x) rfl (by simp)) (k p e R s m args below meth c A cells slots Qf C hR E H locs ls hW hl)
theorem PW_lstore13 {a0 a1 a2 a3 a4 a5 a6 a7 a8 a9 a10 a11 a12 : Value} {o o2 : Value} {x : Int64} (hd : decode V.2.1 pc = .ok (.lstore 13, 2)) (hp : pc + 2 = pc') (hm : Nat.blt 14 V.2.2.1 = true) (hn : pv_nl 13 (a0 :: a1 :: a2 :: a3 :: a4 :: a5 :: a6 :: a7 :: a8 :: a9 :: a10 :: a11 :: a12 :: o :: o2 :: L) = true) (k : PW Γ d V pc' (a0 :: a1 :: a2 :: a3 :: a4 :: a5 :: a6 :: a7 :: a8 :: a9 :: a10 :: a11 :: a12 :: .long x :: .null :: L) st M Q) : PW Γ d V pc (a0 :: a1 :: a2 :: a3 :: a4 :: a5 :: a6 :: a7 :: a8 :: a9 :: a10 :: a11 :: a12 :: o :: o2 :: L) (.long x :: st) M Q := by
  subst hp
  intro p e R s m args below meth c A cells slots Qf C hR E H locs ls hW hl
  exact lv_lstore C.1 C.2.1 hd hl (Nat.le_of_ble_eq_true hm) rfl (fun ls2 hl2 => k p e R s m args below meth c A cells slots Qf C hR E H locs ls2 hW (pv_st2 (v := .long x) hn hl2))
theorem PW_aload13 {a0 a1 a2 a3 a4 a5 a6 a7 a8 a9 a10 a11 a12 : Value} {x : Nat} (hd : decode V.2.1 pc = .ok (.aload 13, 2)) (hp : pc + 2 = pc') (k : PW Γ d V pc' (a0 :: a1 :: a2 :: a3 :: a4 :: a5 :: a6 :: a7 :: a8 :: a9 :: a10 :: a11 :: a12 :: .ref x :: L) (.ref x :: st) M Q) : PW Γ d V pc (a0 :: a1 :: a2 :: a3 :: a4 :: a5 :: a6 :: a7 :: a8 :: a9 :: a10 :: a11 :: a12 :: .ref x :: L) st M Q := by
  subst hp
  intro p e R s m args below meth c A cells slots Qf C hR E H locs ls hW hl
  exact lv_aload C.1 C.2.1 hd (pv_at hl (k := 13) (v := .ref x) rfl (by simp)) (k p e R s m args below meth c A cells slots Qf C hR E H locs ls hW hl)
theorem PW_astore13 {a0 a1 a2 a3 a4 a5 a6 a7 a8 a9 a10 a11 a12 : Value} {o : Value} {x : Nat} (hd : decode V.2.1 pc = .ok (.astore 13, 2)) (hp : pc + 2 = pc') (hm : Nat.blt 13 V.2.2.1 = true) (hn : pv_nl 13 (a0 :: a1 :: a2 :: a3 :: a4 :: a5 :: a6 :: a7 :: a8 :: a9 :: a10 :: a11 :: a12 :: o :: L) = true) (k : PW Γ d V pc' (a0 :: a1 :: a2 :: a3 :: a4 :: a5 :: a6 :: a7 :: a8 :: a9 :: a10 :: a11 :: a12 :: .ref x :: L) st M Q) : PW Γ d V pc (a0 :: a1 :: a2 :: a3 :: a4 :: a5 :: a6 :: a7 :: a8 :: a9 :: a10 :: a11 :: a12 :: o :: L) (.ref x :: st) M Q := by
  subst hp
  intro p e R s m args below meth c A cells slots Qf C hR E H locs ls hW hl
  exact lv_astore C.1 C.2.1 hd hl (Nat.le_of_ble_eq_true hm) rfl (fun ls2 hl2 => k p e R s m args below meth c A cells slots Qf C hR E H locs ls2 hW (pv_st1 (v := .ref x) hn hl2))
theorem PW_iinc13 {a0 a1 a2 a3 a4 a5 a6 a7 a8 a9 a10 a11 a12 : Value} {n : Int} {x v : Int32} (hd : decode V.2.1 pc = .ok (.iinc 13 n, 3)) (hp : pc + 3 = pc') (hm : Nat.blt 13 V.2.2.1 = true) (hn : pv_nl 13 (a0 :: a1 :: a2 :: a3 :: a4 :: a5 :: a6 :: a7 :: a8 :: a9 :: a10 :: a11 :: a12 :: .int x :: L) = true) (hv : x + Int32.ofInt n = v) (k : PW Γ d V pc' (a0 :: a1 :: a2 :: a3 :: a4 :: a5 :: a6 :: a7 :: a8 :: a9 :: a10 :: a11 :: a12 :: .int v :: L) st M Q) : PW Γ d V pc (a0 :: a1 :: a2 :: a3 :: a4 :: a5 :: a6 :: a7 :: a8 :: a9 :: a10 :: a11 :: a12 :: .int x :: L) st M Q := by
  subst hp
  intro p e R s m args below meth c A cells slots Qf C hR E H locs ls hW hl
  obtain ⟨j, hj⟩ := List.getElem?_of_mem ((pv_lv_mem Γ.2.2.2 (13, .int x) (a0 :: a1 :: a2 :: a3 :: a4 :: a5 :: a6 :: a7 :: a8 :: a9 :: a10 :: a11 :: a12 :: .int x :: L) 0).mpr ⟨13, .int x, rfl, by simp, rfl⟩)
  exact lv_iinc C.1 C.2.1 hd hl hj hv (Nat.le_of_ble_eq_true hm) rfl (fun ls2 hl2 => k p e R s m args below meth c A cells slots Qf C hR E H locs ls2 hW (pv_st1 (v := .int v) hn hl2))
theorem PW_if_eq {x : Int32} {off : Int} {tgt : Nat} (hd : decode V.2.1 pc = .ok (.ifCond .eq off, 3)) (ht : (pc : Int) + off = (tgt : Int)) (hp : pc + 3 = pc') (kt : (x = 0) → PW Γ d V tgt L st M Q) (kf : ¬ (x = 0) → PW Γ d V pc' L st M Q) : PW Γ d V pc L (.int x :: st) M Q := by
  subst hp
  intro p e R s m args below meth c A cells slots Qf C hR E H locs ls hW hl
  exact lv_if_eq C.1 C.2.1 hd ht (fun h => kt h p e R s m args below meth c A cells slots Qf C hR E H locs ls hW hl) (fun h => kf h p e R s m args below meth c A cells slots Qf C hR E H locs ls hW hl)
theorem PW_icmp_eq {x y : Int32} {off : Int} {tgt : Nat} (hd : decode V.2.1 pc = .ok (.if_icmp .eq off, 3)) (ht : (pc : Int) + off = (tgt : Int)) (hp : pc + 3 = pc') (kt : (x = y) → PW Γ d V tgt L st M Q) (kf : ¬ (x = y) → PW Γ d V pc' L st M Q) : PW Γ d V pc L (.int y :: .int x :: st) M Q := by
  subst hp
  intro p e R s m args below meth c A cells slots Qf C hR E H locs ls hW hl
  exact lv_icmp_eq C.1 C.2.1 hd ht (fun h => kt h p e R s m args below meth c A cells slots Qf C hR E H locs ls hW hl) (fun h => kf h p e R s m args below meth c A cells slots Qf C hR E H locs ls hW hl)
theorem PW_if_ne {x : Int32} {off : Int} {tgt : Nat} (hd : decode V.2.1 pc = .ok (.ifCond .ne off, 3)) (ht : (pc : Int) + off = (tgt : Int)) (hp : pc + 3 = pc') (kt : (¬ x = 0) → PW Γ d V tgt L st M Q) (kf : (x = 0) → PW Γ d V pc' L st M Q) : PW Γ d V pc L (.int x :: st) M Q := by
  subst hp
  intro p e R s m args below meth c A cells slots Qf C hR E H locs ls hW hl
  exact lv_if_ne C.1 C.2.1 hd ht (fun h => kt h p e R s m args below meth c A cells slots Qf C hR E H locs ls hW hl) (fun h => kf h p e R s m args below meth c A cells slots Qf C hR E H locs ls hW hl)
theorem PW_icmp_ne {x y : Int32} {off : Int} {tgt : Nat} (hd : decode V.2.1 pc = .ok (.if_icmp .ne off, 3)) (ht : (pc : Int) + off = (tgt : Int)) (hp : pc + 3 = pc') (kt : (¬ x = y) → PW Γ d V tgt L st M Q) (kf : (x = y) → PW Γ d V pc' L st M Q) : PW Γ d V pc L (.int y :: .int x :: st) M Q := by
  subst hp
  intro p e R s m args below meth c A cells slots Qf C hR E H locs ls hW hl
  exact lv_icmp_ne C.1 C.2.1 hd ht (fun h => kt h p e R s m args below meth c A cells slots Qf C hR E H locs ls hW hl) (fun h => kf h p e R s m args below meth c A cells slots Qf C hR E H locs ls hW hl)
theorem PW_if_lt {x : Int32} {off : Int} {tgt : Nat} (hd : decode V.2.1 pc = .ok (.ifCond .lt off, 3)) (ht : (pc : Int) + off = (tgt : Int)) (hp : pc + 3 = pc') (kt : (x < 0) → PW Γ d V tgt L st M Q) (kf : ¬ (x < 0) → PW Γ d V pc' L st M Q) : PW Γ d V pc L (.int x :: st) M Q := by
  subst hp
  intro p e R s m args below meth c A cells slots Qf C hR E H locs ls hW hl
  exact lv_if_lt C.1 C.2.1 hd ht (fun h => kt h p e R s m args below meth c A cells slots Qf C hR E H locs ls hW hl) (fun h => kf h p e R s m args below meth c A cells slots Qf C hR E H locs ls hW hl)
theorem PW_icmp_lt {x y : Int32} {off : Int} {tgt : Nat} (hd : decode V.2.1 pc = .ok (.if_icmp .lt off, 3)) (ht : (pc : Int) + off = (tgt : Int)) (hp : pc + 3 = pc') (kt : (x < y) → PW Γ d V tgt L st M Q) (kf : ¬ (x < y) → PW Γ d V pc' L st M Q) : PW Γ d V pc L (.int y :: .int x :: st) M Q := by
  subst hp
  intro p e R s m args below meth c A cells slots Qf C hR E H locs ls hW hl
  exact lv_icmp_lt C.1 C.2.1 hd ht (fun h => kt h p e R s m args below meth c A cells slots Qf C hR E H locs ls hW hl) (fun h => kf h p e R s m args below meth c A cells slots Qf C hR E H locs ls hW hl)
theorem PW_if_ge {x : Int32} {off : Int} {tgt : Nat} (hd : decode V.2.1 pc = .ok (.ifCond .ge off, 3)) (ht : (pc : Int) + off = (tgt : Int)) (hp : pc + 3 = pc') (kt : (0 ≤ x) → PW Γ d V tgt L st M Q) (kf : ¬ (0 ≤ x) → PW Γ d V pc' L st M Q) : PW Γ d V pc L (.int x :: st) M Q := by
  subst hp
  intro p e R s m args below meth c A cells slots Qf C hR E H locs ls hW hl
  exact lv_if_ge C.1 C.2.1 hd ht (fun h => kt h p e R s m args below meth c A cells slots Qf C hR E H locs ls hW hl) (fun h => kf h p e R s m args below meth c A cells slots Qf C hR E H locs ls hW hl)
theorem PW_icmp_ge {x y : Int32} {off : Int} {tgt : Nat} (hd : decode V.2.1 pc = .ok (.if_icmp .ge off, 3)) (ht : (pc : Int) + off = (tgt : Int)) (hp : pc + 3 = pc') (kt : (y ≤ x) → PW Γ d V tgt L st M Q) (kf : ¬ (y ≤ x) → PW Γ d V pc' L st M Q) : PW Γ d V pc L (.int y :: .int x :: st) M Q := by
  subst hp
  intro p e R s m args below meth c A cells slots Qf C hR E H locs ls hW hl
  exact lv_icmp_ge C.1 C.2.1 hd ht (fun h => kt h p e R s m args below meth c A cells slots Qf C hR E H locs ls hW hl) (fun h => kf h p e R s m args below meth c A cells slots Qf C hR E H locs ls hW hl)
theorem PW_if_gt {x : Int32} {off : Int} {tgt : Nat} (hd : decode V.2.1 pc = .ok (.ifCond .gt off, 3)) (ht : (pc : Int) + off = (tgt : Int)) (hp : pc + 3 = pc') (kt : (0 < x) → PW Γ d V tgt L st M Q) (kf : ¬ (0 < x) → PW Γ d V pc' L st M Q) : PW Γ d V pc L (.int x :: st) M Q := by
  subst hp
  intro p e R s m args below meth c A cells slots Qf C hR E H locs ls hW hl
  exact lv_if_gt C.1 C.2.1 hd ht (fun h => kt h p e R s m args below meth c A cells slots Qf C hR E H locs ls hW hl) (fun h => kf h p e R s m args below meth c A cells slots Qf C hR E H locs ls hW hl)
theorem PW_icmp_gt {x y : Int32} {off : Int} {tgt : Nat} (hd : decode V.2.1 pc = .ok (.if_icmp .gt off, 3)) (ht : (pc : Int) + off = (tgt : Int)) (hp : pc + 3 = pc') (kt : (y < x) → PW Γ d V tgt L st M Q) (kf : ¬ (y < x) → PW Γ d V pc' L st M Q) : PW Γ d V pc L (.int y :: .int x :: st) M Q := by
  subst hp
  intro p e R s m args below meth c A cells slots Qf C hR E H locs ls hW hl
  exact lv_icmp_gt C.1 C.2.1 hd ht (fun h => kt h p e R s m args below meth c A cells slots Qf C hR E H locs ls hW hl) (fun h => kf h p e R s m args below meth c A cells slots Qf C hR E H locs ls hW hl)
theorem PW_if_le {x : Int32} {off : Int} {tgt : Nat} (hd : decode V.2.1 pc = .ok (.ifCond .le off, 3)) (ht : (pc : Int) + off = (tgt : Int)) (hp : pc + 3 = pc') (kt : (x ≤ 0) → PW Γ d V tgt L st M Q) (kf : ¬ (x ≤ 0) → PW Γ d V pc' L st M Q) : PW Γ d V pc L (.int x :: st) M Q := by
  subst hp
  intro p e R s m args below meth c A cells slots Qf C hR E H locs ls hW hl
  exact lv_if_le C.1 C.2.1 hd ht (fun h => kt h p e R s m args below meth c A cells slots Qf C hR E H locs ls hW hl) (fun h => kf h p e R s m args below meth c A cells slots Qf C hR E H locs ls hW hl)
theorem PW_icmp_le {x y : Int32} {off : Int} {tgt : Nat} (hd : decode V.2.1 pc = .ok (.if_icmp .le off, 3)) (ht : (pc : Int) + off = (tgt : Int)) (hp : pc + 3 = pc') (kt : (x ≤ y) → PW Γ d V tgt L st M Q) (kf : ¬ (x ≤ y) → PW Γ d V pc' L st M Q) : PW Γ d V pc L (.int y :: .int x :: st) M Q := by
  subst hp
  intro p e R s m args below meth c A cells slots Qf C hR E H locs ls hW hl
  exact lv_icmp_le C.1 C.2.1 hd ht (fun h => kt h p e R s m args below meth c A cells slots Qf C hR E H locs ls hW hl) (fun h => kf h p e R s m args below meth c A cells slots Qf C hR E H locs ls hW hl)
theorem PW_goto {off : Int} {tgt : Nat} (hd : decode V.2.1 pc = .ok (.goto off, 3)) (ht : (pc : Int) + off = (tgt : Int)) (k : PW Γ d V tgt L st M Q) : PW Γ d V pc L st M Q := by
  intro p e R s m args below meth c A cells slots Qf C hR E H locs ls hW hl
  exact lv_goto C.1 C.2.1 hd ht (k p e R s m args below meth c A cells slots Qf C hR E H locs ls hW hl)
theorem PW_tin {dflt lo hi : Int} {offs : Array Int} {len : Nat} {x : Int32} {off : Int} {tgt : Nat} (hd : decode V.2.1 pc = .ok (.tableswitch dflt lo hi offs, len)) (h1 : ¬ x.toInt < lo) (h2 : ¬ hi < x.toInt) (ho : offs[(x.toInt - lo).toNat]? = some off) (ht : (pc : Int) + off = (tgt : Int)) (k : PW Γ d V tgt L st M Q) : PW Γ d V pc L (.int x :: st) M Q := by
  intro p e R s m args below meth c A cells slots Qf C hR E H locs ls hW hl
  exact lv_tableIn C.1 C.2.1 hd h1 h2 ho ht (k p e R s m args below meth c A cells slots Qf C hR E H locs ls hW hl)
theorem PW_tout {dflt lo hi : Int} {offs : Array Int} {len : Nat} {x : Int32} {tgt : Nat} (hd : decode V.2.1 pc = .ok (.tableswitch dflt lo hi offs, len)) (h : x.toInt < lo ∨ hi < x.toInt) (ht : (pc : Int) + dflt = (tgt : Int)) (k : PW Γ d V tgt L st M Q) : PW Γ d V pc L (.int x :: st) M Q := by
  intro p e R s m args below meth c A cells slots Qf C hR E H locs ls hW hl
  exact lv_tableOut C.1 C.2.1 hd h ht (k p e R s m args below meth c A cells slots Qf C hR E H locs ls hW hl)
theorem PW_ireturn {v : Int32} (ty : FieldType) (hd : decode V.2.1 pc = .ok (.ireturn, 1)) (hr : V.2.2.2.1 = some ty) (hn : narrow ty (.int v) = .int v) (hq : Q (some (.int v)) M) : PW Γ d V pc L [.int v] M Q := by
  intro p e R s m args below meth c A cells slots Qf C hR E H locs ls hW hl
  exact E (some (.int v)) M H locs ls pc hq ⟨⟨ty, hr, hn⟩, hd⟩ hW
theorem PW_lreturn {v : Int64} (hd : decode V.2.1 pc = .ok (.lreturn, 1)) (hr : V.2.2.2.1 = some .long) (hq : Q (some (.long v)) M) : PW Γ d V pc L [.long v] M Q := by
  intro p e R s m args below meth c A cells slots Qf C hR E H locs ls hW hl
  exact E (some (.long v)) M H locs ls pc hq ⟨hr, hd⟩ hW
theorem PW_return (hd : decode V.2.1 pc = .ok (.return_, 1)) (hr : V.2.2.2.1 = none) (hq : Q none M) : PW Γ d V pc L [] M Q := by
  intro p e R s m args below meth c A cells slots Qf C hR E H locs ls hW hl
  exact E none M H locs ls pc hq ⟨hr, hd⟩ hW
end PV
