/-! all rounds, one after another: by their hours, and by their numbers -/
/-- all completions of p in its last m hours, none first, then by thing -/
def s_seq {α : Type} (F : (Nat → Option Nat) → α → α) (c : Nat) : Nat → (Nat → Option Nat) → α → α
  | 0 => fun p σ => F p σ
  | m + 1 => fun p σ => (List.range c).foldl (fun σ t => s_seq F c m (s_ext p (5 - m) (some t)) σ) (s_seq F c m (s_ext p (5 - m) none) σ)
def s_num (c m : Nat) (p : Nat → Option Nat) (i : Nat) : Nat → Option Nat := fun x => if 6 - m ≤ x then s_rn c i x else p x
def s_dgt (d : Nat) : Option Nat := if d = 0 then none else some (d - 1)
theorem s_blk {α : Type} (f : α → Nat → α) (N : Nat) : ∀ (k : Nat) (σ : α), (List.range (k * N)).foldl f σ = (List.range k).foldl (fun σ d => (List.range N).foldl (fun σ i => f σ (d * N + i)) σ) σ
  | 0, σ => by simp
  | k + 1, σ => by
    rw [Nat.succ_mul, List.range_add, List.foldl_append, List.foldl_map, s_blk f N k σ, List.range_succ, List.foldl_append]
    rfl
theorem s_seq_d {α : Type} (F : (Nat → Option Nat) → α → α) (c m : Nat) (p : Nat → Option Nat) (σ : α) : s_seq F c (m + 1) p σ = (List.range (c + 1)).foldl (fun σ d => s_seq F c m (s_ext p (5 - m) (s_dgt d)) σ) σ := by
  rw [show c + 1 = 1 + c by omega, List.range_add, List.foldl_append, List.foldl_map]
  simp only [s_seq, List.range_one, List.foldl_cons, List.foldl_nil]
  have e : ∀ t, s_dgt (1 + t) = some t := fun t => by
    unfold s_dgt
    rw [if_neg (by omega)]
    exact congrArg some (by omega)
  simp only [e]
  rfl
