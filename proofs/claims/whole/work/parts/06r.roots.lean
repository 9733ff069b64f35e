/-! the constants of SHA-256 as the reference reckons them: forty steps of Newton's, in doubles -/
abbrev rtA (x : UInt64) : UInt64 := FP.dadd x x
abbrev rtB (n : Int32) (x : UInt64) : UInt64 := FP.ddiv (FP.i2d n) (FP.dmul x x)
abbrev rtC (n : Int32) (x : UInt64) : UInt64 := FP.dadd (rtA x) (rtB n x)
abbrev rtD (n : Int32) (x : UInt64) : UInt64 := FP.dadd x (FP.ddiv (FP.i2d n) x)
def rtS (third : Bool) (n : Int32) (x : UInt64) : UInt64 := if third then FP.ddiv (rtC n x) 4613937818241073152 else FP.ddiv (rtD n x) 4611686018427387904
def rtI (third : Bool) (n : Int32) : Nat → UInt64
  | 0 => FP.i2d n
  | k + 1 => rtS third n (rtI third n k)
def rtK (x : UInt64) : Bool := decide (x &&& 0x7fffffffffffffff ≤ 0x7ff0000000000000)
/-- no NaN in a step -/
def rtO (third : Bool) (n : Int32) (x : UInt64) : Bool := if third then rtK (rtA x) && (rtK (FP.dmul x x) && (rtK (rtB n x) && (rtK (rtC n x) && rtK (FP.ddiv (rtC n x) 4613937818241073152)))) else rtK (FP.ddiv (FP.i2d n) x) && (rtK (rtD n x) && rtK (FP.ddiv (rtD n x) 4611686018427387904))
def rtE (x : UInt64) : UInt64 := FP.dsub x (FP.l2d (FP.d2l x))
def rtF (x : UInt64) : UInt64 := FP.dmul (rtE x) 4751297606875873280
def rtV (third : Bool) (n : Int32) : Int32 := (FP.d2l (rtF (rtI third n 40))).toInt32
/-- a walk over the steps that looks at each once -/
def rtG (third : Bool) (n : Int32) : Nat → UInt64 → Bool × UInt64
  | 0, x => (true, x)
  | k + 1, x => if rtO third n x then rtG third n k (rtS third n x) else (false, x)
theorem rtG_spec (third : Bool) (n : Int32) : ∀ (k i : Nat), (rtG third n k (rtI third n i)).1 = true → (∀ j, i ≤ j → j < i + k → rtO third n (rtI third n j) = true) ∧ (rtG third n k (rtI third n i)).2 = rtI third n (i + k)
  | 0, i, _ => ⟨fun j h1 h2 => by omega, rfl⟩
  | k + 1, i, h => by
    unfold rtG at h ⊢
    by_cases ho : rtO third n (rtI third n i) = true
    · rw [if_pos ho] at h ⊢
      have ih := rtG_spec third n k (i + 1) h
      refine ⟨fun j h1 h2 => ?_, ?_⟩
      · rcases Nat.eq_or_lt_of_le h1 with e | e
        · rw [← e]; exact ho
        · exact ih.1 j e (by omega)
      · have := ih.2
        rw [show i + (k + 1) = i + 1 + k by omega]
        exact this
    · rw [if_neg ho] at h
      cases h
def rtW (third : Bool) (n : Int32) (v : Int32) : Bool := (rtG third n 40 (FP.i2d n)).1 && (rtK (rtE (rtG third n 40 (FP.i2d n)).2) && (rtK (rtF (rtG third n 40 (FP.i2d n)).2) && decide ((FP.d2l (rtF (rtG third n 40 (FP.i2d n)).2)).toInt32 = v)))
theorem rtW_spec {third : Bool} {n v : Int32} (h : rtW third n v = true) : (∀ j, j < 40 → rtO third n (rtI third n j) = true) ∧ rtK (rtE (rtI third n 40)) = true ∧ rtK (rtF (rtI third n 40)) = true ∧ rtV third n = v := by
  simp only [rtW, Bool.and_eq_true, decide_eq_true_eq] at h
  obtain ⟨h1, h2, h3, h4⟩ := h
  have hs := rtG_spec third n 40 0 h1
  have e : (rtG third n 40 (FP.i2d n)).2 = rtI third n 40 := hs.2
  rw [e] at h2 h3 h4
  exact ⟨fun j hj => hs.1 j (Nat.zero_le _) (by omega), h2, h3, h4⟩
/-- what the reference's inner loop has found of n after i turns; where it ends -/
def prF (n : Nat) : Nat → Bool
  | 0 => true
  | i + 1 => prF n i && decide (n % (i + 2) ≠ 0)
def prE (n : Nat) : Nat := ((List.range 17).find? (fun i => decide (n < (i + 2) * (i + 2)))).getD 0
def prT (n : Nat) : Bool := prF n (prE n)
def prC : Nat → Nat
  | 0 => 0
  | n + 1 => prC n + (if 2 ≤ n ∧ prT n = true then 1 else 0)
theorem prE_ok : ∀ n, n < 312 → n < (prE n + 2) * (prE n + 2) ∧ ∀ i, i < prE n → (i + 2) * (i + 2) ≤ n := by decide +kernel
theorem prE_is {n i : Nat} (hn : n < 312) (h1 : n < (i + 2) * (i + 2)) (h2 : ∀ j, j < i → (j + 2) * (j + 2) ≤ n) : i = prE n := by
  obtain ⟨a, b⟩ := prE_ok n hn
  rcases Nat.lt_trichotomy i (prE n) with h | h | h
  · have := b i h; omega
  · exact h
  · have := h2 _ h; omega
theorem prC_mono (n : Nat) : ∀ k, prC n ≤ prC (n + k)
  | 0 => Nat.le_refl _
  | k + 1 => by
    have := prC_mono n k
    show prC n ≤ prC (n + k) + _
    omega
theorem prC_312 : prC 312 = 64 := by decide +kernel
theorem prC_lt {n : Nat} (h : prC n < 64) : n < 312 := by
  rcases Nat.lt_or_ge n 312 with q | q
  · exact q
  · have := prC_mono 312 (n - 312)
    rw [Nat.add_sub_cancel' q, prC_312] at this
    omega
theorem prC_le {n : Nat} (h : prC n < 64) : prC (n + 1) ≤ 64 := by
  show prC n + _ ≤ 64
  split <;> omega
def rtAll (n : Nat) : Bool := if 2 ≤ n ∧ prT n = true then rtW true (nI n) (shK (prC n)) && (if prC n < 8 then rtW false (nI n) (shH (prC n)) else true) else true
theorem rtAll_1 : ∀ n, n < 100 → rtAll n = true := by decide +kernel
theorem rtAll_2 : ∀ n, n < 200 → 100 ≤ n → rtAll n = true := by decide +kernel
theorem rtAll_3 : ∀ n, n < 312 → 200 ≤ n → rtAll n = true := by decide +kernel
theorem rtAll_ok {n : Nat} (hn : n < 312) (h2 : 2 ≤ n) (hp : prT n = true) : rtW true (nI n) (shK (prC n)) = true ∧ (prC n < 8 → rtW false (nI n) (shH (prC n)) = true) := by
  have h : rtAll n = true := by
    rcases Nat.lt_or_ge n 100 with q | q
    · exact rtAll_1 n q
    · rcases Nat.lt_or_ge n 200 with r | r
      · exact rtAll_2 n r q
      · exact rtAll_3 n hn r
  unfold rtAll at h
  rw [if_pos ⟨h2, hp⟩, Bool.and_eq_true] at h
  refine ⟨h.1, fun q => ?_⟩
  have := h.2
  rw [if_pos q] at this
  exact this
