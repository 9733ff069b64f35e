/-! the state of a SignRows, as numbers and functions; what each call answers, and what it leaves -/
abbrev St : Type := (Nat × Nat × Nat × Nat × Nat × Int64) × ((Nat → Nat) × (Nat → Nat) × (Nat → Int64) × (Nat → Int64)) × ((Nat → Nat) × (Nat → Nat) × (Nat → Nat → Nat) × (Nat → Nat) × (Nat → Nat → Nat) × (Nat → Nat) × (Nat → Nat → Nat)) × ((Nat → Nat) × (Nat → Nat) × (Nat → Nat) × (Nat → Nat → Int32) × (Nat → Bool) × (Nat → Nat)) × (Nat → Nat → Bool)
abbrev s_np (σ : St) : Nat := σ.1.1
abbrev s_nr (σ : St) : Nat := σ.1.2.1
abbrev s_nt (σ : St) : Nat := σ.1.2.2.1
abbrev s_ns (σ : St) : Nat := σ.1.2.2.2.1
abbrev s_nw (σ : St) : Nat := σ.1.2.2.2.2.1
abbrev s_ck (σ : St) : Int64 := σ.1.2.2.2.2.2
abbrev s_rp (σ : St) : Nat → Nat := σ.2.1.1
abbrev s_rk (σ : St) : Nat → Nat := σ.2.1.2.1
abbrev s_rf (σ : St) : Nat → Int64 := σ.2.1.2.2.1
abbrev s_rt (σ : St) : Nat → Int64 := σ.2.1.2.2.2
abbrev s_mk (σ : St) : Nat → Nat := σ.2.2.1.1
abbrev s_ln (σ : St) : Nat → Nat := σ.2.2.1.2.1
abbrev s_by (σ : St) : Nat → Nat → Nat := σ.2.2.1.2.2.1
abbrev s_cn (σ : St) : Nat → Nat := σ.2.2.1.2.2.2.1
abbrev s_cm (σ : St) : Nat → Nat → Nat := σ.2.2.1.2.2.2.2.1
abbrev s_dn (σ : St) : Nat → Nat := σ.2.2.1.2.2.2.2.2.1
abbrev s_nd (σ : St) : Nat → Nat → Nat := σ.2.2.1.2.2.2.2.2.2
abbrev s_st (σ : St) : Nat → Nat := σ.2.2.2.1.1
abbrev s_sp (σ : St) : Nat → Nat := σ.2.2.2.1.2.1
abbrev s_sm (σ : St) : Nat → Nat := σ.2.2.2.1.2.2.1
abbrev s_sw (σ : St) : Nat → Nat → Int32 := σ.2.2.2.1.2.2.2.1
abbrev s_sg (σ : St) : Nat → Bool := σ.2.2.2.1.2.2.2.2.1
abbrev s_wl (σ : St) : Nat → Nat := σ.2.2.2.1.2.2.2.2.2
abbrev s_bh (σ : St) : Nat → Nat → Bool := σ.2.2.2.2
abbrev cLAST : Int64 := 1000000000000
def s_0 : St := ((0, 0, 0, 0, 0, 0), (fun _ => 0, fun _ => 0, fun _ => 0, fun _ => 0), (fun _ => 0, fun _ => 0, fun _ _ => 0, fun _ => 0, fun _ _ => 0, fun _ => 0, fun _ _ => 0), (fun _ => 0, fun _ => 0, fun _ => 0, fun _ _ => 0, fun _ => false, fun _ => 0), fun _ _ => false)
/-- the digest of thing t -/
def s_dg (σ : St) (t : Nat) : Nat → Int32 := shD (s_by σ t) (s_ln σ t)
def eqw (f g : Nat → Int32) : Nat → Bool
  | 0 => true
  | k + 1 => eqw f g k && decide (f k = g k)
/-- signature i holds -/
def s_sd (σ : St) (i : Nat) : Bool := !s_sg σ i && eqw (s_sw σ i) (s_dg σ (s_st σ i)) 8
/-- some of the first n signatures is of thing t, meaning m, of person q if one is named, and holds -/
def s_hs (σ : St) (t m : Nat) (q : Option Nat) : Nat → Bool
  | 0 => false
  | n + 1 => s_hs σ t m q n || (decide (s_st σ n = t) && decide (s_sm σ n = m) && (match q with | none => true | some p => decide (s_sp σ n = p)) && s_sd σ n)
def isSec (x : Int64) : Bool := decide (0 ≤ x) && decide (x ≤ cLAST)
def n_of (x : Int32) : Nat := x.toNatClampNeg
theorem n_of_nI {j : Nat} (h : j < 2 ^ 31) : n_of (nI j) = j := nI_clamp h
-- person
def a_person (σ : St) : Int32 := if s_np σ = 24 then -2 else nI (s_np σ)
def n_person (σ : St) : St := if s_np σ = 24 then σ else ((s_np σ + 1, σ.1.2), σ.2)
-- role
def a_role (σ : St) (p r : Int32) (f t : Int64) : Bool := fIn p (s_np σ) && fIn r 10 && isSec f && isSec t && decide (f ≤ t) && decide (s_nr σ ≠ 100)
def n_role (σ : St) (p r : Int32) (f t : Int64) : St := if a_role σ p r f t then ((s_np σ, s_nr σ + 1, σ.1.2.2), (va_up (s_rp σ) (s_nr σ) (n_of p), va_up (s_rk σ) (s_nr σ) (n_of r), va_up (s_rf σ) (s_nr σ) f, va_up (s_rt σ) (s_nr σ) t), σ.2.2) else σ
-- thing
def a_thing (σ : St) (p : Int32) : Int32 := if fIn p (s_np σ) then (if s_nt σ = 16 then -2 else nI (s_nt σ)) else -1
def n_thing (σ : St) (p : Int32) : St := if fIn p (s_np σ) then (if s_nt σ = 16 then σ else ((s_np σ, s_nr σ, s_nt σ + 1, σ.1.2.2.2), σ.2.1, (va_up (s_mk σ) (s_nt σ) (n_of p), σ.2.2.1.2), σ.2.2.2)) else σ
-- byteOf
def a_byteOf (σ : St) (t b : Int32) : Bool := fIn t (s_nt σ) && fIn b 256 && decide (s_ln σ (n_of t) ≠ 1000)
def n_byteOf (σ : St) (t b : Int32) : St := if a_byteOf σ t b then (σ.1, σ.2.1, (s_mk σ, va_up (s_ln σ) (n_of t) (s_ln σ (n_of t) + 1), f2 (s_by σ) (n_of t) (s_ln σ (n_of t)) (n_of b), σ.2.2.1.2.2.2), σ.2.2.2) else σ
-- sign
def s_rl (σ : St) (p m : Nat) (x : Int64) : Nat → Bool
  | 0 => false
  | n + 1 => s_rl σ p m x n || (decide (s_rp σ n = p) && decide (s_rk σ n = m) && decide (s_rf σ n ≤ x) && decide (x ≤ s_rt σ n))
def s_ob (σ : St) (t m : Nat) : Nat → Bool
  | 0 => false
  | n + 1 => s_ob σ t m n || (s_bh σ m n && !s_hs σ t n none (s_ns σ))
/-- none: thrown -/
def a_sign (σ : St) (t p m : Int32) (x : Int64) : Option Int32 :=
  if !(fIn t (s_nt σ) && fIn p (s_np σ) && fIn m 10) then some (-1)
  else if !(isSec x && decide (s_ck σ ≤ x)) then some (-3)
  else if !s_rl σ (n_of p) (n_of m) x (s_nr σ) then none
  else if s_mk σ (n_of t) = n_of p then some (-4)
  else if s_ob σ (n_of t) (n_of m) 10 then some (-5)
  else if s_hs σ (n_of t) (n_of m) (some (n_of p)) (s_ns σ) then some (-6)
  else if s_ns σ = 400 then some (-2)
  else some (nI (s_ns σ))
def k_sign (σ : St) (t p m : Int32) (x : Int64) : Bool := fIn t (s_nt σ) && fIn p (s_np σ) && fIn m 10 && isSec x && decide (s_ck σ ≤ x) && s_rl σ (n_of p) (n_of m) x (s_nr σ) && decide (s_mk σ (n_of t) ≠ n_of p) && !s_ob σ (n_of t) (n_of m) 10 && !s_hs σ (n_of t) (n_of m) (some (n_of p)) (s_ns σ) && decide (s_ns σ ≠ 400)
def m_sign (σ : St) (t p m : Nat) (x : Int64) : St := ((s_np σ, s_nr σ, s_nt σ, s_ns σ + 1, s_nw σ, x), σ.2.1, σ.2.2.1, (va_up (s_st σ) (s_ns σ) t, va_up (s_sp σ) (s_ns σ) p, va_up (s_sm σ) (s_ns σ) m, va_up (s_sw σ) (s_ns σ) (s_dg σ t), σ.2.2.2.1.2.2.2.2), s_bh σ)
def n_sign (σ : St) (t p m : Int32) (x : Int64) : St := if k_sign σ t p m x then m_sign σ (n_of t) (n_of p) (n_of m) x else σ
-- holds
def a_holds (σ : St) (i : Int32) : Bool := fIn i (s_ns σ) && s_sd σ (n_of i)
-- withdraw
def a_withdraw (σ : St) (i : Int32) : Bool := fIn i (s_ns σ) && !s_sg σ (n_of i)
def n_withdraw (σ : St) (i : Int32) : St := if a_withdraw σ i then ((s_np σ, s_nr σ, s_nt σ, s_ns σ, s_nw σ + 1, s_ck σ), σ.2.1, σ.2.2.1, (s_st σ, s_sp σ, s_sm σ, s_sw σ, va_up (s_sg σ) (n_of i) true, va_up (s_wl σ) (s_nw σ) (n_of i)), s_bh σ) else σ
-- order
def anyj (f : Nat → Bool) : Nat → Bool
  | 0 => false
  | n + 1 => anyj f n || f n
def cmx (bh : Nat → Nat → Bool) : Nat → Nat → Nat → Bool
  | 0, m, b => bh m b
  | k + 1, m, b => bh m b || anyj (fun j => bh m j && cmx bh k j b) 10
def a_order (σ : St) (m a : Int32) : Bool := fIn m 10 && fIn a 10 && decide (m ≠ a) && !s_bh σ (n_of m) (n_of a) && !cmx (s_bh σ) 10 (n_of a) (n_of m)
def n_order (σ : St) (m a : Int32) : St := if a_order σ m a then (σ.1, σ.2.1, σ.2.2.1, σ.2.2.2.1, f2 (s_bh σ) (n_of m) (n_of a) true) else σ
-- complete
def s_cp (σ : St) (t : Nat) : Nat → Nat → Int32
  | 0, _ => 0
  | n + 1, k => if s_hs σ t (s_nd σ t k) none (s_ns σ) then s_cp σ t n (k + 1) else nI (1 + k)
def a_complete (σ : St) (t : Int32) : Int32 := if fIn t (s_nt σ) then s_cp σ (n_of t) (s_dn σ (n_of t)) 0 else -1
-- comment
def a_comment (σ : St) (t u : Int32) (x : Int64) : Bool := fIn t (s_nt σ) && fIn u 256 && isSec x && decide (s_ck σ ≤ x) && decide (s_cn σ (n_of t) ≠ 200)
def n_comment (σ : St) (t u : Int32) (x : Int64) : St := if a_comment σ t u x then ((s_np σ, s_nr σ, s_nt σ, s_ns σ, s_nw σ, x), σ.2.1, (s_mk σ, s_ln σ, s_by σ, va_up (s_cn σ) (n_of t) (s_cn σ (n_of t) + 1), f2 (s_cm σ) (n_of t) (s_cn σ (n_of t)) (n_of u), σ.2.2.1.2.2.2.2.2), σ.2.2.2) else σ
-- digest
def a_digest (σ : St) (t i : Int32) : Int32 := if fIn t (s_nt σ) && fIn i (32 + s_cn σ (n_of t)) then (if n_of i < 32 then ush (s_dg σ (n_of t) (n_of i / 4)) (nI (24 - 8 * (n_of i % 4))) &&& 255 else nI (s_cm σ (n_of t) (n_of i - 32))) else -1
-- listed
def a_listed (σ : St) (k : Int32) : Int32 := if fIn k (s_nw σ) then nI (s_wl σ (n_of k)) else -1
-- needs
def s_nf (σ : St) (t m : Nat) : Nat → Nat → Nat
  | 0, k => k
  | n + 1, k => if s_nd σ t k = m then k else s_nf σ t m n (k + 1)
def a_needs (σ : St) (t m : Int32) : Int32 := if fIn t (s_nt σ) && fIn m 10 then nI (s_nf σ (n_of t) (n_of m) (s_dn σ (n_of t)) 0) else -1
def n_needs (σ : St) (t m : Int32) : St := if fIn t (s_nt σ) && fIn m 10 && decide (s_nf σ (n_of t) (n_of m) (s_dn σ (n_of t)) 0 = s_dn σ (n_of t)) then (σ.1, σ.2.1, (s_mk σ, s_ln σ, s_by σ, s_cn σ, s_cm σ, va_up (s_dn σ) (n_of t) (s_dn σ (n_of t) + 1), f2 (s_nd σ) (n_of t) (s_dn σ (n_of t)) (n_of m)), σ.2.2.2) else σ
/-- what every state that calls lead to keeps -/
def Inv (σ : St) : Prop :=
  (s_np σ ≤ 24 ∧ s_nr σ ≤ 100 ∧ s_nt σ ≤ 16 ∧ s_ns σ ≤ 400 ∧ s_nw σ = fb_ct (s_sg σ) (s_ns σ) ∧ 0 ≤ s_ck σ ∧ s_ck σ ≤ cLAST) ∧
  (∀ i, i < s_nr σ → s_rp σ i < 24 ∧ s_rk σ i < 10) ∧
  (∀ t, s_ln σ t ≤ 1000 ∧ s_cn σ t ≤ 200 ∧ s_dn σ t ≤ 10 ∧ s_mk σ t < 24 ∧ (s_nt σ ≤ t → s_ln σ t = 0 ∧ s_cn σ t = 0 ∧ s_dn σ t = 0)) ∧
  (∀ t j, s_by σ t j < 256 ∧ s_cm σ t j < 256 ∧ s_nd σ t j < 10) ∧
  (∀ t i j, i < j → j < s_dn σ t → s_nd σ t i ≠ s_nd σ t j) ∧
  (∀ i, i < s_ns σ → s_st σ i < s_nt σ ∧ s_sp σ i < 24 ∧ s_sm σ i < 10) ∧
  (∀ i, s_ns σ ≤ i → s_sg σ i = false) ∧ (∀ j, s_wl σ j < 400) ∧
  (∀ m, m < 10 → ∀ k, cmx (s_bh σ) k m m = false)
