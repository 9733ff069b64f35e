def bt (x : Int32) (i : Nat) : Bool := x.toBitVec.getLsbD i
theorem b_ext {x y : Int32} (h : ∀ i, i < 32 → bt x i = bt y i) : x = y := Int32.toBitVec_inj.mp (BitVec.eq_of_getLsbD_eq (fun i hi => h i hi))
theorem b_or (x y : Int32) (i : Nat) : bt (x ||| y) i = (bt x i || bt y i) := by unfold bt; rw [Int32.toBitVec_or, BitVec.getLsbD_or]
theorem b_and (x y : Int32) (i : Nat) : bt (x &&& y) i = (bt x i && bt y i) := by unfold bt; rw [Int32.toBitVec_and, BitVec.getLsbD_and]
theorem b_xor (x y : Int32) (i : Nat) : bt (x ^^^ y) i = (bt x i ^^ bt y i) := by unfold bt; rw [Int32.toBitVec_xor, BitVec.getLsbD_xor]
theorem b_big {x : Int32} {i : Nat} (h : 32 ≤ i) : bt x i = false := BitVec.getLsbD_of_ge _ _ h
theorem b_255 (i : Nat) : bt 255 i = decide (i < 8) := by
  rcases Nat.lt_or_ge i 32 with h | h
  · exact (by decide +kernel : ∀ i, i < 32 → bt 255 i = decide (i < 8)) i h
  · rw [b_big h, decide_eq_false (by omega)]
theorem b_65535 (i : Nat) : bt 65535 i = decide (i < 16) := by
  rcases Nat.lt_or_ge i 32 with h | h
  · exact (by decide +kernel : ∀ i, i < 32 → bt 65535 i = decide (i < 16)) i h
  · rw [b_big h, decide_eq_false (by omega)]
theorem b_m1 : ∀ i, i < 32 → bt (-1) i = true := by decide +kernel
theorem b_0 (i : Nat) : bt 0 i = false := BitVec.getLsbD_zero
theorem s_l : ∀ n, n < 32 → ((nI n &&& 31).toBitVec.smod 32).toNat = n := by decide +kernel
theorem s_u : ∀ n, n < 32 → (((nI n).toUInt32 &&& Int32.toUInt32 31).toBitVec % 32).toNat = n := by decide +kernel
theorem b_shl (n : Nat) (hn : n < 32) (x : Int32) {i : Nat} (hi : i < 32) : bt (x <<< (nI n &&& 31)) i = (decide (n ≤ i) && bt x (i - n)) := by
  unfold bt
  rw [Int32.toBitVec_shiftLeft]
  show (x.toBitVec <<< ((nI n &&& 31).toBitVec.smod 32).toNat).getLsbD i = _
  rw [s_l n hn, BitVec.getLsbD_shiftLeft]
  rcases Nat.lt_or_ge i n with h | h
  · simp [h, Nat.not_le.mpr h]
  · simp [hi, h, Nat.not_lt.mpr h]
theorem b_ushr (n : Nat) (hn : n < 32) (x : Int32) (i : Nat) : bt ((x.toUInt32 >>> ((nI n).toUInt32 &&& Int32.toUInt32 31)).toInt32) i = bt x (n + i) := by
  show (x.toUInt32 >>> ((nI n).toUInt32 &&& Int32.toUInt32 31)).toBitVec.getLsbD i = x.toUInt32.toBitVec.getLsbD (n + i)
  rw [UInt32.toBitVec_shiftRight]
  show (x.toUInt32.toBitVec >>> (((nI n).toUInt32 &&& Int32.toUInt32 31).toBitVec % 32).toNat).getLsbD i = _
  rw [s_u n hn, BitVec.getLsbD_ushiftRight]
theorem b_sshr (n : Nat) (hn : n < 32) (x : Int32) {i : Nat} (hi : i < 32) : bt (x >>> (nI n &&& 31)) i = if n + i < 32 then bt x (n + i) else bt x 31 := by
  unfold bt
  rw [Int32.toBitVec_shiftRight]
  show (x.toBitVec.sshiftRight ((nI n &&& 31).toBitVec.smod 32).toNat).getLsbD i = _
  rw [s_l n hn, BitVec.getLsbD_sshiftRight, BitVec.msb_eq_getLsbD_last]
  simp [hi]
theorem b_shl8 (x : Int32) {i : Nat} (hi : i < 32) : bt (x <<< ((8 : Int32) &&& 31)) i = (decide (8 ≤ i) && bt x (i - 8)) := b_shl 8 (by omega) x hi
theorem b_shl16 (x : Int32) {i : Nat} (hi : i < 32) : bt (x <<< ((16 : Int32) &&& 31)) i = (decide (16 ≤ i) && bt x (i - 16)) := b_shl 16 (by omega) x hi
theorem b_shl24 (x : Int32) {i : Nat} (hi : i < 32) : bt (x <<< ((24 : Int32) &&& 31)) i = (decide (24 ≤ i) && bt x (i - 24)) := b_shl 24 (by omega) x hi
theorem b_sshr8 (x : Int32) {i : Nat} (hi : i < 32) : bt (x >>> ((8 : Int32) &&& 31)) i = if 8 + i < 32 then bt x (8 + i) else bt x 31 := b_sshr 8 (by omega) x hi
theorem fb_holes : ∀ (m n : Nat) (f : Nat → Nat), (∀ i, i < n → f i < m) → (∀ i j, i < j → j < n → f i ≠ f j) → n ≤ m := by
  intro m
  induction m with
  | zero =>
    intro n f h1 _
    rcases Nat.eq_zero_or_pos n with h | h
    · omega
    · exact absurd (h1 0 h) (Nat.not_lt_zero _)
  | succ m ih =>
    intro n f h1 h2
    by_cases hx : ∃ i, i < n ∧ f i = m
    · obtain ⟨a, ha, hfa⟩ := hx
      have hg := ih (n - 1) (fun i => if i < a then f i else f (i + 1)) (by
        intro i hi
        by_cases q : i < a
        · simp only [if_pos q]
          have b1 := h1 i (by omega)
          have b2 := h2 i a q ha
          omega
        · simp only [if_neg q]
          have b1 := h1 (i + 1) (by omega)
          have b2 := h2 a (i + 1) (by omega) (by omega)
          omega) (by
        intro i j hij hj
        by_cases q : i < a
        · by_cases r : j < a
          · simp only [if_pos q, if_pos r]
            exact h2 i j hij (by omega)
          · simp only [if_pos q, if_neg r]
            exact h2 i (j + 1) (by omega) (by omega)
        · have r : ¬ j < a := by omega
          simp only [if_neg q, if_neg r]
          exact h2 (i + 1) (j + 1) (by omega) (by omega))
      omega
    · have hg := ih n f (fun i hi => by
        have b1 := h1 i hi
        have b2 : f i ≠ m := fun e => hx ⟨i, hi, e⟩
        omega) h2
      omega
def fb_ct (p : Nat → Bool) : Nat → Nat
  | 0 => 0
  | n + 1 => fb_ct p n + (if p n then 1 else 0)
theorem fb_ct_succ (p : Nat → Bool) (n : Nat) : fb_ct p (n + 1) = fb_ct p n + (if p n then 1 else 0) := rfl
theorem fb_ct_le (p : Nat → Bool) : ∀ n, fb_ct p n ≤ n
  | 0 => Nat.le_refl _
  | n + 1 => by
    have h := fb_ct_le p n
    rw [fb_ct_succ]
    split <;> omega
theorem fb_ct_step (p : Nat → Bool) (m : Nat) : ∀ n, fb_ct p m ≤ fb_ct p (m + n)
  | 0 => Nat.le_refl _
  | n + 1 => by
    have h := fb_ct_step p m n
    show fb_ct p m ≤ fb_ct p (m + n + 1)
    rw [fb_ct_succ]
    omega
theorem fb_ct_mono (p : Nat → Bool) {m n : Nat} (h : m ≤ n) : fb_ct p m ≤ fb_ct p n := by
  have := fb_ct_step p m (n - m)
  rwa [Nat.add_sub_cancel' h] at this
theorem fb_ct_cong {p q : Nat → Bool} : ∀ {n : Nat}, (∀ k, k < n → p k = q k) → fb_ct p n = fb_ct q n
  | 0, _ => rfl
  | n + 1, h => by
    rw [fb_ct_succ, fb_ct_succ, fb_ct_cong (fun k hk => h k (by omega)), h n (by omega)]
theorem fb_ct_out (p : Nat → Bool) (b : Bool) {i n : Nat} (h : n ≤ i) : fb_ct (fun k => if k = i then b else p k) n = fb_ct p n :=
  fb_ct_cong fun k hk => if_neg (by omega)
theorem fb_ct_upd (p : Nat → Bool) (b : Bool) {i : Nat} : ∀ {n : Nat}, i < n → fb_ct (fun k => if k = i then b else p k) n + (if p i then 1 else 0) = fb_ct p n + (if b then 1 else 0)
  | 0, h => absurd h (Nat.not_lt_zero i)
  | n + 1, h => by
    rw [fb_ct_succ, fb_ct_succ]
    rcases Nat.lt_or_ge i n with q | q
    · have := fb_ct_upd p b q
      have e : (if n = i then b else p n) = p n := if_neg (by omega)
      rw [e]
      omega
    · have e : i = n := by omega
      subst e
      rw [fb_ct_out p b (Nat.le_refl _)]
      simp only [if_true]
      omega
theorem fb_ct_sub {p q : Nat → Bool} : ∀ {n : Nat}, (∀ k, k < n → p k = true → q k = true) → fb_ct p n ≤ fb_ct q n
  | 0, _ => Nat.le_refl _
  | n + 1, h => by
    have h1 := fb_ct_sub (n := n) (p := p) (q := q) (fun k hk => h k (by omega))
    have h2 := h n (by omega)
    rw [fb_ct_succ, fb_ct_succ]
    cases hp : p n <;> cases hq : q n <;> simp_all <;> omega
/-! SHA-256, of bytes b 0 .. b (n - 1) -/
def trn (v k : Int32) : Int32 := (v.toUInt32 >>> (k.toUInt32 &&& Int32.toUInt32 31)).toInt32 ||| (v <<< ((32 - k) &&& 31))
def ush (x k : Int32) : Int32 := (x.toUInt32 >>> (k.toUInt32 &&& Int32.toUInt32 31)).toInt32
def sg0 (x : Int32) : Int32 := (trn x 7 ^^^ trn x 18) ^^^ ush x 3
def sg1 (x : Int32) : Int32 := (trn x 17 ^^^ trn x 19) ^^^ ush x 10
def shV (f : Nat → Int32) (t : Nat) : Int32 := sg1 (f (t - 2)) + f (t - 7) + sg0 (f (t - 15)) + f (t - 16)
def shSf (f : Nat → Int32) : Nat → Nat → Int32
  | 0 => f
  | n + 1 => upd (shSf f n) (16 + n) (shV (shSf f n) (16 + n))
def bs0 (a : Int32) : Int32 := (trn a 2 ^^^ trn a 13) ^^^ trn a 22
def bs1 (e : Int32) : Int32 := (trn e 6 ^^^ trn e 11) ^^^ trn e 25
def chx (e f g : Int32) : Int32 := (e &&& f) ^^^ ((e ^^^ (-1)) &&& g)
def mjx (a b c : Int32) : Int32 := ((a &&& b) ^^^ (a &&& c)) ^^^ (b &&& c)
abbrev S8 : Type := Int32 × Int32 × Int32 × Int32 × Int32 × Int32 × Int32 × Int32
def rd1 (e f g h k w : Int32) : Int32 := h + bs1 e + chx e f g + k + w
def rnd (x : S8) (k w : Int32) : S8 := match x with
  | (a, b, c, d, e, f, g, h) => (rd1 e f g h k w + bs0 a + mjx a b c, a, b, c, d + rd1 e f g h k w, e, f, g)
def rds (x : S8) (w : Nat → Int32) : Nat → S8
  | 0 => x
  | t + 1 => rnd (rds x w t) (shK t) (w t)
def at8 (x : S8) (j : Nat) : Int32 := match x with
  | (a, b, c, d, e, f, g, h) => match j with
    | 0 => a
    | 1 => b
    | 2 => c
    | 3 => d
    | 4 => e
    | 5 => f
    | 6 => g
    | _ => h
def s8 (f : Nat → Int32) : S8 := (f 0, f 1, f 2, f 3, f 4, f 5, f 6, f 7)
def pdb (b : Nat → Nat) (n i : Nat) : Int32 := if i < n then nI (b i) else if i = n then 128 else 0
def wd4 (p : Nat → Int32) (i : Nat) : Int32 := (((p i <<< ((24 : Int32) &&& 31)) ||| (p (i + 1) <<< ((16 : Int32) &&& 31))) ||| (p (i + 2) <<< ((8 : Int32) &&& 31))) ||| p (i + 3)
def shW (b : Nat → Nat) (n blk j : Nat) : Int32 := if blk = (n + 8) / 64 ∧ j = 15 then nI (n * 8) else wd4 (pdb b n) (blk * 64 + 4 * j)
def shB (b : Nat → Nat) (n : Nat) : Nat → Nat → Int32
  | 0 => shH
  | k + 1 => fun j => shB b n k j + at8 (rds (s8 (shB b n k)) (shSf (shW b n k) 48) 64) j
def shD (b : Nat → Nat) (n j : Nat) : Int32 := shB b n ((n + 8) / 64 + 1) j
theorem pdb_congr {b b' : Nat → Nat} {n : Nat} (h : ∀ i, i < n → b i = b' i) : pdb b n = pdb b' n := by
  funext i
  unfold pdb
  by_cases hi : i < n
  · rw [if_pos hi, if_pos hi, h i hi]
  · rw [if_neg hi, if_neg hi]
theorem shW_congr {b b' : Nat → Nat} {n : Nat} (h : ∀ i, i < n → b i = b' i) (k : Nat) : shW b n k = shW b' n k := by
  funext j
  unfold shW
  rw [pdb_congr h]
theorem shB_congr {b b' : Nat → Nat} {n : Nat} (h : ∀ i, i < n → b i = b' i) : ∀ k, shB b n k = shB b' n k
  | 0 => rfl
  | k + 1 => by
    unfold shB
    rw [shB_congr h k, shW_congr h k]
theorem shD_congr {b b' : Nat → Nat} {n : Nat} (h : ∀ i, i < n → b i = b' i) (j : Nat) : shD b n j = shD b' n j := by
  unfold shD
  rw [shB_congr h]
theorem shSf_at {f g : Nat → Int32} : ∀ (n : Nat), (∀ t, t < 16 → f t = g t) → ∀ t, t < 16 + n → shSf f n t = shSf g n t
  | 0, h, t, ht => h t ht
  | n + 1, h, t, ht => by
    have ih := shSf_at n h
    unfold shSf upd
    by_cases e : t = 16 + n
    · subst e
      simp only [if_true]
      unfold shV
      rw [ih _ (by omega), ih _ (by omega), ih _ (by omega), ih _ (by omega)]
    · rw [if_neg e, if_neg e]
      exact ih t (by omega)
theorem rds_at {x : S8} {f g : Nat → Int32} : ∀ (n : Nat), (∀ t, t < n → f t = g t) → rds x f n = rds x g n
  | 0, _ => rfl
  | n + 1, h => by
    unfold rds
    rw [rds_at n (fun t ht => h t (by omega)), h n (by omega)]
/-! masks of ten bits -/
def msk (p : Nat → Bool) : Nat → Int32
  | 0 => 0
  | n + 1 => if p n then msk p n ||| ((1 : Int32) <<< (nI n &&& 31)) else msk p n
def hbt (x y : Int32) : Bool := decide ((x.toUInt32 >>> (y.toUInt32 &&& Int32.toUInt32 31)).toInt32 &&& 1 = 1)
theorem bt_1 (i : Nat) : bt 1 i = decide (i = 0) := by
  rcases Nat.lt_or_ge i 32 with h | h
  · exact (by decide +kernel : ∀ i, i < 32 → bt 1 i = decide (i = 0)) i h
  · rw [b_big h, decide_eq_false (by omega)]
theorem bt_one (n : Nat) (hn : n < 32) (i : Nat) (hi : i < 32) : bt ((1 : Int32) <<< (nI n &&& 31)) i = decide (i = n) := by
  rw [b_shl n hn 1 hi, bt_1]
  by_cases h : i = n
  · subst h; simp
  · rw [decide_eq_false h]
    by_cases h2 : n ≤ i
    · rw [decide_eq_true h2, decide_eq_false (by omega)]; rfl
    · rw [decide_eq_false h2]; rfl
theorem bt_msk (p : Nat → Bool) : ∀ (n : Nat), n ≤ 32 → ∀ i, i < 32 → bt (msk p n) i = (decide (i < n) && p i)
  | 0, _, i, _ => by rw [msk, b_0, decide_eq_false (by omega)]; rfl
  | n + 1, hn, i, hi => by
    have ih := bt_msk p n (by omega) i hi
    unfold msk
    by_cases hp : p n = true
    · rw [if_pos hp, b_or, ih, bt_one n (by omega) i hi]
      by_cases h : i = n
      · subst h; simp [hp]
      · rw [decide_eq_false h, Bool.or_false]
        by_cases h2 : i < n
        · rw [decide_eq_true h2, decide_eq_true (by omega)]
        · rw [decide_eq_false h2, decide_eq_false (by omega)]
    · rw [if_neg hp, ih]
      by_cases h : i = n
      · subst h; simp [Bool.not_eq_true _ |>.mp hp]
      · by_cases h2 : i < n
        · rw [decide_eq_true h2, decide_eq_true (by omega)]
        · rw [decide_eq_false h2, decide_eq_false (by omega)]
theorem hbt_bt {x : Int32} {n : Nat} (hn : n < 32) : hbt x (nI n) = bt x n := by
  unfold hbt
  have key : ∀ y : Int32, (y &&& 1 = 1) ↔ bt y 0 = true := by
    intro y
    constructor
    · intro h
      have := congrArg (fun z => bt z 0) h
      simp only [b_and, bt_1] at this
      simpa using this
    · intro h
      apply b_ext
      intro i hi
      rw [b_and, bt_1]
      by_cases e : i = 0
      · subst e; simp [h]
      · simp [e]
  have k2 := key ((x.toUInt32 >>> ((nI n).toUInt32 &&& Int32.toUInt32 31)).toInt32)
  rw [b_ushr n hn x 0] at k2
  rw [Nat.add_zero] at k2
  cases hb : bt x n
  · rw [hb] at k2
    exact decide_eq_false (fun h => by have := k2.mp h; cases this)
  · rw [hb] at k2
    exact decide_eq_true (k2.mpr rfl)
theorem hbt_msk {p : Nat → Bool} {n : Nat} (hn : n < 10) : hbt (msk p 10) (nI n) = p n := by
  rw [hbt_bt (by omega), bt_msk p 10 (by omega) n (by omega), decide_eq_true hn, Bool.true_and]
theorem msk_or {p : Nat → Bool} {n : Nat} (hn : n < 10) : msk p 10 ||| ((1 : Int32) <<< (nI n &&& 31)) = msk (va_up p n true) 10 := by
  apply b_ext
  intro i hi
  rw [b_or, bt_msk p 10 (by omega) i hi, bt_msk _ 10 (by omega) i hi, bt_one n (by omega) i hi]
  by_cases h : i = n
  · subst h; simp [va_up, hn]
  · simp [va_up, h]
theorem msk_orm {p q : Nat → Bool} : msk p 10 ||| msk q 10 = msk (fun i => p i || q i) 10 := by
  apply b_ext
  intro i hi
  rw [b_or, bt_msk p 10 (by omega) i hi, bt_msk q 10 (by omega) i hi, bt_msk _ 10 (by omega) i hi]
  cases decide (i < 10) <;> simp
theorem msk_congr {p q : Nat → Bool} (h : ∀ i, i < 10 → p i = q i) : msk p 10 = msk q 10 := by
  apply b_ext
  intro i hi
  rw [bt_msk p 10 (by omega) i hi, bt_msk q 10 (by omega) i hi]
  by_cases h2 : i < 10
  · rw [h i h2]
  · rw [decide_eq_false h2]; rfl
theorem msk_0 : msk (fun _ => false) 10 = 0 := by decide +kernel
theorem msk_no {p q : Nat → Bool} : msk p 10 &&& (msk q 10 ^^^ (-1)) = 0 ↔ ∀ i, i < 10 → p i = true → q i = true := by
  constructor
  · intro h i hi hp
    have := congrArg (fun z => bt z i) h
    simp only [b_and, b_xor, b_0] at this
    rw [bt_msk p 10 (by omega) i (by omega), bt_msk q 10 (by omega) i (by omega), b_m1 i (by omega), decide_eq_true hi, hp] at this
    simpa using this
  · intro h
    apply b_ext
    intro i hi
    rw [b_and, b_xor, b_0, bt_msk p 10 (by omega) i hi, bt_msk q 10 (by omega) i hi, b_m1 i hi]
    by_cases h2 : i < 10
    · rw [decide_eq_true h2]
      cases hp : p i
      · simp
      · rw [h i h2 hp]; simp
    · rw [decide_eq_false h2]; simp
