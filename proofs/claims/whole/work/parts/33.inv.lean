/-! what every call keeps -/
theorem va_all {P : Nat → Prop} {f : Nat → Nat} {n v i : Nat} (hv : P v) (hf : i ≠ n → P (f i)) : P (va_up f n v i) := by
  by_cases e : i = n
  · rw [e, va_up_self]; exact hv
  · rw [va_up_ne _ _ e]; exact hf e
theorem f2_all {P : Nat → Prop} {g : Nat → Nat → Nat} {k i v a b : Nat} (hv : P v) (hg : P (g a b)) : P (f2 g k i v a b) := by
  unfold f2
  split
  · split
    · exact hv
    · exact hg
  · exact hg
theorem fst_ex {P : Nat → Prop} : ∀ {j : Nat}, P j → ∃ i, i ≤ j ∧ P i ∧ ∀ k, k < i → ¬ P k := by
  intro j
  induction j using Nat.strongRecOn with
  | ind j ih =>
    intro h
    by_cases hx : ∃ k, k < j ∧ P k
    · obtain ⟨k, hk, hp⟩ := hx
      obtain ⟨i, a1, a2, a3⟩ := ih k hk hp
      exact ⟨i, by omega, a2, a3⟩
    · exact ⟨j, Nat.le_refl _, h, fun k hk hp => hx ⟨k, hk, hp⟩⟩
theorem Inv_0 : Inv s_0 :=
  ⟨⟨Nat.zero_le _, Nat.zero_le _, Nat.zero_le _, Nat.zero_le _, rfl, (show (0 : Int64) ≤ 0 by decide), (show (0 : Int64) ≤ cLAST by decide)⟩, fun i h => absurd h (Nat.not_lt_zero i), fun t => ⟨Nat.zero_le _, Nat.zero_le _, Nat.zero_le _, (show 0 < 24 by decide), fun _ => ⟨rfl, rfl, rfl⟩⟩, fun t j => ⟨(show 0 < 256 by decide), (show 0 < 256 by decide), (show 0 < 10 by decide)⟩, fun t i j _ h => absurd h (Nat.not_lt_zero j), fun i h => absurd h (Nat.not_lt_zero i), fun _ _ => rfl, fun _ => (show 0 < 400 by decide), fun m _ k => cmx_00 k m m⟩
theorem Inv_person {σ : St} (hI : Inv σ) : Inv (n_person σ) := by
  by_cases h : s_np σ = 24
  · rw [(pe_full h).2]; exact hI
  · rw [(pe_ok h).2]
    obtain ⟨⟨hnp, h2⟩, hr⟩ := hI
    exact ⟨⟨(show s_np σ + 1 ≤ 24 by omega), h2⟩, hr⟩
theorem Inv_role {σ : St} {p r : Int32} {f t : Int64} (hI : Inv σ) : Inv (n_role σ p r f t) := by
  cases h : a_role σ p r f t with
  | false => rw [ro_n h]; exact hI
  | true =>
    have h9 := h
    simp only [a_role, Bool.and_eq_true, decide_eq_true_eq] at h9
    obtain ⟨⟨⟨⟨⟨h1, h2⟩, -⟩, -⟩, -⟩, h6⟩ := h9
    obtain ⟨⟨hnp, hnr, hnt, hns, hnw, hck0, hck1⟩, hIr, hIt, hIb, hIn, hIs, hIg, hIw, hIa⟩ := hI
    obtain ⟨a, ha, rfl⟩ := fIn_t h1 (by omega)
    obtain ⟨b, hb, rfl⟩ := fIn_t h2 (by omega)
    rw [ro_m h (by omega) (by omega)]
    refine ⟨⟨hnp, (show s_nr σ + 1 ≤ 100 by omega), hnt, hns, hnw, hck0, hck1⟩, fun i hi => ⟨?_, ?_⟩, hIt, hIb, hIn, hIs, hIg, hIw, hIa⟩
    · have hi : i < s_nr σ + 1 := hi
      exact va_all (P := fun z => z < 24) (show a < 24 by omega) (fun e => (hIr i (by omega)).1)
    · have hi : i < s_nr σ + 1 := hi
      exact va_all (P := fun z => z < 10) hb (fun e => (hIr i (by omega)).2)
theorem Inv_thing {σ : St} {p : Int32} (hI : Inv σ) : Inv (n_thing σ p) := by
  cases h : fIn p (s_np σ) with
  | false => rw [(th_no h).2]; exact hI
  | true =>
    by_cases h2 : s_nt σ = 16
    · rw [(th_full h h2).2]; exact hI
    · obtain ⟨⟨hnp, hnr, hnt, hns, hnw, hck0, hck1⟩, hIr, hIt, hIb, hIn, hIs, hIg, hIw, hIa⟩ := hI
      obtain ⟨a, ha, rfl⟩ := fIn_t h (by omega)
      rw [(th_ok h h2 (by omega)).2]
      refine ⟨⟨hnp, hnr, (show s_nt σ + 1 ≤ 16 by omega), hns, hnw, hck0, hck1⟩, hIr, fun t => ?_, hIb, hIn, fun i hi => ?_, hIg, hIw, hIa⟩
      · obtain ⟨b1, b2, b3, b4, b5⟩ := hIt t
        refine ⟨b1, b2, b3, va_all (P := fun z => z < 24) (show a < 24 by omega) (fun _ => b4), fun h9 => b5 ?_⟩
        have h9 : s_nt σ + 1 ≤ t := h9
        omega
      · obtain ⟨b1, b2, b3⟩ := hIs i hi
        exact ⟨(show s_st σ i < s_nt σ + 1 by omega), b2, b3⟩
theorem Inv_byteOf {σ : St} {t u : Int32} (hI : Inv σ) : Inv (n_byteOf σ t u) := by
  cases h : a_byteOf σ t u with
  | false => rw [bo_n h]; exact hI
  | true =>
    have h9 := h
    simp only [a_byteOf, Bool.and_eq_true, decide_eq_true_eq] at h9
    obtain ⟨⟨h1, h2⟩, h3⟩ := h9
    obtain ⟨⟨hnp, hnr, hnt, hns, hnw, hck0, hck1⟩, hIr, hIt, hIb, hIn, hIs, hIg, hIw, hIa⟩ := hI
    obtain ⟨a, ha, rfl⟩ := fIn_t h1 (by omega)
    obtain ⟨b, hb, rfl⟩ := fIn_t h2 (by omega)
    rw [n_of_nI (by omega)] at h3
    rw [bo_m h (by omega) (by omega)]
    have ha1 := (hIt a).1
    refine ⟨⟨hnp, hnr, hnt, hns, hnw, hck0, hck1⟩, hIr, fun t => ?_, fun t j => ⟨f2_all (P := fun z => z < 256) hb (hIb t j).1, (hIb t j).2⟩, hIn, hIs, hIg, hIw, hIa⟩
    obtain ⟨b1, b2, b3, b4, b5⟩ := hIt t
    refine ⟨va_all (P := fun z => z ≤ 1000) (show s_ln σ a + 1 ≤ 1000 by omega) (fun _ => b1), b2, b3, b4, fun h9 => ⟨?_, (b5 h9).2⟩⟩
    have h8 : s_nt σ ≤ t := h9
    show va_up (s_ln σ) a (s_ln σ a + 1) t = 0
    rw [va_up_ne _ _ (by omega)]
    exact (b5 h8).1
theorem Inv_comment {σ : St} {t u : Int32} {x : Int64} (hI : Inv σ) : Inv (n_comment σ t u x) := by
  cases h : a_comment σ t u x with
  | false => rw [co_n h]; exact hI
  | true =>
    have h9 := h
    simp only [a_comment, Bool.and_eq_true, decide_eq_true_eq] at h9
    obtain ⟨⟨⟨⟨h1, h2⟩, h4⟩, h5⟩, h3⟩ := h9
    simp only [isSec, Bool.and_eq_true, decide_eq_true_eq] at h4
    obtain ⟨⟨hnp, hnr, hnt, hns, hnw, hck0, hck1⟩, hIr, hIt, hIb, hIn, hIs, hIg, hIw, hIa⟩ := hI
    obtain ⟨a, ha, rfl⟩ := fIn_t h1 (by omega)
    obtain ⟨b, hb, rfl⟩ := fIn_t h2 (by omega)
    rw [n_of_nI (by omega)] at h3
    rw [co_m h (by omega) (by omega)]
    have ha1 := (hIt a).2.1
    refine ⟨⟨hnp, hnr, hnt, hns, hnw, h4.1, h4.2⟩, hIr, fun t => ?_, fun t j => ⟨(hIb t j).1, f2_all (P := fun z => z < 256) hb (hIb t j).2.1, (hIb t j).2.2⟩, hIn, hIs, hIg, hIw, hIa⟩
    obtain ⟨b1, b2, b3, b4, b5⟩ := hIt t
    refine ⟨b1, va_all (P := fun z => z ≤ 200) (show s_cn σ a + 1 ≤ 200 by omega) (fun _ => b2), b3, b4, fun h9 => ⟨(b5 h9).1, ?_, (b5 h9).2.2⟩⟩
    have h8 : s_nt σ ≤ t := h9
    show va_up (s_cn σ) a (s_cn σ a + 1) t = 0
    rw [va_up_ne _ _ (by omega)]
    exact (b5 h8).2.1
theorem Inv_sign {σ : St} {t p m : Int32} {x : Int64} (hI : Inv σ) : Inv (n_sign σ t p m x) := by
  cases h : k_sign σ t p m x with
  | false =>
    have e : n_sign σ t p m x = σ := by rw [n_sign, h]; rfl
    rw [e]; exact hI
  | true =>
    have e : n_sign σ t p m x = m_sign σ (n_of t) (n_of p) (n_of m) x := by rw [n_sign, h]; rfl
    rw [e]
    simp only [k_sign, Bool.and_eq_true, decide_eq_true_eq] at h
    obtain ⟨⟨⟨⟨⟨⟨⟨⟨⟨h1, h2⟩, h3⟩, h4⟩, -⟩, -⟩, -⟩, -⟩, -⟩, h10⟩ := h
    simp only [isSec, Bool.and_eq_true, decide_eq_true_eq] at h4
    obtain ⟨⟨hnp, hnr, hnt, hns, hnw, hck0, hck1⟩, hIr, hIt, hIb, hIn, hIs, hIg, hIw, hIa⟩ := hI
    obtain ⟨a, ha, rfl⟩ := fIn_t h1 (by omega)
    obtain ⟨b, hb, rfl⟩ := fIn_t h2 (by omega)
    obtain ⟨d, hd, rfl⟩ := fIn_t h3 (by omega)
    rw [n_of_nI (by omega), n_of_nI (by omega), n_of_nI (by omega)]
    refine ⟨⟨hnp, hnr, hnt, (show s_ns σ + 1 ≤ 400 by omega), ?_, h4.1, h4.2⟩, hIr, hIt, hIb, hIn, fun i hi => ?_, fun i hi => hIg i ?_, hIw, hIa⟩
    · show s_nw σ = fb_ct (s_sg σ) (s_ns σ + 1)
      rw [fb_ct_succ, hIg _ (Nat.le_refl _), ← hnw]
      rfl
    · have hi : i < s_ns σ + 1 := hi
      exact ⟨va_all (P := fun z => z < s_nt σ) ha (fun e => (hIs i (by omega)).1), va_all (P := fun z => z < 24) (show b < 24 by omega) (fun e => (hIs i (by omega)).2.1), va_all (P := fun z => z < 10) hd (fun e => (hIs i (by omega)).2.2)⟩
    · have hi : s_ns σ + 1 ≤ i := hi
      omega
theorem Inv_withdraw {σ : St} {i : Int32} (hI : Inv σ) : Inv (n_withdraw σ i) := by
  cases h : a_withdraw σ i with
  | false => rw [wi_n h]; exact hI
  | true =>
    have h9 := h
    simp only [a_withdraw, Bool.and_eq_true, Bool.not_eq_true'] at h9
    obtain ⟨h1, h2⟩ := h9
    obtain ⟨⟨hnp, hnr, hnt, hns, hnw, hck0, hck1⟩, hIr, hIt, hIb, hIn, hIs, hIg, hIw, hIa⟩ := hI
    obtain ⟨a, ha, rfl⟩ := fIn_t h1 (by omega)
    rw [n_of_nI (by omega)] at h2
    rw [wi_m h (by omega)]
    refine ⟨⟨hnp, hnr, hnt, hns, ?_, hck0, hck1⟩, hIr, hIt, hIb, hIn, hIs, fun j hj => ?_, fun j => va_all (P := fun z => z < 400) (show a < 400 by omega) (fun _ => hIw j), hIa⟩
    · show s_nw σ + 1 = fb_ct (va_up (s_sg σ) a true) (s_ns σ)
      have q : fb_ct (va_up (s_sg σ) a true) (s_ns σ) + 0 = fb_ct (s_sg σ) (s_ns σ) + 1 := by
        have q1 := fb_ct_upd (s_sg σ) true ha
        rw [h2] at q1
        exact q1
      omega
    · have h8 : s_ns σ ≤ j := hj
      show va_up (s_sg σ) a true j = false
      rw [va_up_ne _ _ (by omega)]
      exact hIg j h8
theorem Inv_order {σ : St} {m a : Int32} (hI : Inv σ) : Inv (n_order σ m a) := by
  cases h : a_order σ m a with
  | false => rw [or_n h]; exact hI
  | true =>
    have h9 := h
    simp only [a_order, Bool.and_eq_true, decide_eq_true_eq, Bool.not_eq_true'] at h9
    obtain ⟨⟨⟨⟨h1, h2⟩, h3⟩, -⟩, h5⟩ := h9
    obtain ⟨⟨hnp, hnr, hnt, hns, hnw, hck0, hck1⟩, hIr, hIt, hIb, hIn, hIs, hIg, hIw, hIa⟩ := hI
    obtain ⟨u, hu, rfl⟩ := fIn_t h1 (by omega)
    obtain ⟨v, hv, rfl⟩ := fIn_t h2 (by omega)
    rw [n_of_nI (by omega), n_of_nI (by omega)] at h5
    rw [or_m h (by omega) (by omega)]
    exact ⟨⟨hnp, hnr, hnt, hns, hnw, hck0, hck1⟩, hIr, hIt, hIb, hIn, hIs, hIg, hIw, or_acy hu hv (fun e => h3 (by rw [e])) hIa h5⟩
theorem Inv_needs {σ : St} {t m : Int32} (hI : Inv σ) : Inv (n_needs σ t m) := by
  cases h1 : fIn t (s_nt σ) with
  | false => rw [(ne_f (Or.inl h1)).2]; exact hI
  | true =>
    cases h2 : fIn m 10 with
    | false => rw [(ne_f (Or.inr h2)).2]; exact hI
    | true =>
      have hI0 := hI
      obtain ⟨⟨hnp, hnr, hnt, hns, hnw, hck0, hck1⟩, hIr, hIt, hIb, hIn, hIs, hIg, hIw, hIa⟩ := hI
      obtain ⟨a, ha, rfl⟩ := fIn_t h1 (by omega)
      obtain ⟨b, hb, rfl⟩ := fIn_t h2 (by omega)
      by_cases hx : ∃ j, j < s_dn σ a ∧ s_nd σ a j = b
      · obtain ⟨j, hj, hjb⟩ := hx
        obtain ⟨i, c1, c2, c3⟩ := fst_ex (P := fun j => s_nd σ a j = b) hjb
        rw [(ne_in h1 h2 (by omega) (by omega) c2 c3 (by omega)).2]
        exact hI0
      · have hno : ∀ j, j < s_dn σ a → s_nd σ a j ≠ b := fun j hj q => hx ⟨j, hj, q⟩
        have hd : s_dn σ a ≠ 10 := fun q => hx (ne_ten hI0 hb q)
        have hd1 := (hIt a).2.2.1
        rw [(ne_new h1 h2 (by omega) (by omega) hno).2]
        refine ⟨⟨hnp, hnr, hnt, hns, hnw, hck0, hck1⟩, hIr, fun t => ?_, fun t j => ⟨(hIb t j).1, (hIb t j).2.1, f2_all (P := fun z => z < 10) hb (hIb t j).2.2⟩, fun t i j hij hj => ?_, hIs, hIg, hIw, hIa⟩
        · obtain ⟨b1, b2, b3, b4, b5⟩ := hIt t
          refine ⟨b1, b2, va_all (P := fun z => z ≤ 10) (show s_dn σ a + 1 ≤ 10 by omega) (fun _ => b3), b4, fun h9 => ⟨(b5 h9).1, (b5 h9).2.1, ?_⟩⟩
          have h8 : s_nt σ ≤ t := h9
          show va_up (s_dn σ) a (s_dn σ a + 1) t = 0
          rw [va_up_ne _ _ (by omega)]
          exact (b5 h8).2.2
        · have hj : j < va_up (s_dn σ) a (s_dn σ a + 1) t := hj
          show f2 (s_nd σ) a (s_dn σ a) b t i ≠ f2 (s_nd σ) a (s_dn σ a) b t j
          by_cases e : t = a
          · rw [e] at hj ⊢
            rw [va_up_self] at hj
            by_cases e2 : j = s_dn σ a
            · rw [e2, f2_s, f2_i (by omega)]
              exact hno i (by omega)
            · rw [f2_i e2, f2_i (by omega)]
              exact hIn a i j hij (by omega)
          · rw [va_up_ne _ _ e] at hj
            rw [f2_k e, f2_k e]
            exact hIn t i j hij hj
