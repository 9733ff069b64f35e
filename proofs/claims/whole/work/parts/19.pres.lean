/-! what the class's cells keep of a state when a few of them change -/
def sk (k : Nat) (w w1 : FW) : Prop := ∀ i, w1.2 k i = w.2 k i ∧ w1.1 k i = w.1 k i
theorem sk_rf {k : Nat} {w : FW} : sk k w w := fun _ => ⟨rfl, rfl⟩
theorem sk_set {k k0 i : Nat} {e : FE} {w w1 : FW} (h : sk k w w1) (hk : k ≠ k0) : sk k w (fset w1 k0 i e) := fun j => ⟨(fset_ne hk).trans (h j).1, (h j).2⟩
theorem sk_new {k k0 i q : Nat} {e : FE} {w w1 : FW} (h : sk k w w1) (hk : k ≠ k0) : sk k w (fnew w1 k0 i e q) := fun j => ⟨(fnew_ne hk).trans (h j).1, (fnew_ane hk).trans (h j).2⟩
theorem sk_tr {k : Nat} {a b c : FW} (h1 : sk k a b) (h2 : sk k b c) : sk k a c := fun j => ⟨(h2 j).1.trans (h1 j).1, (h2 j).2.trans (h1 j).2⟩
theorem RcR_c {σ : St} {w w1 : FW} (h : RcR σ w) (h1 : sk 1 w w1) (h10 : sk 10 w w1) : RcR σ w1 := by
  obtain ⟨f, a1, a2, a3⟩ := h
  exact ⟨f, (h1 0).1.trans a1, fun i hi => ⟨by rw [(h10 i).2]; exact (a2 i hi).1, (h10 i).1.trans (a2 i hi).2⟩, fun i hi => (h10 i).1.trans (a3 i hi)⟩
theorem Th_c {σ : St} {w w1 : FW} {t : Nat} (h : Th σ w t) (hk : ∀ k, 11 ≤ k → k ≤ 15 → w1.2 k t = w.2 k t ∧ w1.1 k t = w.1 k t) : Th σ w1 t := by
  obtain ⟨b, d, c, n, z, h1, h2, h3, h4, h5, h6⟩ := h
  refine ⟨b, d, c, n, z, ?_, (hk 12 (by omega) (by omega)).1.trans h2, (hk 13 (by omega) (by omega)).1.trans h3, (hk 14 (by omega) (by omega)).1.trans h4, (hk 15 (by omega) (by omega)).1.trans h5, h6⟩
  rw [(hk 11 (by omega) (by omega)).1, h1]
  show some (oO 3 [_, .ref (w.1 12 t), _, .ref (w.1 13 t), _, .ref (w.1 14 t), _, .ref (w.1 15 t), _]) = some (oO 3 [_, .ref (w1.1 12 t), _, .ref (w1.1 13 t), _, .ref (w1.1 14 t), _, .ref (w1.1 15 t), _])
  rw [(hk 12 (by omega) (by omega)).2, (hk 13 (by omega) (by omega)).2, (hk 14 (by omega) (by omega)).2, (hk 15 (by omega) (by omega)).2]
theorem Th_eq {σ σ1 : St} {w : FW} {t : Nat} (h : Th σ w t) (e1 : s_mk σ1 t = s_mk σ t) (e2 : s_ln σ1 t = s_ln σ t) (e3 : s_by σ1 t = s_by σ t) (e4 : s_cn σ1 t = s_cn σ t) (e5 : s_cm σ1 t = s_cm σ t) (e6 : s_dn σ1 t = s_dn σ t) (e7 : s_nd σ1 t = s_nd σ t) : Th σ1 w t := by
  obtain ⟨b, d, c, n, z, h1, h2, h3, h4, h5, h6, h7, h8, h9⟩ := h
  refine ⟨b, d, c, n, z, ?_, h2, h3, h4, h5, ?_, ?_, ?_, ?_⟩
  · rw [h1]
    show some (oO 3 [.int (nI (s_mk σ t)), _, .int (nI (s_ln σ t)), _, _, _, .int (nI (s_cn σ t)), _, .int (nI (s_dn σ t))]) = some (oO 3 [.int (nI (s_mk σ1 t)), _, .int (nI (s_ln σ1 t)), _, _, _, .int (nI (s_cn σ1 t)), _, .int (nI (s_dn σ1 t))])
    rw [e1, e2, e4, e6]
  · rw [e2, e3]; exact h6
  · rw [e4, e5]; exact h7
  · rw [e6, e7]; exact h8
  · unfold s_dg
    rw [e2, e3]; exact h9
theorem RcT_c {σ : St} {w w1 : FW} (h : RcT σ w) (h2 : sk 2 w w1) (h11 : sk 11 w w1) (h12 : sk 12 w w1) (h13 : sk 13 w w1) (h14 : sk 14 w w1) (h15 : sk 15 w w1) : RcT σ w1 := by
  obtain ⟨⟨f, a1, a2⟩, a3, a4⟩ := h
  refine ⟨⟨f, (h2 0).1.trans a1, fun t ht => by rw [(h11 t).2]; exact a2 t ht⟩, fun t ht => Th_c (a3 t ht) ?_, fun t ht => ?_⟩
  · intro k b1 b2
    rcases (show k = 11 ∨ k = 12 ∨ k = 13 ∨ k = 14 ∨ k = 15 by omega) with rfl | rfl | rfl | rfl | rfl
    · exact h11 t
    · exact h12 t
    · exact h13 t
    · exact h14 t
    · exact h15 t
  · obtain ⟨b1, b2, b3, b4, b5⟩ := a4 t ht
    exact ⟨(h11 t).1.trans b1, (h12 t).1.trans b2, (h13 t).1.trans b3, (h14 t).1.trans b4, (h15 t).1.trans b5⟩
theorem RcS_c {σ : St} {w w1 : FW} (h : RcS σ w) (h3 : sk 3 w w1) (h16 : sk 16 w w1) (h17 : sk 17 w w1) (h11 : ∀ i, i < s_ns σ → w1.1 11 (s_st σ i) = w.1 11 (s_st σ i)) : RcS σ w1 := by
  obtain ⟨⟨f, a1, a2⟩, a3, a4⟩ := h
  refine ⟨⟨f, (h3 0).1.trans a1, fun i hi => by rw [(h16 i).2]; exact a2 i hi⟩, fun i hi => ?_, fun i hi => ⟨(h16 i).1.trans (a4 i hi).1, (h17 i).1.trans (a4 i hi).2⟩⟩
  obtain ⟨b1, d, b2, b3⟩ := a3 i hi
  refine ⟨?_, d, (h17 i).1.trans b2, b3⟩
  rw [(h16 i).1, b1]
  show some (oO 2 [.ref (w.1 11 (s_st σ i)), _, _, .ref (w.1 17 i), _]) = some (oO 2 [.ref (w1.1 11 (s_st σ i)), _, _, .ref (w1.1 17 i), _])
  rw [h11 i hi, (h17 i).2]
theorem RcW_c {σ : St} {w w1 : FW} (h : RcW σ w) (h4 : sk 4 w w1) : RcW σ w1 := by
  obtain ⟨f, a1, a2⟩ := h
  exact ⟨f, (h4 0).1.trans a1, a2⟩
theorem RcO_c {σ : St} {w w1 : FW} (h : RcO σ w) (h5 : sk 5 w w1) (h6 : sk 6 w w1) : RcO σ w1 := by
  obtain ⟨f, g, a1, a2, a3⟩ := h
  exact ⟨f, g, (h5 0).1.trans a1, (h6 0).1.trans a2, a3⟩
theorem RcH_c {w w1 : FW} (h : RcH w) (h7 : sk 7 w w1) (h8 : sk 8 w w1) (h9 : sk 9 w w1) : RcH w1 := by
  obtain ⟨a1, ⟨a, a2⟩, ⟨b, a3⟩⟩ := h
  exact ⟨by rw [(h7 0).1, a1, (h8 0).2, (h9 0).2], ⟨a, (h8 0).1.trans a2⟩, ⟨b, (h9 0).1.trans a3⟩⟩
/-- person, the clock: only the object itself changes -/
theorem Rc_sr {σ : St} {w : FW} (hR : Rc σ w) (np : Nat) (ck : Int64) : Rc ((np, s_nr σ, s_nt σ, s_ns σ, s_nw σ, ck), σ.2) (fset w 0 0 (oSR ((np, s_nr σ, s_nt σ, s_ns σ, s_nw σ, ck), σ.2) w)) := by
  obtain ⟨-, r1, r2, r3, r4, r5, r6⟩ := hR
  have s : ∀ k, k ≠ 0 → sk k w (fset w 0 0 (oSR ((np, s_nr σ, s_nt σ, s_ns σ, s_nw σ, ck), σ.2) w)) := fun k h => sk_set sk_rf h
  exact ⟨fset_at, RcR_c (σ := σ) r1 (s 1 (by decide)) (s 10 (by decide)), RcT_c (σ := σ) r2 (s 2 (by decide)) (s 11 (by decide)) (s 12 (by decide)) (s 13 (by decide)) (s 14 (by decide)) (s 15 (by decide)), RcS_c (σ := σ) r3 (s 3 (by decide)) (s 16 (by decide)) (s 17 (by decide)) (fun _ _ => rfl), RcW_c (σ := σ) r4 (s 4 (by decide)), RcO_c (σ := σ) r5 (s 5 (by decide)) (s 6 (by decide)), RcH_c r6 (s 7 (by decide)) (s 8 (by decide)) (s 9 (by decide))⟩
/-- a role more -/
theorem Rc_role {σ : St} {w : FW} {a b q : Nat} {x y : Int64} {f : Nat → Option Nat} (hR : Rc σ w) (hf : w.2 1 0 = some (aR 4 100 f)) {σ1 : St} (e : σ1 = ((s_np σ, s_nr σ + 1, s_nt σ, s_ns σ, s_nw σ, s_ck σ), (va_up (s_rp σ) (s_nr σ) a, va_up (s_rk σ) (s_nr σ) b, va_up (s_rf σ) (s_nr σ) x, va_up (s_rt σ) (s_nr σ) y), σ.2.2)) : Rc σ1 (fset (fset (fnew w 10 (s_nr σ) (oO 0 [.int (nI a), .int (nI b), .long x, .long y]) q) 1 0 (aR 4 100 (va_up f (s_nr σ) (some q)))) 0 0 (oSR σ1 w)) := by
  obtain ⟨-, ⟨f2v, r1, r1a, r1b⟩, r2, r3, r4, r5, r6⟩ := hR
  have ef : f2v = f := by
    have := r1.symm.trans hf
    simpa [aR] using this
  subst ef
  have s : ∀ k, k ≠ 0 → k ≠ 1 → k ≠ 10 → sk k w (fset (fset (fnew w 10 (s_nr σ) (oO 0 [.int (nI a), .int (nI b), .long x, .long y]) q) 1 0 (aR 4 100 (va_up f2v (s_nr σ) (some q)))) 0 0 (oSR σ1 w)) := fun k h0 h1 h2 => sk_set (sk_set (sk_new sk_rf h2) h1) h0
  refine ⟨?_, ⟨va_up f2v (s_nr σ) (some q), (fset_ne (by decide)).trans fset_at, fun i hi => ?_, fun i hi => ?_⟩, ?_, ?_, ?_, ?_, RcH_c r6 (s 7 (by decide) (by decide) (by decide)) (s 8 (by decide) (by decide) (by decide)) (s 9 (by decide) (by decide) (by decide))⟩
  · subst e; exact fset_at
  · subst e
    by_cases hi2 : i = s_nr σ
    · subst hi2
      refine ⟨?_, ?_⟩
      · rw [va_up_self]
        exact congrArg some (fset_ad.trans (fset_ad.trans fnew_aat)).symm
      · refine (fset_ne (by decide)).trans ((fset_ne (by decide)).trans (fnew_at.trans ?_))
        show _ = some (oO 0 [.int (nI (va_up (s_rp σ) (s_nr σ) a (s_nr σ))), .int (nI (va_up (s_rk σ) (s_nr σ) b (s_nr σ))), .long (va_up (s_rf σ) (s_nr σ) x (s_nr σ)), .long (va_up (s_rt σ) (s_nr σ) y (s_nr σ))])
        rw [va_up_self, va_up_self, va_up_self, va_up_self]
    · have hi3 : i < s_nr σ := by
        have : i < s_nr σ + 1 := hi
        omega
      obtain ⟨b1, b2⟩ := r1a i hi3
      refine ⟨?_, ?_⟩
      · rw [va_up_ne _ _ hi2, b1]
        exact congrArg some (fset_ad.trans (fset_ad.trans (fnew_ani hi2))).symm
      · refine (fset_ne (by decide)).trans ((fset_ne (by decide)).trans ((fnew_ni hi2).trans (b2.trans ?_)))
        show _ = some (oO 0 [.int (nI (va_up (s_rp σ) (s_nr σ) a i)), .int (nI (va_up (s_rk σ) (s_nr σ) b i)), .long (va_up (s_rf σ) (s_nr σ) x i), .long (va_up (s_rt σ) (s_nr σ) y i)])
        rw [va_up_ne _ _ hi2, va_up_ne _ _ hi2, va_up_ne _ _ hi2, va_up_ne _ _ hi2]
  · subst e
    have h9 : s_nr σ + 1 ≤ i := hi
    exact (fset_ne (by decide)).trans ((fset_ne (by decide)).trans ((fnew_ni (by omega)).trans (r1b i (by omega))))
  · subst e; exact RcT_c (σ := σ) r2 (s 2 (by decide) (by decide) (by decide)) (s 11 (by decide) (by decide) (by decide)) (s 12 (by decide) (by decide) (by decide)) (s 13 (by decide) (by decide) (by decide)) (s 14 (by decide) (by decide) (by decide)) (s 15 (by decide) (by decide) (by decide))
  · subst e; exact RcS_c (σ := σ) r3 (s 3 (by decide) (by decide) (by decide)) (s 16 (by decide) (by decide) (by decide)) (s 17 (by decide) (by decide) (by decide)) (fun i _ => (s 11 (by decide) (by decide) (by decide) _).2)
  · subst e; exact RcW_c (σ := σ) r4 (s 4 (by decide) (by decide) (by decide))
  · subst e; exact RcO_c (σ := σ) r5 (s 5 (by decide) (by decide) (by decide)) (s 6 (by decide) (by decide) (by decide))
theorem va_up_lt {f : Nat → Nat} {n v i : Nat} (h : i < n) : va_up f n v i = f i := va_up_ne _ _ (by omega)
/-- a thing's own cells change -/
theorem Rc_thg {σ σ1 : St} {w w1 : FW} {t : Nat} (hR : Rc σ w) (ht : t < s_nt σ) (e1 : σ1.1 = σ.1) (e2 : σ1.2.1 = σ.2.1) (e3 : σ1.2.2.2 = σ.2.2.2) (ha : w1.1 = w.1) (hk : ∀ k i, ¬ ((k = 11 ∨ k = 12 ∨ k = 13 ∨ k = 14 ∨ k = 15) ∧ i = t) → w1.2 k i = w.2 k i) (hT : Th σ1 w1 t)
    (ho : ∀ i, i ≠ t → s_mk σ1 i = s_mk σ i ∧ s_ln σ1 i = s_ln σ i ∧ s_by σ1 i = s_by σ i ∧ s_cn σ1 i = s_cn σ i ∧ s_cm σ1 i = s_cm σ i ∧ s_dn σ1 i = s_dn σ i ∧ s_nd σ1 i = s_nd σ i) : Rc σ1 w1 := by
  obtain ⟨r0, r1, ⟨⟨fT, rT1, rT2⟩, rT3, rT4⟩, r3, r4, r5, r6⟩ := hR
  have s : ∀ k, k ≠ 11 → k ≠ 12 → k ≠ 13 → k ≠ 14 → k ≠ 15 → sk k w w1 := fun k b1 b2 b3 b4 b5 i => ⟨hk k i (by omega), by rw [ha]⟩
  obtain ⟨s1, sA, sB, sC⟩ := σ1
  obtain ⟨t1, tA, tB, tC⟩ := σ
  have e1 : s1 = t1 := e1
  have e2 : sA = tA := e2
  have e3 : sC = tC := e3
  subst e1; subst e2; subst e3
  refine ⟨?_, RcR_c (σ := (s1, sA, tB, sC)) r1 (s 1 (by decide) (by decide) (by decide) (by decide) (by decide)) (s 10 (by decide) (by decide) (by decide) (by decide) (by decide)), ⟨⟨fT, (hk 2 0 (by omega)).trans rT1, fun i hi => by rw [ha]; exact rT2 i hi⟩, fun i hi => ?_, fun i hi => ?_⟩, RcS_c (σ := (s1, sA, tB, sC)) r3 (s 3 (by decide) (by decide) (by decide) (by decide) (by decide)) (s 16 (by decide) (by decide) (by decide) (by decide) (by decide)) (s 17 (by decide) (by decide) (by decide) (by decide) (by decide)) (fun i _ => by rw [ha]), RcW_c (σ := (s1, sA, tB, sC)) r4 (s 4 (by decide) (by decide) (by decide) (by decide) (by decide)), RcO_c (σ := (s1, sA, tB, sC)) r5 (s 5 (by decide) (by decide) (by decide) (by decide) (by decide)) (s 6 (by decide) (by decide) (by decide) (by decide) (by decide)), RcH_c r6 (s 7 (by decide) (by decide) (by decide) (by decide) (by decide)) (s 8 (by decide) (by decide) (by decide) (by decide) (by decide)) (s 9 (by decide) (by decide) (by decide) (by decide) (by decide))⟩
  · show w1.2 0 0 = some (oO 4 [_, .ref (w1.1 1 0), _, .ref (w1.1 2 0), _, .ref (w1.1 3 0), _, .ref (w1.1 4 0), _, .ref (w1.1 5 0), .ref (w1.1 6 0), _, .ref (w1.1 7 0)])
    rw [hk 0 0 (by omega), ha]
    exact r0
  · by_cases hi2 : i = t
    · rw [hi2]; exact hT
    · obtain ⟨o1, o2, o3, o4, o5, o6, o7⟩ := ho i hi2
      exact Th_eq (Th_c (rT3 i hi) (fun k b1 b2 => ⟨hk k i (by omega), by rw [ha]⟩)) o1 o2 o3 o4 o5 o6 o7
  · have h9 : t ≠ i := by
      have : s1.2.2.1 ≤ i := hi
      have : t < s1.2.2.1 := ht
      omega
    obtain ⟨b1, b2, b3, b4, b5⟩ := rT4 i hi
    exact ⟨(hk 11 i (by omega)).trans b1, (hk 12 i (by omega)).trans b2, (hk 13 i (by omega)).trans b3, (hk 14 i (by omega)).trans b4, (hk 15 i (by omega)).trans b5⟩
