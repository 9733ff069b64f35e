/-! orders: what comes behind what, over any number of others -/
theorem anyj_iff {f : Nat → Bool} : ∀ {n : Nat}, anyj f n = true ↔ ∃ j, j < n ∧ f j = true
  | 0 => by
    constructor
    · intro h; cases h
    · rintro ⟨j, hj, -⟩; exact absurd hj (Nat.not_lt_zero _)
  | n + 1 => by
    rw [anyj, Bool.or_eq_true, anyj_iff]
    constructor
    · rintro (⟨j, hj, h⟩ | h)
      · exact ⟨j, by omega, h⟩
      · exact ⟨n, by omega, h⟩
    · rintro ⟨j, hj, h⟩
      rcases Nat.lt_or_ge j n with q | q
      · exact Or.inl ⟨j, q, h⟩
      · have : j = n := by omega
        subst this
        exact Or.inr h
theorem cmx_s {bh : Nat → Nat → Bool} {k m b : Nat} : cmx bh (k + 1) m b = true ↔ bh m b = true ∨ ∃ j, j < 10 ∧ bh m j = true ∧ cmx bh k j b = true := by
  rw [cmx, Bool.or_eq_true, anyj_iff]
  constructor
  · rintro (h | ⟨j, hj, h⟩)
    · exact Or.inl h
    · rw [Bool.and_eq_true] at h
      exact Or.inr ⟨j, hj, h.1, h.2⟩
  · rintro (h | ⟨j, hj, h1, h2⟩)
    · exact Or.inl h
    · exact Or.inr ⟨j, hj, by rw [h1, h2]; rfl⟩
theorem cmx_edge {bh : Nat → Nat → Bool} {m b : Nat} (h : bh m b = true) : ∀ k, cmx bh k m b = true
  | 0 => h
  | _ + 1 => cmx_s.mpr (Or.inl h)
theorem cmx_mono {bh : Nat → Nat → Bool} : ∀ {k m b : Nat}, cmx bh k m b = true → cmx bh (k + 1) m b = true
  | 0, m, b, h => cmx_s.mpr (Or.inl h)
  | k + 1, m, b, h => by
    rcases cmx_s.mp h with h | ⟨j, hj, h1, h2⟩
    · exact cmx_s.mpr (Or.inl h)
    · exact cmx_s.mpr (Or.inr ⟨j, hj, h1, cmx_mono h2⟩)
theorem cmx_le {bh : Nat → Nat → Bool} {k m b : Nat} (h : cmx bh k m b = true) : ∀ d, cmx bh (k + d) m b = true
  | 0 => h
  | d + 1 => cmx_mono (cmx_le h d)
theorem cmx_up {bh : Nat → Nat → Bool} {k l m b : Nat} (h : cmx bh k m b = true) (hl : k ≤ l) : cmx bh l m b = true := by
  have := cmx_le h (l - k)
  rwa [Nat.add_sub_cancel' hl] at this
theorem cmx_tr {bh : Nat → Nat → Bool} {b c l : Nat} (hb : b < 10) (h2 : cmx bh l b c = true) : ∀ {k m : Nat}, cmx bh k m b = true → cmx bh (k + l + 1) m c = true
  | 0, m, h => cmx_s.mpr (Or.inr ⟨b, hb, h, by rw [Nat.zero_add]; exact h2⟩)
  | k + 1, m, h => by
    rcases cmx_s.mp h with h | ⟨j, hj, h1, h3⟩
    · exact cmx_s.mpr (Or.inr ⟨b, hb, h, cmx_up h2 (by omega)⟩)
    · have := cmx_tr hb h2 h3
      rw [show k + 1 + l + 1 = (k + l + 1) + 1 by omega]
      exact cmx_s.mpr (Or.inr ⟨j, hj, h1, this⟩)
/-- b comes behind m -/
def cmR (bh : Nat → Nat → Bool) (m b : Nat) : Prop := ∃ k, cmx bh k m b = true
theorem cmR_tr {bh : Nat → Nat → Bool} {a b c : Nat} (hb : b < 10) (h1 : cmR bh a b) (h2 : cmR bh b c) : cmR bh a c := by
  obtain ⟨k, h1⟩ := h1
  obtain ⟨l, h2⟩ := h2
  exact ⟨_, cmx_tr hb h2 h1⟩
theorem ct_lt {p q : Nat → Bool} {n i : Nat} (hi : i < n) (h : ∀ k, k < n → p k = true → q k = true) (hp : p i = false) (hq : q i = true) : fb_ct p n < fb_ct q n := by
  have h1 : fb_ct (fun k => if k = i then true else p k) n + 0 = fb_ct p n + 1 := by
    have h := fb_ct_upd p true hi
    rw [hp] at h
    exact h
  have h2 : fb_ct (fun k => if k = i then true else p k) n ≤ fb_ct q n := fb_ct_sub (fun k hk hk2 => by
    by_cases e : k = i
    · rw [e]; exact hq
    · simp only [if_neg e] at hk2
      exact h k hk hk2)
  omega
noncomputable def cmB (bh : Nat → Nat → Bool) (m b : Nat) : Bool := @decide (cmR bh m b) (Classical.propDecidable _)
theorem cmB_iff {bh : Nat → Nat → Bool} {m b : Nat} : cmB bh m b = true ↔ cmR bh m b := @decide_eq_true_iff _ (Classical.propDecidable _)
theorem cmB_no {bh : Nat → Nat → Bool} {m b : Nat} (h : ¬ cmR bh m b) : cmB bh m b = false := @decide_eq_false _ (Classical.propDecidable _) h
theorem cmR_10 {bh : Nat → Nat → Bool} (ha : ∀ m, m < 10 → ¬ cmR bh m m) : ∀ {k m b : Nat}, m < 10 → cmx bh k m b = true → cmx bh (fb_ct (cmB bh m) 10) m b = true
  | 0, m, b, _, h => cmx_edge h _
  | k + 1, m, b, hm, h => by
    rcases cmx_s.mp h with h | ⟨j, hj, h1, h3⟩
    · exact cmx_edge h _
    · have ih := cmR_10 ha hj h3
      have hlt : fb_ct (cmB bh j) 10 < fb_ct (cmB bh m) 10 :=
        ct_lt hj (fun c _ hc => cmB_iff.mpr (cmR_tr hj ⟨0, h1⟩ (cmB_iff.mp hc))) (cmB_no (ha j hj)) (cmB_iff.mpr ⟨0, h1⟩)
      obtain ⟨d, hd⟩ : ∃ d, fb_ct (cmB bh m) 10 = d + 1 := ⟨fb_ct (cmB bh m) 10 - 1, by omega⟩
      rw [hd] at hlt ⊢
      exact cmx_s.mpr (Or.inr ⟨j, hj, h1, cmx_up ih (by omega)⟩)
theorem cmR_iff {bh : Nat → Nat → Bool} (ha : ∀ m, m < 10 → ¬ cmR bh m m) {m b : Nat} (hm : m < 10) : cmx bh 10 m b = true ↔ cmR bh m b := by
  constructor
  · intro h; exact ⟨10, h⟩
  · rintro ⟨k, h⟩
    exact cmx_up (cmR_10 ha hm h) (fb_ct_le _ _)
theorem cmR_of {bh : Nat → Nat → Bool} (h : ∀ m, m < 10 → ∀ k, cmx bh k m m = false) : ∀ m, m < 10 → ¬ cmR bh m m := by
  rintro m hm ⟨k, hk⟩
  rw [h m hm k] at hk
  cases hk
theorem cmx_sub {bh bh1 : Nat → Nat → Bool} (hs : ∀ m b, bh m b = true → bh1 m b = true) : ∀ {k m b : Nat}, cmx bh k m b = true → cmx bh1 k m b = true
  | 0, m, b, h => hs m b h
  | k + 1, m, b, h => by
    rcases cmx_s.mp h with h | ⟨j, hj, h1, h3⟩
    · exact cmx_s.mpr (Or.inl (hs m b h))
    · exact cmx_s.mpr (Or.inr ⟨j, hj, hs m j h1, cmx_sub hs h3⟩)
section ORDN
variable {bh : Nat → Nat → Bool} {u v : Nat}
theorem or_edge {x y : Nat} : f2 bh u v true x y = true ↔ bh x y = true ∨ (x = u ∧ y = v) := by
  unfold f2
  by_cases h1 : x = u
  · by_cases h2 : y = v
    · simp [h1, h2]
    · simp [h1, h2]
  · simp [h1]
theorem or_to (hu : u < 10) (hv : v < 10) : ∀ {k x b : Nat}, x < 10 → cmx (f2 bh u v true) k x b = true → cmR bh x b ∨ ((x = u ∨ cmR bh x u) ∧ (b = v ∨ cmR bh v b))
  | 0, x, b, hx, h => by
    rcases or_edge.mp h with h | ⟨h1, h2⟩
    · exact Or.inl ⟨0, h⟩
    · exact Or.inr ⟨Or.inl h1, Or.inl h2⟩
  | k + 1, x, b, hx, h => by
    rcases cmx_s.mp h with h | ⟨j, hj, h1, h3⟩
    · rcases or_edge.mp h with h | ⟨h1, h2⟩
      · exact Or.inl ⟨0, h⟩
      · exact Or.inr ⟨Or.inl h1, Or.inl h2⟩
    · have ih := or_to hu hv hj h3
      rcases or_edge.mp h1 with h1 | ⟨h1, h2⟩
      · rcases ih with ih | ⟨i1, i2⟩
        · exact Or.inl (cmR_tr hj ⟨0, h1⟩ ih)
        · refine Or.inr ⟨Or.inr ?_, i2⟩
          rcases i1 with i1 | i1
          · rw [← i1]; exact ⟨0, h1⟩
          · exact cmR_tr hj ⟨0, h1⟩ i1
      · subst h1; subst h2
        rcases ih with ih | ⟨i1, i2⟩
        · exact Or.inr ⟨Or.inl rfl, Or.inr ih⟩
        · exact Or.inr ⟨Or.inl rfl, i2⟩
theorem or_from (hu : u < 10) (hv : v < 10) {x b : Nat} (h : cmR bh x b ∨ ((x = u ∨ cmR bh x u) ∧ (b = v ∨ cmR bh v b))) : cmR (f2 bh u v true) x b := by
  have up : ∀ {a c : Nat}, cmR bh a c → cmR (f2 bh u v true) a c := fun ⟨k, q⟩ => ⟨k, cmx_sub (fun m b q => or_edge.mpr (Or.inl q)) q⟩
  have e : cmR (f2 bh u v true) u v := ⟨0, or_edge.mpr (Or.inr ⟨rfl, rfl⟩)⟩
  rcases h with h | ⟨h1, h2⟩
  · exact up h
  · have g1 : cmR (f2 bh u v true) x v := by
      rcases h1 with h1 | h1
      · rw [h1]; exact e
      · exact cmR_tr hu (up h1) e
    rcases h2 with h2 | h2
    · rw [h2]; exact g1
    · exact cmR_tr hv g1 (up h2)
theorem or_acy (hu : u < 10) (hv : v < 10) (hne : u ≠ v) (ha : ∀ m, m < 10 → ∀ k, cmx bh k m m = false) (hn : cmx bh 10 v u = false) : ∀ m, m < 10 → ∀ k, cmx (f2 bh u v true) k m m = false := by
  have ha2 := cmR_of ha
  have hn2 : ¬ cmR bh v u := fun q => by
    rw [(cmR_iff ha2 hv).mpr q] at hn
    cases hn
  intro m hm k
  cases hc : cmx (f2 bh u v true) k m m
  · rfl
  · exfalso
    rcases or_to hu hv hm hc with h | ⟨h1, h2⟩
    · exact ha2 m hm h
    · rcases h1 with h1 | h1 <;> rcases h2 with h2 | h2
      · exact hne (h1.symm.trans h2)
      · exact hn2 (h1 ▸ h2)
      · exact hn2 (h2 ▸ h1)
      · exact hn2 (cmR_tr hm h2 h1)
/-- what comes behind what, when one more order was told -/
theorem or_new (hu : u < 10) (hv : v < 10) (hne : u ≠ v) (ha : ∀ m, m < 10 → ∀ k, cmx bh k m m = false) (hn : cmx bh 10 v u = false) {x b : Nat} (hx : x < 10) : cmx (f2 bh u v true) 10 x b = (cmx bh 10 x b || ((decide (x = u) || cmx bh 10 x u) && (cmx bh 10 v b || decide (b = v)))) := by
  have ha1 := cmR_of ha
  have ha2 := cmR_of (or_acy hu hv hne ha hn)
  rw [Bool.eq_iff_iff, cmR_iff ha2 hx]
  simp only [Bool.or_eq_true, Bool.and_eq_true, decide_eq_true_eq]
  rw [cmR_iff ha1 hx, cmR_iff ha1 hx, cmR_iff ha1 hv]
  constructor
  · rintro ⟨k, h⟩
    rcases or_to hu hv hx h with h | ⟨h1, h2⟩
    · exact Or.inl h
    · exact Or.inr ⟨h1, h2.symm⟩
  · rintro (h | ⟨h1, h2⟩)
    · exact or_from hu hv (Or.inl h)
    · exact or_from hu hv (Or.inr ⟨h1, h2.symm⟩)
end ORDN
