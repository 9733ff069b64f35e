/-! the class's cells and the reference's, for a state: labels 0 .. 17 are the class's, 20 and 32 .. 61 the reference's, 70 the law's own -/
abbrev oSR (σ : St) (w : FW) : FE := oO 4 [.int (nI (s_np σ)), .ref (w.1 1 0), .int (nI (s_nr σ)), .ref (w.1 2 0), .int (nI (s_nt σ)), .ref (w.1 3 0), .int (nI (s_ns σ)), .ref (w.1 4 0), .int (nI (s_nw σ)), .ref (w.1 5 0), .ref (w.1 6 0), .long (s_ck σ), .ref (w.1 7 0)]
abbrev oRo (σ : St) (i : Nat) : FE := oO 0 [.int (nI (s_rp σ i)), .int (nI (s_rk σ i)), .long (s_rf σ i), .long (s_rt σ i)]
abbrev oTh (σ : St) (w : FW) (t : Nat) (z : Bool) : FE := oO 3 [.int (nI (s_mk σ t)), .ref (w.1 12 t), .int (nI (s_ln σ t)), .ref (w.1 13 t), .int (b2i z), .ref (w.1 14 t), .int (nI (s_cn σ t)), .ref (w.1 15 t), .int (nI (s_dn σ t))]
abbrev oSg (σ : St) (w : FW) (i : Nat) : FE := oO 2 [.ref (w.1 11 (s_st σ i)), .int (nI (s_sp σ i)), .int (nI (s_sm σ i)), .ref (w.1 17 i), .int (b2i (s_sg σ i))]
def Rc0 (σ : St) (w : FW) : Prop := w.2 0 0 = some (oSR σ w)
def RcR (σ : St) (w : FW) : Prop := ∃ f, w.2 1 0 = some (aR 4 100 f) ∧ (∀ i, i < s_nr σ → f i = some (w.1 10 i) ∧ w.2 10 i = some (oRo σ i)) ∧ ∀ i, s_nr σ ≤ i → w.2 10 i = none
def Th (σ : St) (w : FW) (t : Nat) : Prop := ∃ (b d c n : Nat → Int32) (z : Bool), w.2 11 t = some (oTh σ w t z) ∧ w.2 12 t = some (aI 0 1000 b) ∧ w.2 13 t = some (aI 1 8 d) ∧ w.2 14 t = some (aI 0 200 c) ∧ w.2 15 t = some (aI 1 10 n) ∧
  (∀ j, j < s_ln σ t → b j &&& 255 = nI (s_by σ t j)) ∧ (∀ j, j < s_cn σ t → c j &&& 255 = nI (s_cm σ t j)) ∧ (∀ j, j < s_dn σ t → n j = nI (s_nd σ t j)) ∧ (z = false → ∀ j, j < 8 → d j = s_dg σ t j)
def RcT (σ : St) (w : FW) : Prop := (∃ f, w.2 2 0 = some (aR 6 16 f) ∧ ∀ t, t < s_nt σ → f t = some (w.1 11 t)) ∧ (∀ t, t < s_nt σ → Th σ w t) ∧ ∀ t, s_nt σ ≤ t → w.2 11 t = none ∧ w.2 12 t = none ∧ w.2 13 t = none ∧ w.2 14 t = none ∧ w.2 15 t = none
def Sg (σ : St) (w : FW) (i : Nat) : Prop := w.2 16 i = some (oSg σ w i) ∧ ∃ d, w.2 17 i = some (aI 1 8 d) ∧ ∀ j, j < 8 → d j = s_sw σ i j
def RcS (σ : St) (w : FW) : Prop := (∃ f, w.2 3 0 = some (aR 5 400 f) ∧ ∀ i, i < s_ns σ → f i = some (w.1 16 i)) ∧ (∀ i, i < s_ns σ → Sg σ w i) ∧ ∀ i, s_ns σ ≤ i → w.2 16 i = none ∧ w.2 17 i = none
def RcW (σ : St) (w : FW) : Prop := ∃ f, w.2 4 0 = some (aI 1 400 f) ∧ ∀ j, j < s_nw σ → f j = nI (s_wl σ j)
def RcO (σ : St) (w : FW) : Prop := ∃ tb eb, w.2 5 0 = some (aI 1 10 tb) ∧ w.2 6 0 = some (aI 1 10 eb) ∧ (∀ m, m < 10 → tb m = msk (s_bh σ m) 10) ∧ ∀ m, m < 10 → eb m = msk (fun b => cmx (s_bh σ) 10 m b) 10
def RcH (w : FW) : Prop := w.2 7 0 = some (oO 1 [.ref (w.1 8 0), .ref (w.1 9 0)]) ∧ (∃ a, w.2 8 0 = some (aI 1 8 a)) ∧ ∃ a, w.2 9 0 = some (aI 1 64 a)
def Rc (σ : St) (w : FW) : Prop := Rc0 σ w ∧ RcR σ w ∧ RcT σ w ∧ RcS σ w ∧ RcW σ w ∧ RcO σ w ∧ RcH w
/-- what a call of the class leaves to others -/
def fr (w w1 : FW) : Prop := (∀ k i, w.2 k i ≠ none → w1.2 k i ≠ none ∧ w1.1 k i = w.1 k i) ∧ ∀ k i, 20 ≤ k → w1.2 k i = w.2 k i
theorem fr_rf (w : FW) : fr w w := ⟨fun _ _ h => ⟨h, rfl⟩, fun _ _ _ => rfl⟩
theorem fr_tr {a b c : FW} (h1 : fr a b) (h2 : fr b c) : fr a c := ⟨fun k i h => by
  obtain ⟨x1, x2⟩ := h1.1 k i h
  obtain ⟨y1, y2⟩ := h2.1 k i x1
  exact ⟨y1, y2.trans x2⟩, fun k i h => (h2.2 k i h).trans (h1.2 k i h)⟩
theorem fr_set {w : FW} {k i : Nat} {e : FE} (hk : k < 20) : fr w (fset w k i e) := by
  refine ⟨fun k' i' h => ⟨?_, rfl⟩, fun k' i' h => ?_⟩
  · show f2 w.2 k i (some e) k' i' ≠ none
    unfold f2
    split
    · split
      · exact fun h => by cases h
      · exact h
    · exact h
  · exact f2_k (by omega)
theorem fr_new {w : FW} {k i q : Nat} {e : FE} (hk : k < 20) (hn : w.2 k i = none) : fr w (fnew w k i e q) := by
  refine ⟨fun k' i' h => ?_, fun k' i' h => ?_⟩
  · have hne : ¬ (k' = k ∧ i' = i) := by
      rintro ⟨rfl, rfl⟩
      exact h hn
    show f2 w.2 k i (some e) k' i' ≠ none ∧ f2 w.1 k i q k' i' = w.1 k' i'
    by_cases ha : k' = k
    · have hb : i' ≠ i := fun h => hne ⟨ha, h⟩
      rw [f2_i hb, f2_i hb]
      exact ⟨h, rfl⟩
    · rw [f2_k ha, f2_k ha]
      exact ⟨h, rfl⟩
  · exact f2_k (by omega)
abbrev oMo (σ : St) (w : FW) (th : Int32) (z : Bool) : FE := oO 5 [.int (nI (s_np σ)), .int (nI (s_nr σ)), .ref (w.1 32 0), .ref (w.1 33 0), .ref (w.1 34 0), .ref (w.1 35 0), .int (nI (s_nt σ)), .ref (w.1 37 0), .ref (w.1 38 0), .ref (w.1 39 0), .ref (w.1 40 0), .ref (w.1 41 0), .ref (w.1 42 0), .ref (w.1 43 0), .ref (w.1 44 0), .int (nI (s_ns σ)), .ref (w.1 46 0), .ref (w.1 47 0), .ref (w.1 48 0), .ref (w.1 49 0), .ref (w.1 50 0), .int (nI (s_nw σ)), .ref (w.1 52 0), .ref (w.1 53 0), .long (s_ck σ), .int th, .int (b2i z), .ref (w.1 57 0), .ref (w.1 58 0), .ref (w.1 59 0), .ref (w.1 60 0), .ref (w.1 61 0)]
def RmA (σ : St) (w : FW) : Prop := (∃ f, w.2 32 0 = some (aI 1 100 f) ∧ ∀ i, i < s_nr σ → f i = nI (s_rp σ i)) ∧ (∃ f, w.2 33 0 = some (aI 1 100 f) ∧ ∀ i, i < s_nr σ → f i = nI (s_rk σ i)) ∧ (∃ f, w.2 34 0 = some (aL 100 f) ∧ ∀ i, i < s_nr σ → f i = s_rf σ i) ∧ (∃ f, w.2 35 0 = some (aL 100 f) ∧ ∀ i, i < s_nr σ → f i = s_rt σ i)
def RmT (σ : St) (w : FW) : Prop := (∃ f, w.2 37 0 = some (aI 1 16 f) ∧ ∀ t, t < s_nt σ → f t = nI (s_mk σ t)) ∧ (∃ f, w.2 38 0 = some (aI 1 16 f) ∧ ∀ t, t < 16 → f t = nI (s_ln σ t)) ∧ (∃ f, w.2 39 0 = some (aI 1 128 f) ∧ ∀ t, t < s_nt σ → ∀ j, j < 8 → f (8 * t + j) = s_dg σ t j) ∧ (∃ f, w.2 40 0 = some (aI 1 16000 f) ∧ ∀ t, t < 16 → ∀ j, j < s_ln σ t → f (1000 * t + j) = nI (s_by σ t j)) ∧ (∃ f, w.2 41 0 = some (aI 1 16 f) ∧ ∀ t, t < 16 → f t = nI (s_cn σ t)) ∧ (∃ f, w.2 42 0 = some (aI 1 3200 f) ∧ ∀ t, t < 16 → ∀ j, j < s_cn σ t → f (200 * t + j) = nI (s_cm σ t j)) ∧ (∃ f, w.2 43 0 = some (aI 1 16 f) ∧ ∀ t, t < 16 → f t = nI (s_dn σ t)) ∧ (∃ f, w.2 44 0 = some (aI 1 160 f) ∧ ∀ t, t < 16 → ∀ j, j < s_dn σ t → f (10 * t + j) = nI (s_nd σ t j))
def RmS (σ : St) (w : FW) : Prop := (∃ f, w.2 46 0 = some (aI 1 400 f) ∧ ∀ i, i < s_ns σ → f i = nI (s_st σ i)) ∧ (∃ f, w.2 47 0 = some (aI 1 400 f) ∧ ∀ i, i < s_ns σ → f i = nI (s_sp σ i)) ∧ (∃ f, w.2 48 0 = some (aI 1 400 f) ∧ ∀ i, i < s_ns σ → f i = nI (s_sm σ i)) ∧ (∃ f, w.2 49 0 = some (aI 1 3200 f) ∧ ∀ i, i < s_ns σ → ∀ j, j < 8 → f (8 * i + j) = s_sw σ i j) ∧ (∃ f, w.2 50 0 = some (aI 3 400 f) ∧ ∀ i, i < 400 → f i = b2i (s_sg σ i)) ∧ (∃ f, w.2 52 0 = some (aI 1 400 f) ∧ ∀ j, j < s_nw σ → f j = nI (s_wl σ j))
def RmO (σ : St) (w : FW) : Prop := ∃ f, w.2 53 0 = some (aI 3 100 f) ∧ ∀ m, m < 10 → ∀ a, a < 10 → f (10 * m + a) = b2i (s_bh σ m a)
def RmH (z : Bool) (w : FW) : Prop := (∃ f, w.2 57 0 = some (aI 1 64 f) ∧ (z = true → ∀ j, j < 64 → f j = shK j)) ∧ (∃ f, w.2 58 0 = some (aI 1 8 f) ∧ (z = true → ∀ j, j < 8 → f j = shH j)) ∧ (∃ f, w.2 59 0 = some (aI 1 64 f)) ∧ (∃ f, w.2 60 0 = some (aI 1 8 f)) ∧ (∃ f, w.2 61 0 = some (aI 1 8 f))
def Rm (σ : St) (th : Int32) (w : FW) : Prop := ∃ z, w.2 20 0 = some (oMo σ w th z) ∧ RmA σ w ∧ RmT σ w ∧ RmS σ w ∧ RmO σ w ∧ RmH z w
/-- what a call of the reference leaves to others -/
def frm (w w1 : FW) : Prop := w1.1 = w.1 ∧ ∀ k i, k < 20 ∨ 62 ≤ k → w1.2 k i = w.2 k i
theorem frm_rf (w : FW) : frm w w := ⟨rfl, fun _ _ _ => rfl⟩
theorem frm_tr {a b c : FW} (h1 : frm a b) (h2 : frm b c) : frm a c := ⟨h2.1.trans h1.1, fun k i h => (h2.2 k i h).trans (h1.2 k i h)⟩
theorem frm_set {w : FW} {k i : Nat} {e : FE} (hk : 20 ≤ k ∧ k < 62) : frm w (fset w k i e) := ⟨rfl, fun k' i' h => f2_k (by omega)⟩
