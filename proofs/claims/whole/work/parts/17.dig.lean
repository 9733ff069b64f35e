theorem fset_off {w : FW} {k i k1 i1 : Nat} {e : FE} (h : ¬ (k1 = k ∧ i1 = i)) : (fset w k i e).2 k1 i1 = w.2 k1 i1 := by
  show f2 w.2 k i (some e) k1 i1 = _
  unfold f2
  by_cases h1 : k1 = k
  · rw [if_pos h1, if_neg (fun q => h ⟨h1, q⟩)]
  · rw [if_neg h1]
theorem fset_lv {w : FW} {k i k1 i1 : Nat} {e : FE} (h : w.2 k1 i1 ≠ none) : (fset w k i e).2 k1 i1 ≠ none := by
  show f2 w.2 k i (some e) k1 i1 ≠ none
  unfold f2
  split
  · split
    · exact fun h => by cases h
    · exact h
  · exact h
/-- what a call leaves that may only reckon digests -/
def frd (w w1 : FW) : Prop := w1.1 = w.1 ∧ (∀ k i, ¬ (k = 8 ∨ k = 9 ∨ k = 11 ∨ k = 13) → w1.2 k i = w.2 k i) ∧ ∀ k i, w.2 k i ≠ none → w1.2 k i ≠ none
theorem frd_rf (w : FW) : frd w w := ⟨rfl, fun _ _ _ => rfl, fun _ _ h => h⟩
theorem frd_tr {a b c : FW} (h1 : frd a b) (h2 : frd b c) : frd a c := ⟨h2.1.trans h1.1, fun k i h => (h2.2.1 k i h).trans (h1.2.1 k i h), fun k i h => h2.2.2 k i (h1.2.2 k i h)⟩
theorem frd_fr {a b : FW} (h : frd a b) : fr a b := ⟨fun k i q => ⟨h.2.2 k i q, by rw [h.1]⟩, fun k i q => h.2.1 k i (by omega)⟩
theorem Th_congr {σ : St} {w w1 : FW} {t : Nat} (h : Th σ w t) (ha : w1.1 = w.1) (hk : ∀ k, 11 ≤ k → k ≤ 15 → w1.2 k t = w.2 k t) : Th σ w1 t := by
  obtain ⟨ad1, u1⟩ := w1
  have ha : ad1 = w.1 := ha
  subst ha
  obtain ⟨b, d, c, n, z, h1, h2, h3, h4, h5, h6⟩ := h
  exact ⟨b, d, c, n, z, (hk 11 (by omega) (by omega)).trans h1, (hk 12 (by omega) (by omega)).trans h2, (hk 13 (by omega) (by omega)).trans h3, (hk 14 (by omega) (by omega)).trans h4, (hk 15 (by omega) (by omega)).trans h5, h6⟩
theorem Rc_dig {σ : St} {w w1 : FW} {t : Nat} (hR : Rc σ w) (ha : w1.1 = w.1) (hk : ∀ k i, ¬ (k = 8 ∨ k = 9 ∨ ((k = 11 ∨ k = 13) ∧ i = t)) → w1.2 k i = w.2 k i) (hH : RcH w1) (ht : t < s_nt σ) (hT : Th σ w1 t) : Rc σ w1 := by
  obtain ⟨r0, ⟨fR, rR1, rR2, rR3⟩, ⟨⟨fT, rT1, rT2⟩, rT3, rT4⟩, ⟨⟨fS, rS1, rS2⟩, rS3, rS4⟩, ⟨fW, rW1, rW2⟩, ⟨tb, eb, rO1, rO2, rO3⟩, -⟩ := hR
  obtain ⟨ad1, u1⟩ := w1
  have ha : ad1 = w.1 := ha
  subst ha
  refine ⟨(hk 0 0 (by omega)).trans r0, ⟨fR, (hk 1 0 (by omega)).trans rR1, fun i hi => ⟨(rR2 i hi).1, (hk 10 i (by omega)).trans (rR2 i hi).2⟩, fun i hi => (hk 10 i (by omega)).trans (rR3 i hi)⟩, ⟨⟨fT, (hk 2 0 (by omega)).trans rT1, rT2⟩, fun t2 h2 => ?_, fun t2 h2 => ?_⟩, ⟨⟨fS, (hk 3 0 (by omega)).trans rS1, rS2⟩, fun i hi => ?_, fun i hi => ⟨(hk 16 i (by omega)).trans (rS4 i hi).1, (hk 17 i (by omega)).trans (rS4 i hi).2⟩⟩, ⟨fW, (hk 4 0 (by omega)).trans rW1, rW2⟩, ⟨tb, eb, (hk 5 0 (by omega)).trans rO1, (hk 6 0 (by omega)).trans rO2, rO3⟩, hH⟩
  · by_cases e : t2 = t
    · rw [e]; exact hT
    · exact Th_congr (rT3 t2 h2) rfl (fun k _ _ => hk k t2 (by omega))
  · obtain ⟨a1, a2, a3, a4, a5⟩ := rT4 t2 h2
    exact ⟨(hk 11 t2 (by omega)).trans a1, (hk 12 t2 (by omega)).trans a2, (hk 13 t2 (by omega)).trans a3, (hk 14 t2 (by omega)).trans a4, (hk 15 t2 (by omega)).trans a5⟩
  · obtain ⟨a1, d, a2, a3⟩ := rS3 i hi
    exact ⟨(hk 16 i (by omega)).trans a1, d, (hk 17 i (by omega)).trans a2, a3⟩
theorem s_rl_t {σ : St} {a b : Nat} {x : Int64} {i : Nat} (h : s_rl σ a b x i = true) : ∀ {n : Nat}, i ≤ n → s_rl σ a b x n = true
  | 0, hn => by have : i = 0 := by omega
                subst this; exact h
  | n + 1, hn => by
    rcases Nat.eq_or_lt_of_le hn with q | q
    · rw [← q]; exact h
    · rw [s_rl, s_rl_t h (by omega : i ≤ n)]; rfl
def s_h1 (σ : St) (t m : Nat) (q : Option Nat) (n : Nat) : Bool := decide (s_st σ n = t) && decide (s_sm σ n = m) && (match q with | none => true | some p => decide (s_sp σ n = p)) && s_sd σ n
theorem s_hs_s (σ : St) (t m : Nat) (q : Option Nat) (n : Nat) : s_hs σ t m q (n + 1) = (s_hs σ t m q n || s_h1 σ t m q n) := rfl
theorem s_hs_t {σ : St} {t b : Nat} {o : Option Nat} {i : Nat} (h : s_hs σ t b o i = true) : ∀ {n : Nat}, i ≤ n → s_hs σ t b o n = true
  | 0, hn => by have : i = 0 := by omega
                subst this; exact h
  | n + 1, hn => by
    rcases Nat.eq_or_lt_of_le hn with q | q
    · rw [← q]; exact h
    · rw [s_hs_s, s_hs_t h (by omega : i ≤ n)]; rfl
set_option maxHeartbeats 4000000 in
set_option maxRecDepth 100000 in
theorem k_X4_digestWordsOf (l : Launch) (Γ : FG) (w : FW) (σ : St) (t : Nat) (h0 : Rc0 σ w) (hH : RcH w) (hT : Th σ w t) (hln : s_ln σ t ≤ 1000) : Met l yX4_digestWordsOf (ws_ yX4_digestWordsOf cX4_digestWordsOf 2 (some (.array .int))) (rmD 3 0 0) (va_Pc [.ref (w.1 0 0), .ref (w.1 11 t)] (fI Γ w)) (va_Qq (fun r w1 => r = some (w.1 13 t) ∧ w1.1 = w.1 ∧ (∀ k i, ¬ (k = 8 ∨ k = 9 ∨ ((k = 11 ∨ k = 13) ∧ i = t)) → w1.2 k i = w.2 k i) ∧ (∀ k i, w.2 k i ≠ none → w1.2 k i ≠ none) ∧ RcH w1 ∧ Th σ w1 t ∧ ∃ d, w1.2 13 t = some (aI 1 8 d) ∧ ∀ j, j < 8 → d j = s_dg σ t j) (fI Γ) (fA Γ)) 0 0 (fA Γ) := by
  refine fw_met (by decide) (Nat.le_of_ble_eq_true rfl) ?_
  intro p e s m below meth c ls C hP hS hr hlk hin hl
  have C : fC p s m [.ref (w.1 0 0), .ref (w.1 11 t)].toArray c cX4_digestWordsOf 2 RX4 Γ := C
  have hx := C.1.1
  have hb := C.1.2.1
  have hl : lv_has ls 2 [(0, .ref (w.1 0 0)), (1, .ref (w.1 11 t))] := hl
  obtain ⟨h7, ⟨g8, h8⟩, ⟨g9, h9⟩⟩ := id hH
  obtain ⟨bf, df, cf, nf, zf, e11, e12, e13, e14, e15, hbf, hcf, hnf, hzf⟩ := id hT
  refine lv_aload_n hx hb dX4_digestWordsOf_0 rfl (lv_at hl 1 rfl) ?_
  refine gf_X4_83 C hP e11 rfl rfl dX4_digestWordsOf_1 ?_
  refine fw_ieqB (tgt := 41) hx hb dX4_digestWordsOf_4 (by decide) (fun c_4 => ?_) (fun c_4 => ?_)
  · refine lv_aload_n hx hb dX4_digestWordsOf_41 rfl (lv_at hl 1 rfl) ?_
    refine gf_X4_188 C hP e11 rfl rfl dX4_digestWordsOf_42 ?_
    exact fw_retq (r := some (w.1 13 t)) C hr (Or.inr ⟨_, rfl⟩) hlk rfl hP hS (⟨rfl, rfl, fun _ _ _ => rfl, fun _ _ q => q, hH, hT, df, e13, hzf c_4⟩) (Nat.le_of_ble_eq_true rfl) (Nat.le_of_ble_eq_true rfl) dX4_digestWordsOf_45
  · refine lv_aload_n hx hb dX4_digestWordsOf_7 rfl (lv_at hl 0 rfl) ?_
    refine gf_X4_40 C hP h0 rfl rfl dX4_digestWordsOf_8 ?_
    refine lv_aload_n hx hb dX4_digestWordsOf_11 rfl (lv_at hl 1 rfl) ?_
    refine gf_X4_79 C hP e11 rfl rfl dX4_digestWordsOf_12 ?_
    refine lv_aload_n hx hb dX4_digestWordsOf_15 rfl (lv_at hl 1 rfl) ?_
    refine gf_X4_76 C hP e11 rfl rfl dX4_digestWordsOf_16 ?_
    refine fw_cv hS (fw_rV (rest := []) (As := [.ref (w.1 12 t), .int (nI (s_ln σ t))]) C hP hS wV_X4_181 (k_X1_hashBytes l Γ w t (s_ln σ t) bf (s_by σ t) hln hbf e12 h7 g8 g9 h8 h9) h7 rfl rfl (fRm_mk rfl rfl (Nat.le_of_ble_eq_true rfl) (Nat.le_of_ble_eq_true rfl) (Nat.le_of_ble_eq_true rfl) (Nat.le_of_ble_eq_true rfl) (Nat.le_of_ble_eq_true rfl)) rfl hl.1 rfl dX4_digestWordsOf_19) (fun w1 H locs hp hP hS => ?_)
    obtain ⟨z1, z2, rfl, hz1⟩ := hp
    refine lv_aload_n hx hb dX4_digestWordsOf_22 rfl (lv_at hl 0 rfl) ?_
    refine gf_X4_40 C hP ((fset_ne (by decide)).trans ((fset_ne (by decide)).trans h0)) rfl rfl dX4_digestWordsOf_23 ?_
    refine gf_X4_185 C hP ((fset_ne (by decide)).trans ((fset_ne (by decide)).trans h7)) rfl rfl dX4_digestWordsOf_26 ?_
    refine lv_aload_n hx hb dX4_digestWordsOf_29 rfl (lv_at hl 1 rfl) ?_
    refine gf_X4_188 C hP ((fset_ne (by decide)).trans ((fset_ne (by decide)).trans e11)) rfl rfl dX4_digestWordsOf_30 ?_
    refine fw_cv hS (fw_rS (rest := []) (As := [.ref (w.1 8 0), .ref (w.1 13 t)]) C hP hS wS_X4_126 (k_X4_copyWords l Γ (fset (fset w 8 0 (aI 1 8 z1)) 9 0 (aI 1 64 z2)) 8 0 13 t z1 df (by decide) ((fset_ne (by decide)).trans fset_at) ((fset_ne (by decide)).trans ((fset_ne (by decide)).trans e13))) (fRm_mk rfl rfl (Nat.le_of_ble_eq_true rfl) (Nat.le_of_ble_eq_true rfl) (Nat.le_of_ble_eq_true rfl) (Nat.le_of_ble_eq_true rfl) (Nat.le_of_ble_eq_true rfl)) rfl hl.1 rfl dX4_digestWordsOf_33) (fun w1 H locs hp hP hS => ?_)
    obtain ⟨z3, rfl, hz3⟩ := hp
    refine lv_aload_n hx hb dX4_digestWordsOf_36 rfl (lv_at hl 1 rfl) ?_
    refine lv_iconst (v := nI 0) hx hb dX4_digestWordsOf_37 (by decide) ?_
    refine pf_X4_83 C hP hS rfl rfl ((fset_ne (by decide)).trans ((fset_ne (by decide)).trans ((fset_ne (by decide)).trans e11))) rfl (Nat.le_of_ble_eq_true rfl) dX4_digestWordsOf_38 (fun H locs hP hS => ?_)
    have hP : fP Γ (fset (fset (fset (fset w 8 0 (aI 1 8 z1)) 9 0 (aI 1 64 z2)) 13 t (aI 1 8 z3)) 11 t (oO 3 [.int (nI (s_mk σ t)), .ref (w.1 12 t), .int (nI (s_ln σ t)), .ref (w.1 13 t), .int (b2i false), .ref (w.1 14 t), .int (nI (s_cn σ t)), .ref (w.1 15 t), .int (nI (s_dn σ t))])) H := hP
    refine lv_aload_n hx hb dX4_digestWordsOf_41 rfl (lv_at hl 1 rfl) ?_
    refine gf_X4_188 C hP fset_at rfl rfl dX4_digestWordsOf_42 ?_
    exact fw_retq (r := some (w.1 13 t)) C hr (Or.inr ⟨_, rfl⟩) hlk rfl hP hS (⟨rfl, rfl, fun k i hk => by rw [fset_off (by omega), fset_off (by omega), fset_off (by omega), fset_off (by omega)], fun k i q => fset_lv (fset_lv (fset_lv (fset_lv q))), ⟨((fset_ne (by decide)).trans ((fset_ne (by decide)).trans ((fset_ne (by decide)).trans ((fset_ne (by decide)).trans h7)))), ⟨_, ((fset_ne (by decide)).trans ((fset_ne (by decide)).trans ((fset_ne (by decide)).trans fset_at)))⟩, ⟨_, ((fset_ne (by decide)).trans ((fset_ne (by decide)).trans fset_at))⟩⟩, ⟨bf, z3, cf, nf, false, fset_at, ((fset_ne (by decide)).trans ((fset_ne (by decide)).trans ((fset_ne (by decide)).trans ((fset_ne (by decide)).trans e12)))), ((fset_ne (by decide)).trans fset_at), ((fset_ne (by decide)).trans ((fset_ne (by decide)).trans ((fset_ne (by decide)).trans ((fset_ne (by decide)).trans e14)))), ((fset_ne (by decide)).trans ((fset_ne (by decide)).trans ((fset_ne (by decide)).trans ((fset_ne (by decide)).trans e15)))), hbf, hcf, hnf, fun _ j hj => by rw [hz3 j hj, hz1 j hj]; rfl⟩, z3, ((fset_ne (by decide)).trans fset_at), fun j hj => by rw [hz3 j hj, hz1 j hj]; rfl⟩) (Nat.le_of_ble_eq_true rfl) (Nat.le_of_ble_eq_true rfl) dX4_digestWordsOf_45
set_option maxHeartbeats 4000000 in
set_option maxRecDepth 100000 in
theorem k_X4_hasRole (l : Launch) (Γ : FG) (w : FW) (σ : St) (a b : Nat) (x : Int64) (ha : a < 2 ^ 31) (hb0 : b < 2 ^ 31) (hI1 : s_nr σ ≤ 100) (hI2 : ∀ i, i < s_nr σ → s_rp σ i < 24 ∧ s_rk σ i < 10) (h0 : Rc0 σ w) (hR : RcR σ w) : Met l yX4_hasRole (ws_ yX4_hasRole cX4_hasRole 7 (some .boolean)) (rmD 1 0 0) (va_Pc [.ref (w.1 0 0), .int (nI a), .int (nI b), .long x] (fI Γ w)) (va_Qi (fun r w1 => r = b2i (s_rl σ a b x (s_nr σ)) ∧ w1 = w) (fI Γ) (fA Γ)) 0 0 (fA Γ) := by
  refine fw_met (by decide) (Nat.le_of_ble_eq_true rfl) ?_
  intro p e s m below meth c ls C hP hS hr hlk hin hl
  have C : fC p s m [.ref (w.1 0 0), .int (nI a), .int (nI b), .long x].toArray c cX4_hasRole 7 RX4 Γ := C
  have hx := C.1.1
  have hb := C.1.2.1
  have hl : lv_has ls 7 [(0, .ref (w.1 0 0)), (1, .int (nI a)), (2, .int (nI b)), (3, .long x)] := hl
  obtain ⟨fR, hR1, hR2, -⟩ := hR
  refine lv_iconst (v := nI 0) hx hb dX4_hasRole_0 (by decide) ?_
  refine lv_istore (lv' := [(5, .int (nI 0)), (0, .ref (w.1 0 0)), (1, .int (nI a)), (2, .int (nI b)), (3, .long x)]) hx hb dX4_hasRole_1 hl (by decide) rfl (fun ls hl => ?_)
  refine W.widen (k := 0) (n := 0) (Nat.le_of_ble_eq_true rfl) (Nat.le_of_ble_eq_true rfl) ?_
  have loop : ∀ (fu : Nat) (i : Nat) (H : Heap) (locs : List Loc) (ls : Array Slot), 101 - i < fu → (i ≤ s_nr σ) → (s_rl σ a b x i = false) → fP Γ w H → va_S (fA Γ) s.heap H locs → lv_has ls 7 [(5, .int (nI i)), (0, .ref (w.1 0 0)), (1, .int (nI a)), (2, .int (nI b)), (3, .long x)] → W p l e (rmD 1 0 0) s m [.ref (w.1 0 0), .int (nI a), .int (nI b), .long x].toArray below meth c H locs 0 0 (MQ below (va_Qi (fun r w1 => r = b2i (s_rl σ a b x (s_nr σ)) ∧ w1 = w) (fI Γ) (fA Γ)) [.ref (w.1 0 0), .int (nI a), .int (nI b), .long x].toArray s 0 0 (fA Γ)) (F0 m 3 ls []) := by
    intro fu
    induction fu with
    | zero =>
      intro i H locs ls hf
      exact absurd hf (Nat.not_lt_zero _)
    | succ fu ih =>
      intro i H locs ls hf hi hz hP hS hl
      refine lv_iload hx hb dX4_hasRole_3 (lv_at hl 0 rfl) ?_
      refine lv_bipush (v := nI 100) hx hb dX4_hasRole_5 (by decide) ?_
      refine fw_geN (tgt := 52) hx hb (by omega) (by omega) dX4_hasRole_7 (by decide) (fun c_7 => ?_) (fun c_7 => ?_)
      · refine lv_iconst (v := nI 0) hx hb dX4_hasRole_52 (by decide) ?_
        exact fw_reti C hr hlk rfl hP hS (⟨b2i_f (by rw [← hz, (by omega : i = s_nr σ)]), rfl⟩) (Nat.le_of_ble_eq_true rfl) (Nat.le_of_ble_eq_true rfl) dX4_hasRole_53
      · refine lv_iload hx hb dX4_hasRole_10 (lv_at hl 0 rfl) ?_
        refine lv_aload_n hx hb dX4_hasRole_12 rfl (lv_at hl 1 rfl) ?_
        refine gf_X4_57 C hP h0 rfl rfl dX4_hasRole_13 ?_
        refine fw_geN (tgt := 52) hx hb (by omega) (by omega) dX4_hasRole_16 (by decide) (fun c_16 => ?_) (fun c_16 => ?_)
        · refine lv_iconst (v := nI 0) hx hb dX4_hasRole_52 (by decide) ?_
          exact fw_reti C hr hlk rfl hP hS (⟨b2i_f (by rw [← hz, (by omega : i = s_nr σ)]), rfl⟩) (Nat.le_of_ble_eq_true rfl) (Nat.le_of_ble_eq_true rfl) dX4_hasRole_53
        · refine lv_aload_n hx hb dX4_hasRole_19 rfl (lv_at hl 1 rfl) ?_
          refine gf_X4_11 C hP h0 rfl rfl dX4_hasRole_20 ?_
          refine lv_iload hx hb dX4_hasRole_23 (lv_at hl 0 rfl) ?_
          refine fw_aald (Cn := RX0) C hP (by decide) rfl hR1 rfl i rfl (by omega) (by decide) (show va_rf (fR i) = .ref (w.1 10 i) from (by rw [(hR2 i (by omega)).1]; rfl)) dX4_hasRole_25 ?_
          refine lv_astore (lv' := [(6, .ref (w.1 10 i)), (5, .int (nI i)), (0, .ref (w.1 0 0)), (1, .int (nI a)), (2, .int (nI b)), (3, .long x)]) hx hb dX4_hasRole_26 hl (by decide) rfl (fun ls hl => ?_)
          refine lv_aload hx hb dX4_hasRole_28 (lv_at hl 0 rfl) ?_
          refine lv_ifnull hx hb dX4_hasRole_30 ?_
          refine lv_aload hx hb dX4_hasRole_33 (lv_at hl 0 rfl) ?_
          refine lv_iload_n hx hb dX4_hasRole_35 rfl (lv_at hl 3 rfl) ?_
          refine lv_iload_n hx hb dX4_hasRole_36 rfl (lv_at hl 4 rfl) ?_
          refine lv_lload_n hx hb dX4_hasRole_37 rfl (lv_at hl 5 rfl) ?_
          refine fw_ci0 (w := w) hS (fw_rV (rest := []) (As := [.int (nI a), .int (nI b), .long x]) C hP hS wV_X4_164 (k_X0_isHeldBy l Γ w σ i a b x ha hb0 (hI2 i (by omega)) (hR2 i (by omega)).2) (hR2 i (by omega)).2 rfl rfl (fRm_mk rfl rfl (Nat.le_of_ble_eq_true rfl) (Nat.le_of_ble_eq_true rfl) (Nat.le_of_ble_eq_true rfl) (Nat.le_of_ble_eq_true rfl) (Nat.le_of_ble_eq_true rfl)) rfl hl.1 rfl dX4_hasRole_38) (fun H locs hP hS => ?_)
          refine fw_ieqB (tgt := 46) hx hb dX4_hasRole_41 (by decide) (fun c_41 => ?_) (fun c_41 => ?_)
          · refine lv_iinc (v := nI (i + 1)) (lv' := [(5, .int (nI (i + 1))), (6, .ref (w.1 10 i)), (0, .ref (w.1 0 0)), (1, .int (nI a)), (2, .int (nI b)), (3, .long x)]) hx hb dX4_hasRole_46 hl (k := 1) rfl (by rw [show Int32.ofInt 1 = nI 1 from rfl, nI_add]) (by decide) rfl (fun ls hl => ?_)
            refine lv_goto (tgt := 3) hx hb dX4_hasRole_49 (by decide) ?_
            refine W.widen (k := 0) (n := 0) (Nat.le_of_ble_eq_true rfl) (Nat.le_of_ble_eq_true rfl) ?_
            exact ih (i + 1) H locs ls (by omega) (by omega) (by rw [s_rl, hz, c_41]; rfl) hP hS (lv_sub hl [0, 2, 3, 4, 5] rfl)
          · refine lv_iconst (v := nI 1) hx hb dX4_hasRole_44 (by decide) ?_
            exact fw_reti C hr hlk rfl hP hS (⟨b2i_t (s_rl_t (i := i + 1) (by rw [s_rl, c_41, Bool.or_true]) (by omega)), rfl⟩) (Nat.le_of_ble_eq_true rfl) (Nat.le_of_ble_eq_true rfl) dX4_hasRole_45
  exact loop 102 0 _ _ _ (by omega) (by omega) rfl hP hS (lv_sub hl [0, 1, 2, 3, 4] rfl)
set_option maxHeartbeats 4000000 in
set_option maxRecDepth 100000 in
theorem k_X4_isStanding (l : Launch) (Γ : FG) (w : FW) (σ : St) (i : Nat) (hI : Inv σ) (hR : Rc σ w) (hi : i < s_ns σ) : Met l yX4_isStanding (ws_ yX4_isStanding cX4_isStanding 2 (some .boolean)) (rmD 4 0 0) (va_Pc [.ref (w.1 0 0), .ref (w.1 16 i)] (fI Γ w)) (va_Qi (fun r w1 => r = b2i (s_sd σ i) ∧ Rc σ w1 ∧ frd w w1) (fI Γ) (fA Γ)) 0 0 (fA Γ) := by
  refine fw_met (by decide) (Nat.le_of_ble_eq_true rfl) ?_
  intro p e s m below meth c ls C hP hS hr hlk hin hl
  have C : fC p s m [.ref (w.1 0 0), .ref (w.1 16 i)].toArray c cX4_isStanding 2 RX4 Γ := C
  have hx := C.1.1
  have hb := C.1.2.1
  have hl : lv_has ls 2 [(0, .ref (w.1 0 0)), (1, .ref (w.1 16 i))] := hl
  obtain ⟨hS1, d17, h17, hd17⟩ := hR.2.2.2.1.2.1 i hi
  have hst := (hI.2.2.2.2.2.1 i hi).1
  refine lv_aload_n hx hb dX4_isStanding_0 rfl (lv_at hl 1 rfl) ?_
  refine gf_X4_142 C hP hS1 rfl rfl dX4_isStanding_1 ?_
  refine fw_ineB (tgt := 29) hx hb dX4_isStanding_4 (by decide) (fun c_4 => ?_) (fun c_4 => ?_)
  · refine lv_iconst (v := nI 0) hx hb dX4_isStanding_29 (by decide) ?_
    exact fw_reti C hr hlk rfl hP hS (⟨b2i_f (by rw [s_sd, c_4]; rfl), hR, frd_rf w⟩) (Nat.le_of_ble_eq_true rfl) (Nat.le_of_ble_eq_true rfl) dX4_isStanding_30
  · refine lv_aload_n hx hb dX4_isStanding_7 rfl (lv_at hl 1 rfl) ?_
    refine gf_X4_123 C hP hS1 rfl rfl dX4_isStanding_8 ?_
    refine lv_aload_n hx hb dX4_isStanding_11 rfl (lv_at hl 0 rfl) ?_
    refine lv_aload_n hx hb dX4_isStanding_12 rfl (lv_at hl 1 rfl) ?_
    refine gf_X4_167 C hP hS1 rfl rfl dX4_isStanding_13 ?_
    refine fw_cq hS (fw_rV (rest := [.ref (w.1 17 i)]) (As := [.ref (w.1 11 (s_st σ i))]) C hP hS wV_X4_119 (k_X4_digestWordsOf l Γ w σ (s_st σ i) hR.1 hR.2.2.2.2.2.2 (hR.2.2.1.2.1 _ hst) (hI.2.2.1 (s_st σ i)).1) hR.1 rfl rfl (fRm_mk rfl rfl (Nat.le_of_ble_eq_true rfl) (Nat.le_of_ble_eq_true rfl) (Nat.le_of_ble_eq_true rfl) (Nat.le_of_ble_eq_true rfl) (Nat.le_of_ble_eq_true rfl)) rfl hl.1 rfl dX4_isStanding_16) (fun r1 w1 H locs hp hP hS => ?_)
    obtain ⟨ad1, u1⟩ := w1
    obtain ⟨rfl, ha1, hk1, hlv1, hH1, hT1, d1, hd1, hdd1⟩ := hp
    have ha1 : ad1 = w.1 := ha1
    subst ha1
    have hR1 : Rc σ (w.1, u1) := Rc_dig (t := s_st σ i) hR rfl hk1 hH1 hst hT1
    have hf1 : frd w (w.1, u1) := ⟨rfl, fun k i2 q => hk1 k i2 (by omega), hlv1⟩
    refine fw_Eq (y := .ref (w.1 13 (s_st σ i))) rfl ?_
    refine fw_ci0 (w := (w.1, u1)) hS (fw_rS (rest := []) (As := [.ref (w.1 17 i), .ref (w.1 13 (s_st σ i))]) C hP hS wS_X4_177 (k_X4_areSameWords l Γ (w.1, u1) 17 i 13 (s_st σ i) d17 d1 ((hk1 17 i (by omega)).trans h17) hd1) (fRm_mk rfl rfl (Nat.le_of_ble_eq_true rfl) (Nat.le_of_ble_eq_true rfl) (Nat.le_of_ble_eq_true rfl) (Nat.le_of_ble_eq_true rfl) (Nat.le_of_ble_eq_true rfl)) rfl hl.1 rfl dX4_isStanding_19) (fun H locs hP hS => ?_)
    refine fw_ieqB (tgt := 29) hx hb dX4_isStanding_22 (by decide) (fun c_22 => ?_) (fun c_22 => ?_)
    · refine lv_iconst (v := nI 0) hx hb dX4_isStanding_29 (by decide) ?_
      exact fw_reti C hr hlk rfl hP hS (⟨b2i_f (by rw [s_sd, c_4, ← eqw_congr (f := d17) (g := d1) hd17 hdd1, c_22]; rfl), hR1, hf1⟩) (Nat.le_of_ble_eq_true rfl) (Nat.le_of_ble_eq_true rfl) dX4_isStanding_30
    · refine lv_iconst (v := nI 1) hx hb dX4_isStanding_25 (by decide) ?_
      refine lv_goto (tgt := 30) hx hb dX4_isStanding_26 (by decide) ?_
      exact fw_reti C hr hlk rfl hP hS (⟨b2i_t (by rw [s_sd, c_4, ← eqw_congr (f := d17) (g := d1) hd17 hdd1, c_22]; rfl), hR1, hf1⟩) (Nat.le_of_ble_eq_true rfl) (Nat.le_of_ble_eq_true rfl) dX4_isStanding_30
