theorem th_no {σ : St} {p : Int32} (h : fIn p (s_np σ) = false) : a_thing σ p = -1 ∧ n_thing σ p = σ := by
  unfold a_thing n_thing
  rw [h]
  exact ⟨rfl, rfl⟩
theorem th_full {σ : St} {p : Int32} (h : fIn p (s_np σ) = true) (h2 : s_nt σ = 16) : a_thing σ p = -2 ∧ n_thing σ p = σ := by
  unfold a_thing n_thing
  rw [h, if_pos h2, if_pos h2]
  exact ⟨rfl, rfl⟩
theorem th_ok {σ : St} {p : Nat} (h : fIn (nI p) (s_np σ) = true) (h2 : s_nt σ ≠ 16) (hp : p < 2 ^ 31) : a_thing σ (nI p) = nI (s_nt σ) ∧ n_thing σ (nI p) = ((s_np σ, s_nr σ, s_nt σ + 1, s_ns σ, s_nw σ, s_ck σ), σ.2.1, (va_up (s_mk σ) (s_nt σ) p, σ.2.2.1.2), σ.2.2.2) := by
  unfold a_thing n_thing
  rw [h, if_neg h2, if_neg h2, n_of_nI hp]
  exact ⟨rfl, rfl⟩
theorem Rc_thing {σ : St} {w w1 : FW} {a q q1 q2 q3 q4 : Nat} {f : Nat → Option Nat} (hR : Rc σ w) (hI : Inv σ) (hf : w.2 2 0 = some (aR 6 16 f)) (hfr : ∀ k i, ¬ (i = s_nt σ ∧ 11 ≤ k ∧ k ≤ 15) → w1.2 k i = w.2 k i ∧ w1.1 k i = w.1 k i) (a11 : w1.1 11 (s_nt σ) = q) (a12 : w1.1 12 (s_nt σ) = q1) (a13 : w1.1 13 (s_nt σ) = q2) (a14 : w1.1 14 (s_nt σ) = q3) (a15 : w1.1 15 (s_nt σ) = q4)
    (e12 : w1.2 12 (s_nt σ) = some (aI 0 1000 (fun _ => 0))) (e13 : w1.2 13 (s_nt σ) = some (aI 1 8 (fun _ => 0))) (e14 : w1.2 14 (s_nt σ) = some (aI 0 200 (fun _ => 0))) (e15 : w1.2 15 (s_nt σ) = some (aI 1 10 (fun _ => 0))) (e11 : w1.2 11 (s_nt σ) = some (oO 3 [.int (nI a), .ref q1, .int 0, .ref q2, .int (b2i true), .ref q3, .int 0, .ref q4, .int 0]))
    {σ1 : St} (e : σ1 = ((s_np σ, s_nr σ, s_nt σ + 1, s_ns σ, s_nw σ, s_ck σ), σ.2.1, (va_up (s_mk σ) (s_nt σ) a, σ.2.2.1.2), σ.2.2.2)) : Rc σ1 (fset (fset w1 2 0 (aR 6 16 (va_up f (s_nt σ) (some q)))) 0 0 (oSR σ1 w)) ∧ fr w (fset (fset w1 2 0 (aR 6 16 (va_up f (s_nt σ) (some q)))) 0 0 (oSR σ1 w)) := by
  have hIt := hI.2.2.1 (s_nt σ)
  have hz := hIt.2.2.2.2 (Nat.le_refl _)
  have hIs := hI.2.2.2.2.2.1
  obtain ⟨r0, r1, ⟨⟨f2v, rT1, rT2⟩, rT3, rT4⟩, r3, r4, r5, r6⟩ := hR
  have ef : f2v = f := by
    have := rT1.symm.trans hf
    simpa [aR] using this
  subst ef
  generalize hW : fset (fset w1 2 0 (aR 6 16 (va_up f2v (s_nt σ) (some q)))) 0 0 (oSR σ1 w) = W
  have hWa : W.1 = w1.1 := by rw [← hW]; rfl
  have hWp : ∀ k i, k ≠ 0 → k ≠ 2 → W.2 k i = w1.2 k i := fun k i h0 h2 => by rw [← hW]; exact (fset_ne h0).trans (fset_ne h2)
  have s : ∀ k, k ≠ 0 → k ≠ 2 → (k < 11 ∨ 15 < k) → sk k w W := fun k h0 h2 h3 i => ⟨(hWp k i h0 h2).trans (hfr k i (by omega)).1, by rw [hWa]; exact (hfr k i (by omega)).2⟩
  have hA : ∀ k, k < 11 → W.1 k 0 = w.1 k 0 := fun k hk => by rw [hWa]; exact (hfr k 0 (by omega)).2
  refine ⟨⟨?_, ?_, ⟨⟨va_up f2v (s_nt σ) (some q), ?_, fun t ht => ?_⟩, fun t ht => ?_, fun t ht => ?_⟩, ?_, ?_, ?_, RcH_c r6 (s 7 (by decide) (by decide) (by decide)) (s 8 (by decide) (by decide) (by decide)) (s 9 (by decide) (by decide) (by decide))⟩, ⟨fun k i h => ?_, fun k i h => ?_⟩⟩
  · show W.2 0 0 = some (oO 4 [_, .ref (W.1 1 0), _, .ref (W.1 2 0), _, .ref (W.1 3 0), _, .ref (W.1 4 0), _, .ref (W.1 5 0), .ref (W.1 6 0), _, .ref (W.1 7 0)])
    rw [hA 1 (by omega), hA 2 (by omega), hA 3 (by omega), hA 4 (by omega), hA 5 (by omega), hA 6 (by omega), hA 7 (by omega), ← hW]
    exact fset_at
  · subst e; exact RcR_c (σ := σ) r1 (s 1 (by decide) (by decide) (by decide)) (s 10 (by decide) (by decide) (by decide))
  · rw [← hW]; exact (fset_ne (by decide)).trans fset_at
  · have ht : t < s_nt σ + 1 := by rw [e] at ht; exact ht
    by_cases h9 : t = s_nt σ
    · subst h9
      rw [va_up_self, hWa, a11]
    · rw [va_up_ne _ _ h9, rT2 t (by omega), hWa, (hfr 11 t (fun z => h9 z.1)).2]
  · have ht : t < s_nt σ + 1 := by rw [e] at ht; exact ht
    by_cases h9 : t = s_nt σ
    · subst h9
      refine ⟨fun _ => 0, fun _ => 0, fun _ => 0, fun _ => 0, true, ?_, (hWp 12 _ (by decide) (by decide)).trans e12, (hWp 13 _ (by decide) (by decide)).trans e13, (hWp 14 _ (by decide) (by decide)).trans e14, (hWp 15 _ (by decide) (by decide)).trans e15, fun j hj => ?_, fun j hj => ?_, fun j hj => ?_, fun z => by cases z⟩
      · rw [hWp 11 _ (by decide) (by decide), e11]
        subst e
        show _ = some (oO 3 [.int (nI (va_up (s_mk σ) (s_nt σ) a (s_nt σ))), .ref (W.1 12 (s_nt σ)), .int (nI (s_ln σ (s_nt σ))), .ref (W.1 13 (s_nt σ)), _, .ref (W.1 14 (s_nt σ)), .int (nI (s_cn σ (s_nt σ))), .ref (W.1 15 (s_nt σ)), .int (nI (s_dn σ (s_nt σ)))])
        rw [va_up_self, hz.1, hz.2.1, hz.2.2, hWa, a12, a13, a14, a15]
        rfl
      · subst e
        have hj : j < s_ln σ (s_nt σ) := hj
        rw [hz.1] at hj
        exact absurd hj (Nat.not_lt_zero _)
      · subst e
        have hj : j < s_cn σ (s_nt σ) := hj
        rw [hz.2.1] at hj
        exact absurd hj (Nat.not_lt_zero _)
      · subst e
        have hj : j < s_dn σ (s_nt σ) := hj
        rw [hz.2.2] at hj
        exact absurd hj (Nat.not_lt_zero _)
    · have hT := Th_c (w1 := W) (rT3 t (by omega)) (fun k b1 b2 => ⟨(hWp k t (by omega) (by omega)).trans (hfr k t (fun z => h9 z.1)).1, by rw [hWa]; exact (hfr k t (fun z => h9 z.1)).2⟩)
      subst e
      exact Th_eq hT (va_up_ne _ _ h9) rfl rfl rfl rfl rfl rfl
  · have ht : s_nt σ + 1 ≤ t := by rw [e] at ht; exact ht
    obtain ⟨b1, b2, b3, b4, b5⟩ := rT4 t (by omega)
    exact ⟨(hWp 11 t (by decide) (by decide)).trans ((hfr 11 t (by omega)).1.trans b1), (hWp 12 t (by decide) (by decide)).trans ((hfr 12 t (by omega)).1.trans b2), (hWp 13 t (by decide) (by decide)).trans ((hfr 13 t (by omega)).1.trans b3), (hWp 14 t (by decide) (by decide)).trans ((hfr 14 t (by omega)).1.trans b4), (hWp 15 t (by decide) (by decide)).trans ((hfr 15 t (by omega)).1.trans b5)⟩
  · subst e; exact RcS_c (σ := σ) r3 (s 3 (by decide) (by decide) (by decide)) (s 16 (by decide) (by decide) (by decide)) (s 17 (by decide) (by decide) (by decide)) (fun i hi => by rw [hWa]; exact (hfr 11 _ (by have := (hIs i hi).1; omega)).2)
  · subst e; exact RcW_c (σ := σ) r4 (s 4 (by decide) (by decide) (by decide))
  · subst e; exact RcO_c (σ := σ) r5 (s 5 (by decide) (by decide) (by decide)) (s 6 (by decide) (by decide) (by decide))
  · obtain ⟨b1, b2, b3, b4, b5⟩ := rT4 (s_nt σ) (Nat.le_refl _)
    have hne : ¬ (i = s_nt σ ∧ 11 ≤ k ∧ k ≤ 15) := by
      rintro ⟨rfl, g1, g2⟩
      rcases (show k = 11 ∨ k = 12 ∨ k = 13 ∨ k = 14 ∨ k = 15 by omega) with rfl | rfl | rfl | rfl | rfl
      · exact h b1
      · exact h b2
      · exact h b3
      · exact h b4
      · exact h b5
    refine ⟨?_, by rw [hWa]; exact (hfr k i hne).2⟩
    rw [← hW]
    exact fset_lv (fset_lv (by rw [(hfr k i hne).1]; exact h))
  · exact (hWp k i (by omega) (by omega)).trans (hfr k i (by omega)).1
set_option maxHeartbeats 4000000 in
set_option maxRecDepth 100000 in
theorem k_X4_thing (l : Launch) (Γ : FG) (w : FW) (σ : St) (px : Int32) (hI : Inv σ) (hR : Rc σ w) : Met l yX4_thing (ws_ yX4_thing cX4_thing 2 (some .int)) (rmD 9 5 1230) (va_Pc [.ref (w.1 0 0), .int px] (fI Γ w)) (va_Qi (fun r w1 => r = a_thing σ px ∧ Rc (n_thing σ px) w1 ∧ fr w w1) (fI Γ) (fA Γ)) 5 1230 (fA Γ) := by
  refine fw_met (by decide) (Nat.le_of_ble_eq_true rfl) ?_
  intro p e s m below meth c ls C hP hS hr hlk hin hl
  have C : fC p s m [.ref (w.1 0 0), .int px].toArray c cX4_thing 2 RX4 Γ := C
  have hx := C.1.1
  have hb := C.1.2.1
  have hl : lv_has ls 2 [(0, .ref (w.1 0 0)), (1, .int px)] := hl
  obtain ⟨⟨hnp, hnr, hnt, hns, hnw, hck0, hck1⟩, hIr, hIt, hIb, hIn, hIs, hIg, hIw, hIa⟩ := id hI
  obtain ⟨fT, hT1, hT2⟩ := id hR.2.2.1.1
  obtain ⟨hT11, hT12, hT13, hT14, hT15⟩ := id (hR.2.2.1.2.2 (s_nt σ) (Nat.le_refl _))
  refine lv_aload_n hx hb dX4_thing_0 rfl (lv_at hl 0 rfl) ?_
  refine lv_iload_n hx hb dX4_thing_1 rfl (lv_at hl 1 rfl) ?_
  refine fw_ci0 (w := w) hS (fw_rV (rest := []) (As := [.int px]) C hP hS wV_X4_48 (k_X4_isPerson l Γ w σ px hnp hR.1) hR.1 rfl rfl (fRm_mk rfl rfl (Nat.le_of_ble_eq_true rfl) (Nat.le_of_ble_eq_true rfl) (Nat.le_of_ble_eq_true rfl) (Nat.le_of_ble_eq_true rfl) (Nat.le_of_ble_eq_true rfl)) rfl hl.1 rfl dX4_thing_2) (fun H locs hP hS => ?_)
  refine fw_ineB (tgt := 10) hx hb dX4_thing_5 (by decide) (fun c_5 => ?_) (fun c_5 => ?_)
  · obtain ⟨pp, hpp, rfl⟩ := fIn_t c_5 (by omega)
    refine lv_aload_n hx hb dX4_thing_10 rfl (lv_at hl 0 rfl) ?_
    refine gf_X4_63 C hP hR.1 rfl rfl dX4_thing_11 ?_
    refine lv_bipush (v := nI 16) hx hb dX4_thing_14 (by decide) ?_
    refine fw_ltN (tgt := 22) hx hb (by omega) (by omega) dX4_thing_16 (by decide) (fun c_16 => ?_) (fun c_16 => ?_)
    · refine lv_aload_n hx hb dX4_thing_22 rfl (lv_at hl 0 rfl) ?_
      refine gf_X4_17 C hP hR.1 rfl rfl dX4_thing_23 ?_
      refine lv_aload_n hx hb dX4_thing_26 rfl (lv_at hl 0 rfl) ?_
      refine gf_X4_63 C hP hR.1 rfl rfl dX4_thing_27 ?_
      refine fw_new (ci := 3) (fs := [.int 0, .null, .int 0, .null, .int (b2i false), .null, .int 0, .null, .int 0]) C hP hS 11 (s_nt σ) qy_X3 tyX3 tyX3_ok rfl ⟨ql_X4_15, qx_X3, qn_X3⟩ (by intro j hj; match j, hj with | 0, _ => rfl | 1, _ => rfl | 2, _ => rfl | 3, _ => rfl | 4, _ => rfl | 5, _ => rfl | 6, _ => rfl | 7, _ => rfl | 8, _ => rfl | k + 9, hj => exact absurd hj (by omega)) hT11 (Nat.le_of_ble_eq_true rfl) (Nat.le_of_ble_eq_true rfl) dX4_thing_30 (fun q30 H hP hS => ?_)
      have hP : fP Γ (fnew w 11 (s_nt σ) (oO 3 [.int 0, .null, .int 0, .null, .int (b2i false), .null, .int 0, .null, .int 0]) q30) H := hP
      refine lv_dup hx hb dX4_thing_33 rfl ?_
      refine lv_iload_n hx hb dX4_thing_34 rfl (lv_at hl 1 rfl) ?_
      have hm := k_X3_init l Γ (fnew w 11 (s_nt σ) (oO 3 [.int 0, .null, .int 0, .null, .int (b2i false), .null, .int 0, .null, .int 0]) q30) (s_nt σ) pp fnew_at ((fnew_ne (by decide)).trans hT12) ((fnew_ne (by decide)).trans hT13) ((fnew_ne (by decide)).trans hT14) ((fnew_ne (by decide)).trans hT15)
      rw [show (fnew w 11 (s_nt σ) (oO 3 [.int 0, .null, .int 0, .null, .int (b2i false), .null, .int 0, .null, .int 0]) q30).1 11 (s_nt σ) = q30 from fnew_aat] at hm
      refine fw_cv hS (fw_rI (rest := [.ref q30, .int (nI (s_nt σ)), .ref (w.1 2 0)]) (As := [.int (nI pp)]) C hP hS wI_X4_66 (hm) (fRm_mk rfl rfl (Nat.le_of_ble_eq_true rfl) (Nat.le_of_ble_eq_true rfl) (Nat.le_of_ble_eq_true rfl) (Nat.le_of_ble_eq_true rfl) (Nat.le_of_ble_eq_true rfl)) rfl hl.1 rfl dX4_thing_35) (fun w1 H locs hp hP hS => ?_)
      obtain ⟨q1, q2, q3, q4, hfr0, b11, b12, b13, b14, b15, d12, d13, d14, d15, d11⟩ := hp
      have hfr : ∀ k i, ¬ (i = s_nt σ ∧ 11 ≤ k ∧ k ≤ 15) → w1.2 k i = w.2 k i ∧ w1.1 k i = w.1 k i := by
        intro k i h
        obtain ⟨g1, g2⟩ := hfr0 k i h
        have hne : ¬ (k = 11 ∧ i = s_nt σ) := fun z => h ⟨z.2, by omega, by omega⟩
        rw [g1, g2]
        show f2 w.2 11 (s_nt σ) _ k i = _ ∧ f2 w.1 11 (s_nt σ) _ k i = _
        unfold f2
        by_cases h1 : k = 11
        · have h2 : i ≠ s_nt σ := fun z => hne ⟨h1, z⟩
          simp [h1, h2]
        · simp [h1]
      refine fw_aast (ci := 3) C hP hS (by decide) rfl rfl ((hfr 2 0 (by omega)).1.trans hT1) (hfr 2 0 (by omega)).2 d11 b11 (s_nt σ) rfl (by omega) (by decide) dX4_thing_38 (fun H locs hP hS => ?_)
      have hP : fP Γ (fset w1 2 0 (aR 6 16 (va_up fT (s_nt σ) (some q30)))) H := hP
      refine lv_aload_n hx hb dX4_thing_39 rfl (lv_at hl 0 rfl) ?_
      refine lv_dup hx hb dX4_thing_40 rfl ?_
      refine gf_X4_63 C hP ((fset_ne (by decide)).trans ((hfr 0 0 (by omega)).1.trans hR.1)) (hfr 0 0 (by omega)).2 rfl dX4_thing_41 ?_
      refine lv_dup_x1 hx hb dX4_thing_44 rfl rfl ?_
      refine lv_iconst (v := nI 1) hx hb dX4_thing_45 (by decide) ?_
      refine fw_addN hx hb dX4_thing_46 ?_
      refine pf_X4_63 C hP hS rfl rfl ((fset_ne (by decide)).trans ((hfr 0 0 (by omega)).1.trans hR.1)) (hfr 0 0 (by omega)).2 (Nat.le_of_ble_eq_true rfl) dX4_thing_47 (fun H locs hP hS => ?_)
      have hP : fP Γ (fset (fset w1 2 0 (aR 6 16 (va_up fT (s_nt σ) (some q30)))) 0 0 (oO 4 [.int (nI (s_np σ)), .ref (w.1 1 0), .int (nI (s_nr σ)), .ref (w.1 2 0), .int (nI (s_nt σ + 1)), .ref (w.1 3 0), .int (nI (s_ns σ)), .ref (w.1 4 0), .int (nI (s_nw σ)), .ref (w.1 5 0), .ref (w.1 6 0), .long (s_ck σ), .ref (w.1 7 0)])) H := hP
      have hok := th_ok c_5 (by omega) (by omega)
      exact fw_reti C hr hlk rfl hP hS (⟨hok.1.symm, by rw [hok.2]; exact Rc_thing hR hI hT1 hfr b11 b12 b13 b14 b15 d12 d13 d14 d15 d11 rfl⟩) (Nat.le_of_ble_eq_true rfl) (Nat.le_of_ble_eq_true rfl) dX4_thing_50
    · refine lv_bipush (v := (-2)) hx hb dX4_thing_19 (by decide) ?_
      exact fw_reti C hr hlk rfl hP hS (⟨(th_full c_5 (by omega)).1.symm, by rw [(th_full c_5 (by omega)).2]; exact hR, fr_rf w⟩) (Nat.le_of_ble_eq_true rfl) (Nat.le_of_ble_eq_true rfl) dX4_thing_21
  · refine lv_iconst (v := (-1)) hx hb dX4_thing_8 (by decide) ?_
    exact fw_reti C hr hlk rfl hP hS (⟨(th_no c_5).1.symm, by rw [(th_no c_5).2]; exact hR, fr_rf w⟩) (Nat.le_of_ble_eq_true rfl) (Nat.le_of_ble_eq_true rfl) dX4_thing_9
theorem by_m : ∀ v, v < 256 → vp_nar .byte ((nI v).toInt8.toInt32) &&& 255 = nI v := by decide +kernel
theorem bo_f {σ : St} {t b : Int32} (h : fIn t (s_nt σ) = false ∨ fIn b 256 = false ∨ s_ln σ (n_of t) = 1000) : a_byteOf σ t b = false := by
  unfold a_byteOf
  rcases h with h | h | h
  · rw [h]; rfl
  · rw [h, Bool.and_false]; rfl
  · rw [show decide (s_ln σ (n_of t) ≠ 1000) = false from decide_eq_false (fun q => q h), Bool.and_false]
theorem bo_n {σ : St} {t b : Int32} (h : a_byteOf σ t b = false) : n_byteOf σ t b = σ := by rw [n_byteOf, h]; rfl
theorem bo_t {σ : St} {t : Nat} {b : Int32} (h1 : fIn (nI t) (s_nt σ) = true) (h2 : fIn b 256 = true) (ht : t < 2 ^ 31) (h3 : s_ln σ t ≠ 1000) : a_byteOf σ (nI t) b = true := by
  unfold a_byteOf
  rw [h1, h2, n_of_nI ht, show decide (s_ln σ t ≠ 1000) = true from decide_eq_true h3]
  rfl
theorem bo_m {σ : St} {t b : Nat} (h : a_byteOf σ (nI t) (nI b) = true) (ht : t < 2 ^ 31) (hb : b < 2 ^ 31) : n_byteOf σ (nI t) (nI b) = (σ.1, σ.2.1, (s_mk σ, va_up (s_ln σ) t (s_ln σ t + 1), f2 (s_by σ) t (s_ln σ t) b, σ.2.2.1.2.2.2), σ.2.2.2) := by
  rw [n_byteOf, h, n_of_nI ht, n_of_nI hb]
  rfl
theorem up_and {f : Nat → Int32} {g : Nat → Nat} {n v : Nat} {x : Int32} (h : ∀ j, j < n → f j &&& 255 = nI (g j)) (hx : x &&& 255 = nI v) : ∀ j, j < n + 1 → upd f n x j &&& 255 = nI (va_up g n v j) := by
  intro j hj
  unfold upd va_up
  by_cases e : j = n
  · rw [if_pos e, if_pos e]; exact hx
  · rw [if_neg e, if_neg e]; exact h j (by omega)
theorem f2_row {α : Type} {g : Nat → Nat → α} {k i : Nat} {v : α} : f2 g k i v k = va_up (g k) i v := by
  funext j
  unfold f2 va_up
  simp
theorem f2_oth {α : Type} {g : Nat → Nat → α} {k k1 i : Nat} {v : α} (h : k1 ≠ k) : f2 g k i v k1 = g k1 := by
  funext j
  unfold f2
  simp [h]
theorem Rc_byte {σ : St} {w : FW} {t v : Nat} {bf df cf nf : Nat → Int32} {zf : Bool} {x : Int32} (hR : Rc σ w) (ht : t < s_nt σ) (e13 : w.2 13 t = some (aI 1 8 df)) (e14 : w.2 14 t = some (aI 0 200 cf)) (e15 : w.2 15 t = some (aI 1 10 nf)) (hbf : ∀ j, j < s_ln σ t → bf j &&& 255 = nI (s_by σ t j)) (hcf : ∀ j, j < s_cn σ t → cf j &&& 255 = nI (s_cm σ t j)) (hnf : ∀ j, j < s_dn σ t → nf j = nI (s_nd σ t j)) (hx : x &&& 255 = nI v)
    {σ1 : St} (e : σ1 = (σ.1, σ.2.1, (s_mk σ, va_up (s_ln σ) t (s_ln σ t + 1), f2 (s_by σ) t (s_ln σ t) v, σ.2.2.1.2.2.2), σ.2.2.2)) : Rc σ1 (fset (fset w 12 t (aI 0 1000 (upd bf (s_ln σ t) x))) 11 t (oO 3 [.int (nI (s_mk σ t)), .ref (w.1 12 t), .int (nI (s_ln σ t + 1)), .ref (w.1 13 t), .int (b2i true), .ref (w.1 14 t), .int (nI (s_cn σ t)), .ref (w.1 15 t), .int (nI (s_dn σ t))])) := by
  refine Rc_thg hR ht (by rw [e]) (by rw [e]) (by rw [e]) rfl (fun k i h => ?_) ?_ (fun i hi => ?_)
  · rw [fset_off (by omega), fset_off (by omega)]
  · refine ⟨upd bf (s_ln σ t) x, df, cf, nf, true, ?_, (fset_ne (by decide)).trans fset_at, (fset_ne (by decide)).trans ((fset_ne (by decide)).trans e13), (fset_ne (by decide)).trans ((fset_ne (by decide)).trans e14), (fset_ne (by decide)).trans ((fset_ne (by decide)).trans e15), ?_, ?_, ?_, fun z => by cases z⟩
    · subst e
      refine fset_at.trans ?_
      show some (oO 3 [_, _, .int (nI (s_ln σ t + 1)), _, _, _, _, _, _]) = some (oO 3 [_, _, .int (nI (va_up (s_ln σ) t (s_ln σ t + 1) t)), _, _, _, _, _, _])
      rw [va_up_self]
      rfl
    · subst e
      intro j hj
      have hj : j < va_up (s_ln σ) t (s_ln σ t + 1) t := hj
      rw [va_up_self] at hj
      show _ = nI (f2 (s_by σ) t (s_ln σ t) v t j)
      rw [f2_row]
      exact up_and hbf hx j hj
    · subst e; exact hcf
    · subst e; exact hnf
  · subst e
    exact ⟨rfl, va_up_ne _ _ hi, f2_oth hi, rfl, rfl, rfl, rfl⟩
set_option maxHeartbeats 4000000 in
set_option maxRecDepth 100000 in
theorem k_X4_byteOf (l : Launch) (Γ : FG) (w : FW) (σ : St) (tx bx : Int32) (hI : Inv σ) (hR : Rc σ w) : Met l yX4_byteOf (ws_ yX4_byteOf cX4_byteOf 4 (some .boolean)) (rmD 9 5 1230) (va_Pc [.ref (w.1 0 0), .int tx, .int bx] (fI Γ w)) (va_Qi (fun r w1 => r = b2i (a_byteOf σ tx bx) ∧ Rc (n_byteOf σ tx bx) w1 ∧ fr w w1) (fI Γ) (fA Γ)) 5 1230 (fA Γ) := by
  refine fw_met (by decide) (Nat.le_of_ble_eq_true rfl) ?_
  intro p e s m below meth c ls C hP hS hr hlk hin hl
  have C : fC p s m [.ref (w.1 0 0), .int tx, .int bx].toArray c cX4_byteOf 4 RX4 Γ := C
  have hx := C.1.1
  have hb := C.1.2.1
  have hl : lv_has ls 4 [(0, .ref (w.1 0 0)), (1, .int tx), (2, .int bx)] := hl
  obtain ⟨⟨hnp, hnr, hnt, hns, hnw, hck0, hck1⟩, hIr, hIt, hIb, hIn, hIs, hIg, hIw, hIa⟩ := id hI
  refine lv_aload_n hx hb dX4_byteOf_0 rfl (lv_at hl 0 rfl) ?_
  refine lv_iload_n hx hb dX4_byteOf_1 rfl (lv_at hl 1 rfl) ?_
  refine fw_cq0 (w := w) hS (fw_rV (rest := []) (As := [.int tx]) C hP hS wV_X4_69 (k_X4_thingAt l Γ w σ tx hnt hR.1 hR.2.2.1.1) hR.1 rfl rfl (fRm_mk rfl rfl (Nat.le_of_ble_eq_true rfl) (Nat.le_of_ble_eq_true rfl) (Nat.le_of_ble_eq_true rfl) (Nat.le_of_ble_eq_true rfl) (Nat.le_of_ble_eq_true rfl)) rfl hl.1 rfl dX4_byteOf_2) (fun H locs hP hS => ?_)
  cases c_2 : fIn tx (s_nt σ) with
  | false =>
    refine fw_Eq (y := .null) rfl ?_
    refine lv_astore_nN (lv' := [(3, .null), (0, .ref (w.1 0 0)), (1, .int tx), (2, .int bx)]) hx hb dX4_byteOf_5 rfl hl (by decide) rfl (fun ls hl => ?_)
    refine lv_aload_nN hx hb dX4_byteOf_6 rfl (lv_at hl 0 rfl) ?_
    refine lv_ifnullN (tgt := 27) hx hb dX4_byteOf_7 (by decide) ?_
    refine lv_iconst (v := nI 0) hx hb dX4_byteOf_27 (by decide) ?_
    exact fw_reti C hr hlk rfl hP hS (⟨b2i_f (bo_f (Or.inl c_2)), by rw [bo_n (bo_f (Or.inl c_2))]; exact hR, fr_rf w⟩) (Nat.le_of_ble_eq_true rfl) (Nat.le_of_ble_eq_true rfl) dX4_byteOf_28
  | true =>
    obtain ⟨tt, htt, rfl⟩ := fIn_t c_2 (by omega)
    refine fw_Eq (y := .ref (w.1 11 tt)) (by rw [n_of_nI (by omega)]; rfl) ?_
    obtain ⟨hln, hcn, hdn, hmk, -⟩ := hIt tt
    obtain ⟨bf, df, cf, nf, zf, e11, e12, e13, e14, e15, hbf, hcf, hnf, hzf⟩ := id (hR.2.2.1.2.1 tt htt)
    refine lv_astore_n (lv' := [(3, .ref (w.1 11 tt)), (0, .ref (w.1 0 0)), (1, .int (nI tt)), (2, .int bx)]) hx hb dX4_byteOf_5 rfl hl (by decide) rfl (fun ls hl => ?_)
    refine lv_aload_n hx hb dX4_byteOf_6 rfl (lv_at hl 0 rfl) ?_
    refine lv_ifnull hx hb dX4_byteOf_7 ?_
    refine lv_iload_n hx hb dX4_byteOf_10 rfl (lv_at hl 3 rfl) ?_
    refine fw_ci0 (w := w) hS (fw_rS (rest := []) (As := [.int bx]) C hP hS wS_X4_73 (k_X4_isByte l Γ w bx) (fRm_mk rfl rfl (Nat.le_of_ble_eq_true rfl) (Nat.le_of_ble_eq_true rfl) (Nat.le_of_ble_eq_true rfl) (Nat.le_of_ble_eq_true rfl) (Nat.le_of_ble_eq_true rfl)) rfl hl.1 rfl dX4_byteOf_11) (fun H locs hP hS => ?_)
    refine fw_ieqB (tgt := 27) hx hb dX4_byteOf_14 (by decide) (fun c_14 => ?_) (fun c_14 => ?_)
    · refine lv_iconst (v := nI 0) hx hb dX4_byteOf_27 (by decide) ?_
      exact fw_reti C hr hlk rfl hP hS (⟨b2i_f (bo_f (Or.inr (Or.inl c_14))), by rw [bo_n (bo_f (Or.inr (Or.inl c_14)))]; exact hR, fr_rf w⟩) (Nat.le_of_ble_eq_true rfl) (Nat.le_of_ble_eq_true rfl) dX4_byteOf_28
    · obtain ⟨bb, hbb, rfl⟩ := fIn_t c_14 (by omega)
      refine lv_aload_n hx hb dX4_byteOf_17 rfl (lv_at hl 0 rfl) ?_
      refine gf_X4_76 C hP e11 rfl rfl dX4_byteOf_18 ?_
      refine lv_sipush (v := nI 1000) hx hb dX4_byteOf_21 (by decide) ?_
      refine fw_ltN (tgt := 29) hx hb (by omega) (by omega) dX4_byteOf_24 (by decide) (fun c_24 => ?_) (fun c_24 => ?_)
      · refine lv_aload_n hx hb dX4_byteOf_29 rfl (lv_at hl 0 rfl) ?_
        refine gf_X4_79 C hP e11 rfl rfl dX4_byteOf_30 ?_
        refine lv_aload_n hx hb dX4_byteOf_33 rfl (lv_at hl 0 rfl) ?_
        refine gf_X4_76 C hP e11 rfl rfl dX4_byteOf_34 ?_
        refine lv_iload_n hx hb dX4_byteOf_37 rfl (lv_at hl 3 rfl) ?_
        refine lv_i2b (v := (nI bb).toInt8.toInt32) hx hb dX4_byteOf_38 rfl ?_
        refine fw_bast C hP hS e12 rfl (s_ln σ tt) rfl (by omega) (by decide) dX4_byteOf_39 (fun H locs hP hS => ?_)
        have hP : fP Γ (fset w 12 tt (aI 0 1000 (upd bf (s_ln σ tt) (vp_nar .byte ((nI bb).toInt8.toInt32))))) H := hP
        refine lv_aload_n hx hb dX4_byteOf_40 rfl (lv_at hl 0 rfl) ?_
        refine lv_dup hx hb dX4_byteOf_41 rfl ?_
        refine gf_X4_76 C hP ((fset_ne (by decide)).trans e11) rfl rfl dX4_byteOf_42 ?_
        refine lv_iconst (v := nI 1) hx hb dX4_byteOf_45 (by decide) ?_
        refine fw_addN hx hb dX4_byteOf_46 ?_
        refine pf_X4_76 C hP hS rfl rfl ((fset_ne (by decide)).trans e11) rfl (Nat.le_of_ble_eq_true rfl) dX4_byteOf_47 (fun H locs hP hS => ?_)
        have hP : fP Γ (fset (fset w 12 tt (aI 0 1000 (upd bf (s_ln σ tt) (vp_nar .byte ((nI bb).toInt8.toInt32))))) 11 tt (oO 3 [.int (nI (s_mk σ tt)), .ref (w.1 12 tt), .int (nI (s_ln σ tt + 1)), .ref (w.1 13 tt), .int (b2i zf), .ref (w.1 14 tt), .int (nI (s_cn σ tt)), .ref (w.1 15 tt), .int (nI (s_dn σ tt))])) H := hP
        refine lv_aload_n hx hb dX4_byteOf_50 rfl (lv_at hl 0 rfl) ?_
        refine lv_iconst (v := nI 1) hx hb dX4_byteOf_51 (by decide) ?_
        refine pf_X4_83 C hP hS rfl rfl fset_at rfl (Nat.le_of_ble_eq_true rfl) dX4_byteOf_52 (fun H locs hP hS => ?_)
        have hP : fP Γ (fset (fset (fset w 12 tt (aI 0 1000 (upd bf (s_ln σ tt) (vp_nar .byte ((nI bb).toInt8.toInt32))))) 11 tt (oO 3 [.int (nI (s_mk σ tt)), .ref (w.1 12 tt), .int (nI (s_ln σ tt + 1)), .ref (w.1 13 tt), .int (b2i zf), .ref (w.1 14 tt), .int (nI (s_cn σ tt)), .ref (w.1 15 tt), .int (nI (s_dn σ tt))])) 11 tt (oO 3 [.int (nI (s_mk σ tt)), .ref (w.1 12 tt), .int (nI (s_ln σ tt + 1)), .ref (w.1 13 tt), .int (b2i true), .ref (w.1 14 tt), .int (nI (s_cn σ tt)), .ref (w.1 15 tt), .int (nI (s_dn σ tt))])) H := hP
        rw [fset_s] at hP
        refine lv_iconst (v := nI 1) hx hb dX4_byteOf_55 (by decide) ?_
        have htt1 := bo_t c_2 c_14 (by omega) (by omega : s_ln σ tt ≠ 1000)
        exact fw_reti C hr hlk rfl hP hS (⟨b2i_t htt1, by rw [bo_m htt1 (by omega) (by omega)]; exact Rc_byte (zf := zf) hR htt e13 e14 e15 hbf hcf hnf (by_m bb hbb) rfl, fr_tr (fr_set (by decide)) (fr_set (by decide))⟩) (Nat.le_of_ble_eq_true rfl) (Nat.le_of_ble_eq_true rfl) dX4_byteOf_56
      · refine lv_iconst (v := nI 0) hx hb dX4_byteOf_27 (by decide) ?_
        exact fw_reti C hr hlk rfl hP hS (⟨b2i_f (bo_f (Or.inr (Or.inr (by rw [n_of_nI (by omega)]; omega)))), by rw [bo_n (bo_f (Or.inr (Or.inr (by rw [n_of_nI (by omega)]; omega))))]; exact hR, fr_rf w⟩) (Nat.le_of_ble_eq_true rfl) (Nat.le_of_ble_eq_true rfl) dX4_byteOf_28
