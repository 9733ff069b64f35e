theorem wi_f {σ : St} {x : Int32} (h : fIn x (s_ns σ) = false ∨ s_sg σ (n_of x) = true) : a_withdraw σ x = false := by
  unfold a_withdraw
  rcases h with h | h
  · rw [h]; rfl
  · rw [h]; exact Bool.and_false _
theorem wi_n {σ : St} {x : Int32} (h : a_withdraw σ x = false) : n_withdraw σ x = σ := by rw [n_withdraw, h]; rfl
theorem wi_t {σ : St} {i : Nat} (h1 : fIn (nI i) (s_ns σ) = true) (hi : i < 2 ^ 31) (h2 : s_sg σ i = false) : a_withdraw σ (nI i) = true := by rw [a_withdraw, h1, n_of_nI hi, h2]; rfl
theorem wi_m {σ : St} {i : Nat} (h : a_withdraw σ (nI i) = true) (hi : i < 2 ^ 31) : n_withdraw σ (nI i) = ((s_np σ, s_nr σ, s_nt σ, s_ns σ, s_nw σ + 1, s_ck σ), σ.2.1, σ.2.2.1, (s_st σ, s_sp σ, s_sm σ, s_sw σ, va_up (s_sg σ) i true, va_up (s_wl σ) (s_nw σ) i), s_bh σ) := by
  rw [n_withdraw, h, n_of_nI hi]
  rfl
theorem wi_lt {σ : St} (hI : Inv σ) {i : Nat} (hi : i < s_ns σ) (h : s_sg σ i = false) : s_nw σ < s_ns σ := by
  rw [hI.1.2.2.2.2.1]
  exact Nat.lt_of_lt_of_le (ct_lt (q := fun _ => true) hi (fun _ _ _ => rfl) h rfl) (fb_ct_le _ _)
theorem Rc_with {σ : St} {w : FW} {i : Nat} {f : Nat → Int32} (hR : Rc σ w) (hi : i < s_ns σ) (hf : w.2 4 0 = some (aI 1 400 f)) (hff : ∀ j, j < s_nw σ → f j = nI (s_wl σ j)) {σ1 : St} (e : σ1 = ((s_np σ, s_nr σ, s_nt σ, s_ns σ, s_nw σ + 1, s_ck σ), σ.2.1, σ.2.2.1, (s_st σ, s_sp σ, s_sm σ, s_sw σ, va_up (s_sg σ) i true, va_up (s_wl σ) (s_nw σ) i), s_bh σ)) :
    Rc σ1 (fset (fset (fset w 16 i (oO 2 [.ref (w.1 11 (s_st σ i)), .int (nI (s_sp σ i)), .int (nI (s_sm σ i)), .ref (w.1 17 i), .int (b2i true)])) 4 0 (aI 1 400 (upd f (s_nw σ) (nI i)))) 0 0 (oSR σ1 w)) := by
  obtain ⟨r0, r1, r2, ⟨⟨fS, rS1, rS2⟩, rS3, rS4⟩, r4, r5, r6⟩ := hR
  generalize hW : fset (fset (fset w 16 i (oO 2 [.ref (w.1 11 (s_st σ i)), .int (nI (s_sp σ i)), .int (nI (s_sm σ i)), .ref (w.1 17 i), .int (b2i true)])) 4 0 (aI 1 400 (upd f (s_nw σ) (nI i)))) 0 0 (oSR σ1 w) = W
  have hWa : W.1 = w.1 := by rw [← hW]; rfl
  have hWp : ∀ k j, k ≠ 0 → k ≠ 4 → ¬ (k = 16 ∧ j = i) → W.2 k j = w.2 k j := fun k j h0 h4 h => by rw [← hW]; exact (fset_ne h0).trans ((fset_ne h4).trans (fset_off h))
  have s : ∀ k, k ≠ 0 → k ≠ 4 → k ≠ 16 → sk k w W := fun k h0 h4 h6 j => ⟨hWp k j h0 h4 (fun z => h6 z.1), by rw [hWa]⟩
  refine ⟨?_, ?_, ?_, ⟨⟨fS, (hWp 3 0 (by decide) (by decide) (by omega)).trans rS1, fun j hj => by rw [hWa]; subst e; exact rS2 j hj⟩, fun j hj => ?_, fun j hj => ?_⟩, ⟨upd f (s_nw σ) (nI i), ?_, fun j hj => ?_⟩, ?_, RcH_c r6 (s 7 (by decide) (by decide) (by decide)) (s 8 (by decide) (by decide) (by decide)) (s 9 (by decide) (by decide) (by decide))⟩
  · show W.2 0 0 = some (oO 4 [_, .ref (W.1 1 0), _, .ref (W.1 2 0), _, .ref (W.1 3 0), _, .ref (W.1 4 0), _, .ref (W.1 5 0), .ref (W.1 6 0), _, .ref (W.1 7 0)])
    rw [hWa, ← hW]
    exact fset_at
  · subst e; exact RcR_c (σ := σ) r1 (s 1 (by decide) (by decide) (by decide)) (s 10 (by decide) (by decide) (by decide))
  · subst e; exact RcT_c (σ := σ) r2 (s 2 (by decide) (by decide) (by decide)) (s 11 (by decide) (by decide) (by decide)) (s 12 (by decide) (by decide) (by decide)) (s 13 (by decide) (by decide) (by decide)) (s 14 (by decide) (by decide) (by decide)) (s 15 (by decide) (by decide) (by decide))
  · have hj : j < s_ns σ := by rw [e] at hj; exact hj
    obtain ⟨b1, d, b2, b3⟩ := rS3 j hj
    refine ⟨?_, d, (hWp 17 j (by decide) (by decide) (by omega)).trans b2, by subst e; exact b3⟩
    subst e
    by_cases h9 : j = i
    · subst h9
      show W.2 16 j = some (oO 2 [.ref (W.1 11 (s_st σ j)), _, _, .ref (W.1 17 j), .int (b2i (va_up (s_sg σ) j true j))])
      rw [va_up_self, hWa, ← hW]
      exact (fset_ne (by decide)).trans ((fset_ne (by decide)).trans fset_at)
    · rw [hWp 16 j (by decide) (by decide) (fun z => h9 z.2), b1]
      show some (oO 2 [.ref (w.1 11 (s_st σ j)), _, _, .ref (w.1 17 j), .int (b2i (s_sg σ j))]) = some (oO 2 [.ref (W.1 11 (s_st σ j)), _, _, .ref (W.1 17 j), .int (b2i (va_up (s_sg σ) i true j))])
      rw [va_up_ne _ _ h9, hWa]
  · have hj : s_ns σ ≤ j := by rw [e] at hj; exact hj
    exact ⟨(hWp 16 j (by decide) (by decide) (by omega)).trans (rS4 j hj).1, (hWp 17 j (by decide) (by decide) (by omega)).trans (rS4 j hj).2⟩
  · rw [← hW]; exact (fset_ne (by decide)).trans fset_at
  · subst e
    have hj : j < s_nw σ + 1 := hj
    show upd f (s_nw σ) (nI i) j = nI (va_up (s_wl σ) (s_nw σ) i j)
    unfold upd va_up
    by_cases h9 : j = s_nw σ
    · rw [if_pos h9, if_pos h9]
    · rw [if_neg h9, if_neg h9]; exact hff j (by omega)
  · subst e; exact RcO_c (σ := σ) r5 (s 5 (by decide) (by decide) (by decide)) (s 6 (by decide) (by decide) (by decide))
set_option maxHeartbeats 4000000 in
set_option maxRecDepth 100000 in
theorem k_X4_withdraw (l : Launch) (Γ : FG) (w : FW) (σ : St) (ix : Int32) (hI : Inv σ) (hR : Rc σ w) : Met l yX4_withdraw (ws_ yX4_withdraw cX4_withdraw 3 (some .boolean)) (rmD 9 5 1230) (va_Pc [.ref (w.1 0 0), .int ix] (fI Γ w)) (va_Qi (fun r w1 => r = b2i (a_withdraw σ ix) ∧ Rc (n_withdraw σ ix) w1 ∧ fr w w1) (fI Γ) (fA Γ)) 5 1230 (fA Γ) := by
  refine fw_met (by decide) (Nat.le_of_ble_eq_true rfl) ?_
  intro p e s m below meth c ls C hP hS hr hlk hin hl
  have C : fC p s m [.ref (w.1 0 0), .int ix].toArray c cX4_withdraw 3 RX4 Γ := C
  have hx := C.1.1
  have hb := C.1.2.1
  have hl : lv_has ls 3 [(0, .ref (w.1 0 0)), (1, .int ix)] := hl
  obtain ⟨⟨hnp, hnr, hnt, hns, hnw, hck0, hck1⟩, hIr, hIt, hIb, hIn, hIs, hIg, hIw, hIa⟩ := id hI
  obtain ⟨fW, hW1, hW2⟩ := id hR.2.2.2.2.1
  have hnw4 : s_nw σ ≤ 400 := by rw [hnw]; exact Nat.le_trans (fb_ct_le _ _) hns
  refine lv_aload_n hx hb dX4_withdraw_0 rfl (lv_at hl 0 rfl) ?_
  refine lv_iload_n hx hb dX4_withdraw_1 rfl (lv_at hl 1 rfl) ?_
  refine fw_cq0 (w := w) hS (fw_rV (rest := []) (As := [.int ix]) C hP hS wV_X4_134 (k_X4_signatureAt l Γ w σ ix hns hR.1 hR.2.2.2.1.1) hR.1 rfl rfl (fRm_mk rfl rfl (Nat.le_of_ble_eq_true rfl) (Nat.le_of_ble_eq_true rfl) (Nat.le_of_ble_eq_true rfl) (Nat.le_of_ble_eq_true rfl) (Nat.le_of_ble_eq_true rfl)) rfl hl.1 rfl dX4_withdraw_2) (fun H locs hP hS => ?_)
  cases c_2 : fIn ix (s_ns σ) with
  | false =>
    refine fw_Eq (y := .null) rfl ?_
    refine lv_astore_nN (lv' := [(2, .null), (0, .ref (w.1 0 0)), (1, .int ix)]) hx hb dX4_withdraw_5 rfl hl (by decide) rfl (fun ls hl => ?_)
    refine lv_aload_nN hx hb dX4_withdraw_6 rfl (lv_at hl 0 rfl) ?_
    refine lv_ifnullN (tgt := 27) hx hb dX4_withdraw_7 (by decide) ?_
    refine lv_iconst (v := nI 0) hx hb dX4_withdraw_27 (by decide) ?_
    exact fw_reti C hr hlk rfl hP hS (⟨b2i_f (wi_f (Or.inl c_2)), by rw [wi_n (wi_f (Or.inl c_2))]; exact hR, fr_rf w⟩) (Nat.le_of_ble_eq_true rfl) (Nat.le_of_ble_eq_true rfl) dX4_withdraw_28
  | true =>
    obtain ⟨ii, hii, rfl⟩ := fIn_t c_2 (by omega)
    refine fw_Eq (y := .ref (w.1 16 ii)) (by rw [n_of_nI (by omega)]; rfl) ?_
    have hS1 := (hR.2.2.2.1.2.1 ii hii).1
    refine lv_astore_n (lv' := [(2, .ref (w.1 16 ii)), (0, .ref (w.1 0 0)), (1, .int (nI ii))]) hx hb dX4_withdraw_5 rfl hl (by decide) rfl (fun ls hl => ?_)
    refine lv_aload_n hx hb dX4_withdraw_6 rfl (lv_at hl 0 rfl) ?_
    refine lv_ifnull hx hb dX4_withdraw_7 ?_
    refine lv_aload_n hx hb dX4_withdraw_10 rfl (lv_at hl 0 rfl) ?_
    refine gf_X4_142 C hP hS1 rfl rfl dX4_withdraw_11 ?_
    refine fw_ineB (tgt := 27) hx hb dX4_withdraw_14 (by decide) (fun c_14 => ?_) (fun c_14 => ?_)
    · refine lv_iconst (v := nI 0) hx hb dX4_withdraw_27 (by decide) ?_
      exact fw_reti C hr hlk rfl hP hS (⟨b2i_f (wi_f (Or.inr (by rw [n_of_nI (by omega)]; exact c_14))), by rw [wi_n (wi_f (Or.inr (by rw [n_of_nI (by omega)]; exact c_14)))]; exact hR, fr_rf w⟩) (Nat.le_of_ble_eq_true rfl) (Nat.le_of_ble_eq_true rfl) dX4_withdraw_28
    · refine lv_aload_n hx hb dX4_withdraw_17 rfl (lv_at hl 1 rfl) ?_
      refine gf_X4_145 C hP hR.1 rfl rfl dX4_withdraw_18 ?_
      refine lv_sipush (v := nI 400) hx hb dX4_withdraw_21 (by decide) ?_
      refine fw_ltN (tgt := 29) hx hb (by omega) (by omega) dX4_withdraw_24 (by decide) (fun c_24 => ?_) (fun c_24 => ?_)
      · refine lv_aload_n hx hb dX4_withdraw_29 rfl (lv_at hl 0 rfl) ?_
        refine lv_iconst (v := nI 1) hx hb dX4_withdraw_30 (by decide) ?_
        refine pf_X4_142 C hP hS rfl rfl hS1 rfl (Nat.le_of_ble_eq_true rfl) dX4_withdraw_31 (fun H locs hP hS => ?_)
        have hP : fP Γ (fset w 16 ii (oO 2 [.ref (w.1 11 (s_st σ ii)), .int (nI (s_sp σ ii)), .int (nI (s_sm σ ii)), .ref (w.1 17 ii), .int (b2i true)])) H := hP
        refine lv_aload_n hx hb dX4_withdraw_34 rfl (lv_at hl 1 rfl) ?_
        refine gf_X4_27 C hP ((fset_ne (by decide)).trans hR.1) rfl rfl dX4_withdraw_35 ?_
        refine lv_aload_n hx hb dX4_withdraw_38 rfl (lv_at hl 1 rfl) ?_
        refine gf_X4_145 C hP ((fset_ne (by decide)).trans hR.1) rfl rfl dX4_withdraw_39 ?_
        refine lv_iload_n hx hb dX4_withdraw_42 rfl (lv_at hl 2 rfl) ?_
        refine fw_iast C hP hS ((fset_ne (by decide)).trans hW1) rfl (s_nw σ) rfl (by have := wi_lt hI hii c_14; omega) (by decide) dX4_withdraw_43 (fun H locs hP hS => ?_)
        have hP : fP Γ (fset (fset w 16 ii (oO 2 [.ref (w.1 11 (s_st σ ii)), .int (nI (s_sp σ ii)), .int (nI (s_sm σ ii)), .ref (w.1 17 ii), .int (b2i true)])) 4 0 (aI 1 400 (upd fW (s_nw σ) (nI ii)))) H := hP
        refine lv_aload_n hx hb dX4_withdraw_44 rfl (lv_at hl 1 rfl) ?_
        refine lv_dup hx hb dX4_withdraw_45 rfl ?_
        refine gf_X4_145 C hP ((fset_ne (by decide)).trans ((fset_ne (by decide)).trans hR.1)) rfl rfl dX4_withdraw_46 ?_
        refine lv_iconst (v := nI 1) hx hb dX4_withdraw_49 (by decide) ?_
        refine fw_addN hx hb dX4_withdraw_50 ?_
        refine pf_X4_145 C hP hS rfl rfl ((fset_ne (by decide)).trans ((fset_ne (by decide)).trans hR.1)) rfl (Nat.le_of_ble_eq_true rfl) dX4_withdraw_51 (fun H locs hP hS => ?_)
        have hP : fP Γ (fset (fset (fset w 16 ii (oO 2 [.ref (w.1 11 (s_st σ ii)), .int (nI (s_sp σ ii)), .int (nI (s_sm σ ii)), .ref (w.1 17 ii), .int (b2i true)])) 4 0 (aI 1 400 (upd fW (s_nw σ) (nI ii)))) 0 0 (oO 4 [.int (nI (s_np σ)), .ref (w.1 1 0), .int (nI (s_nr σ)), .ref (w.1 2 0), .int (nI (s_nt σ)), .ref (w.1 3 0), .int (nI (s_ns σ)), .ref (w.1 4 0), .int (nI (s_nw σ + 1)), .ref (w.1 5 0), .ref (w.1 6 0), .long (s_ck σ), .ref (w.1 7 0)])) H := hP
        refine lv_iconst (v := nI 1) hx hb dX4_withdraw_54 (by decide) ?_
        have htt1 := wi_t c_2 (by omega) c_14
        exact fw_reti C hr hlk rfl hP hS (⟨b2i_t htt1, by rw [wi_m htt1 (by omega)]; exact Rc_with hR hii hW1 hW2 rfl, fr_tr (fr_set (by decide)) (fr_tr (fr_set (by decide)) (fr_set (by decide)))⟩) (Nat.le_of_ble_eq_true rfl) (Nat.le_of_ble_eq_true rfl) dX4_withdraw_55
      · refine lv_iconst (v := nI 0) hx hb dX4_withdraw_27 (by decide) ?_
        exact absurd (wi_lt hI hii c_14) (by omega)
theorem di_f {σ : St} {t i : Int32} (h : fIn t (s_nt σ) = false ∨ fIn i (32 + s_cn σ (n_of t)) = false) : a_digest σ t i = -1 := by
  unfold a_digest
  rcases h with h | h
  · rw [h]; rfl
  · rw [h, Bool.and_false]; rfl
theorem di_w {σ : St} {t i : Nat} (h : fIn (nI t) (s_nt σ) = true) (ht : t < 2 ^ 31) (hi : i < 32) : a_digest σ (nI t) (nI i) = ush (s_dg σ t (i / 4)) (nI (24 - 8 * (i % 4))) &&& 255 := by
  unfold a_digest
  rw [h, n_of_nI ht, fIn_N (by omega), decide_eq_true (by omega), n_of_nI (by omega), if_pos hi]
  rfl
theorem di_c {σ : St} {t i : Nat} (h : fIn (nI t) (s_nt σ) = true) (ht : t < 2 ^ 31) (hi : ¬ i < 32) (hc : i - 32 < s_cn σ t) (hi2 : i < 2 ^ 31) : a_digest σ (nI t) (nI i) = nI (s_cm σ t (i - 32)) := by
  unfold a_digest
  rw [h, n_of_nI ht, fIn_N hi2, decide_eq_true (by omega), n_of_nI hi2, if_neg hi]
  rfl
set_option maxHeartbeats 4000000 in
set_option maxRecDepth 100000 in
theorem k_X4_digest (l : Launch) (Γ : FG) (w : FW) (σ : St) (tx ix : Int32) (hI : Inv σ) (hR : Rc σ w) : Met l yX4_digest (ws_ yX4_digest cX4_digest 5 (some .int)) (rmD 9 5 1230) (va_Pc [.ref (w.1 0 0), .int tx, .int ix] (fI Γ w)) (va_Qi (fun r w1 => r = a_digest σ tx ix ∧ Rc σ w1 ∧ fr w w1) (fI Γ) (fA Γ)) 5 1230 (fA Γ) := by
  refine fw_met (by decide) (Nat.le_of_ble_eq_true rfl) ?_
  intro p e s m below meth c ls C hP hS hr hlk hin hl
  have C : fC p s m [.ref (w.1 0 0), .int tx, .int ix].toArray c cX4_digest 5 RX4 Γ := C
  have hx := C.1.1
  have hb := C.1.2.1
  have hl : lv_has ls 5 [(0, .ref (w.1 0 0)), (1, .int tx), (2, .int ix)] := hl
  obtain ⟨⟨hnp, hnr, hnt, hns, hnw, hck0, hck1⟩, hIr, hIt, hIb, hIn, hIs, hIg, hIw, hIa⟩ := id hI
  refine lv_aload_n hx hb dX4_digest_0 rfl (lv_at hl 0 rfl) ?_
  refine lv_iload_n hx hb dX4_digest_1 rfl (lv_at hl 1 rfl) ?_
  refine fw_cq0 (w := w) hS (fw_rV (rest := []) (As := [.int tx]) C hP hS wV_X4_69 (k_X4_thingAt l Γ w σ tx hnt hR.1 hR.2.2.1.1) hR.1 rfl rfl (fRm_mk rfl rfl (Nat.le_of_ble_eq_true rfl) (Nat.le_of_ble_eq_true rfl) (Nat.le_of_ble_eq_true rfl) (Nat.le_of_ble_eq_true rfl) (Nat.le_of_ble_eq_true rfl)) rfl hl.1 rfl dX4_digest_2) (fun H locs hP hS => ?_)
  cases c_2 : fIn tx (s_nt σ) with
  | false =>
    refine fw_Eq (y := .null) rfl ?_
    refine lv_astore_nN (lv' := [(3, .null), (0, .ref (w.1 0 0)), (1, .int tx), (2, .int ix)]) hx hb dX4_digest_5 rfl hl (by decide) rfl (fun ls hl => ?_)
    refine lv_aload_nN hx hb dX4_digest_6 rfl (lv_at hl 0 rfl) ?_
    refine lv_ifnullN (tgt := 14) hx hb dX4_digest_7 (by decide) ?_
    refine lv_iconst (v := (-1)) hx hb dX4_digest_14 (by decide) ?_
    exact fw_reti C hr hlk rfl hP hS (⟨(di_f (Or.inl c_2)).symm, hR, fr_rf w⟩) (Nat.le_of_ble_eq_true rfl) (Nat.le_of_ble_eq_true rfl) dX4_digest_15
  | true =>
    obtain ⟨tt, htt, rfl⟩ := fIn_t c_2 (by omega)
    refine fw_Eq (y := .ref (w.1 11 tt)) (by rw [n_of_nI (by omega)]; rfl) ?_
    obtain ⟨hln, hcn, hdn, hmk, -⟩ := hIt tt
    obtain ⟨bf, df, cf, nf, zf, e11, e12, e13, e14, e15, hbf, hcf, hnf, hzf⟩ := id (hR.2.2.1.2.1 tt htt)
    refine lv_astore_n (lv' := [(3, .ref (w.1 11 tt)), (0, .ref (w.1 0 0)), (1, .int (nI tt)), (2, .int ix)]) hx hb dX4_digest_5 rfl hl (by decide) rfl (fun ls hl => ?_)
    refine lv_aload_n hx hb dX4_digest_6 rfl (lv_at hl 0 rfl) ?_
    refine lv_ifnull hx hb dX4_digest_7 ?_
    refine lv_iload_n hx hb dX4_digest_10 rfl (lv_at hl 3 rfl) ?_
    refine lv_if_ge (tgt := 16) hx hb dX4_digest_11 (by decide) (fun c_11 => ?_) (fun c_11 => ?_)
    · obtain ⟨ii, hii, rfl⟩ := nI_of (Int32.not_lt.mpr c_11)
      refine lv_iload_n hx hb dX4_digest_16 rfl (lv_at hl 3 rfl) ?_
      refine lv_bipush (v := nI 32) hx hb dX4_digest_17 (by decide) ?_
      refine fw_geN (tgt := 46) hx hb (by omega) (by omega) dX4_digest_19 (by decide) (fun c_19 => ?_) (fun c_19 => ?_)
      · refine lv_iload_n hx hb dX4_digest_46 rfl (lv_at hl 3 rfl) ?_
        refine lv_bipush (v := nI 32) hx hb dX4_digest_47 (by decide) ?_
        refine fw_subN hx hb (by omega) dX4_digest_49 ?_
        refine lv_istore (lv' := [(4, .int (nI (ii - 32))), (3, .ref (w.1 11 tt)), (0, .ref (w.1 0 0)), (1, .int (nI tt)), (2, .int (nI ii))]) hx hb dX4_digest_50 hl (by decide) rfl (fun ls hl => ?_)
        refine lv_iload hx hb dX4_digest_52 (lv_at hl 0 rfl) ?_
        refine lv_aload_n hx hb dX4_digest_54 rfl (lv_at hl 1 rfl) ?_
        refine gf_X4_158 C hP e11 rfl rfl dX4_digest_55 ?_
        refine fw_geN (tgt := 69) hx hb (by omega) (by omega) dX4_digest_58 (by decide) (fun c_58 => ?_) (fun c_58 => ?_)
        · refine lv_iconst (v := (-1)) hx hb dX4_digest_69 (by decide) ?_
          exact fw_reti C hr hlk rfl hP hS (⟨(di_f (Or.inr (by rw [n_of_nI (by omega), fIn_N (by omega)]; exact decide_eq_false (by omega)))).symm, hR, fr_rf w⟩) (Nat.le_of_ble_eq_true rfl) (Nat.le_of_ble_eq_true rfl) dX4_digest_70
        · refine lv_iload hx hb dX4_digest_61 (lv_at hl 0 rfl) ?_
          refine lv_sipush (v := nI 200) hx hb dX4_digest_63 (by decide) ?_
          refine fw_ltN (tgt := 71) hx hb (by omega) (by omega) dX4_digest_66 (by decide) (fun c_66 => ?_) (fun c_66 => ?_)
          · refine lv_aload_n hx hb dX4_digest_71 rfl (lv_at hl 1 rfl) ?_
            refine gf_X4_161 C hP e11 rfl rfl dX4_digest_72 ?_
            refine lv_iload hx hb dX4_digest_75 (lv_at hl 0 rfl) ?_
            refine fw_bald C hP e14 rfl (ii - 32) rfl (by omega) (by decide) dX4_digest_77 ?_
            refine lv_sipush (v := nI 255) hx hb dX4_digest_78 (by decide) ?_
            refine lv_iand hx hb dX4_digest_81 ?_
            have hcc := hcf (ii - 32) (by omega)
            exact fw_reti C hr hlk rfl hP hS (⟨hcc.trans (di_c c_2 (by omega) (by omega) (by omega) hii).symm, hR, fr_rf w⟩) (Nat.le_of_ble_eq_true rfl) (Nat.le_of_ble_eq_true rfl) dX4_digest_82
          · refine lv_iconst (v := (-1)) hx hb dX4_digest_69 (by decide) ?_
            exact absurd c_66 (by omega)
      · refine lv_aload_n hx hb dX4_digest_22 rfl (lv_at hl 1 rfl) ?_
        refine lv_aload_n hx hb dX4_digest_23 rfl (lv_at hl 0 rfl) ?_
        refine fw_cq hS (fw_rV (rest := []) (As := [.ref (w.1 11 tt)]) C hP hS wV_X4_119 (k_X4_digestWordsOf l Γ w σ tt hR.1 hR.2.2.2.2.2.2 (hR.2.2.1.2.1 tt htt) hln) hR.1 rfl rfl (fRm_mk rfl rfl (Nat.le_of_ble_eq_true rfl) (Nat.le_of_ble_eq_true rfl) (Nat.le_of_ble_eq_true rfl) (Nat.le_of_ble_eq_true rfl) (Nat.le_of_ble_eq_true rfl)) rfl hl.1 rfl dX4_digest_24) (fun r1 w1 H locs hp hP hS => ?_)
        obtain ⟨ad1, u1⟩ := w1
        obtain ⟨rfl, ha1, hk1, hlv1, hH1, hT1, d1, hd1, hdd1⟩ := hp
        have ha1 : ad1 = w.1 := ha1
        subst ha1
        have hR1 : Rc σ (w.1, u1) := Rc_dig (t := tt) hR rfl hk1 hH1 htt hT1
        have hf1 : frd w (w.1, u1) := ⟨rfl, fun k i2 q => hk1 k i2 (by omega), hlv1⟩
        refine fw_Eq (y := .ref (w.1 13 tt)) rfl ?_
        refine lv_iload_n hx hb dX4_digest_27 rfl (lv_at hl 3 rfl) ?_
        refine lv_iconst (v := nI 4) hx hb dX4_digest_28 (by decide) ?_
        refine fw_divN hx hb (by omega) (by omega) (by omega) dX4_digest_29 ?_
        refine fw_iald C hP hd1 rfl (ii / 4) rfl (by omega) (by decide) dX4_digest_30 ?_
        refine fw_E (show d1 (ii / 4) = s_dg σ tt (ii / 4) from hdd1 (ii / 4) (by omega)) ?_
        refine lv_bipush (v := nI 24) hx hb dX4_digest_31 (by decide) ?_
        refine lv_bipush (v := nI 8) hx hb dX4_digest_33 (by decide) ?_
        refine lv_iload_n hx hb dX4_digest_35 rfl (lv_at hl 3 rfl) ?_
        refine lv_iconst (v := nI 4) hx hb dX4_digest_36 (by decide) ?_
        refine fw_remN hx hb (by omega) (by omega) (by omega) dX4_digest_37 ?_
        refine fw_mulN hx hb dX4_digest_38 ?_
        refine fw_subN hx hb (by omega) dX4_digest_39 ?_
        refine lv_iushr (v := ush (s_dg σ tt (ii / 4)) (nI (24 - (8 * (ii % 4))))) hx hb dX4_digest_40 rfl ?_
        refine lv_sipush (v := nI 255) hx hb dX4_digest_41 (by decide) ?_
        refine lv_iand hx hb dX4_digest_44 ?_
        exact fw_reti C hr hlk rfl hP hS (⟨(di_w c_2 (by omega) (by omega)).symm, hR1, frd_fr hf1⟩) (Nat.le_of_ble_eq_true rfl) (Nat.le_of_ble_eq_true rfl) dX4_digest_45
    · refine lv_iconst (v := (-1)) hx hb dX4_digest_14 (by decide) ?_
      exact fw_reti C hr hlk rfl hP hS (⟨(di_f (Or.inr (fIn_lt (Int32.not_le.mp c_11)))).symm, hR, fr_rf w⟩) (Nat.le_of_ble_eq_true rfl) (Nat.le_of_ble_eq_true rfl) dX4_digest_15
theorem cp_f {σ : St} {t : Int32} (h : fIn t (s_nt σ) = false) : a_complete σ t = -1 := by rw [a_complete, h]; rfl
theorem cp_t {σ : St} {t : Nat} (h : fIn (nI t) (s_nt σ) = true) (ht : t < 2 ^ 31) : a_complete σ (nI t) = s_cp σ t (s_dn σ t) 0 := by rw [a_complete, h, n_of_nI ht]; rfl
theorem cp_s {σ : St} {t n k : Nat} (h : s_hs σ t (s_nd σ t k) none (s_ns σ) = true) (hn : 0 < n) : s_cp σ t n k = s_cp σ t (n - 1) (k + 1) := by
  obtain ⟨d, rfl⟩ : ∃ d, n = d + 1 := ⟨n - 1, by omega⟩
  rw [s_cp, if_pos h]
  rfl
theorem cp_e {σ : St} {t n k : Nat} (h : s_hs σ t (s_nd σ t k) none (s_ns σ) = false) (hn : 0 < n) : s_cp σ t n k = nI (1 + k) := by
  obtain ⟨d, rfl⟩ : ∃ d, n = d + 1 := ⟨n - 1, by omega⟩
  rw [s_cp, if_neg (by rw [h]; decide)]
set_option maxHeartbeats 4000000 in
set_option maxRecDepth 100000 in
theorem k_X4_complete (l : Launch) (Γ : FG) (w : FW) (σ : St) (tx : Int32) (hI : Inv σ) (hR : Rc σ w) : Met l yX4_complete (ws_ yX4_complete cX4_complete 5 (some .int)) (rmD 9 5 1230) (va_Pc [.ref (w.1 0 0), .int tx] (fI Γ w)) (va_Qi (fun r w1 => r = a_complete σ tx ∧ Rc σ w1 ∧ fr w w1) (fI Γ) (fA Γ)) 5 1230 (fA Γ) := by
  refine fw_met (by decide) (Nat.le_of_ble_eq_true rfl) ?_
  intro p e s m below meth c ls C hP hS hr hlk hin hl
  have C : fC p s m [.ref (w.1 0 0), .int tx].toArray c cX4_complete 5 RX4 Γ := C
  have hx := C.1.1
  have hb := C.1.2.1
  have hl : lv_has ls 5 [(0, .ref (w.1 0 0)), (1, .int tx)] := hl
  obtain ⟨⟨hnp, hnr, hnt, hns, hnw, hck0, hck1⟩, hIr, hIt, hIb, hIn, hIs, hIg, hIw, hIa⟩ := id hI
  refine lv_aload_n hx hb dX4_complete_0 rfl (lv_at hl 0 rfl) ?_
  refine lv_iload_n hx hb dX4_complete_1 rfl (lv_at hl 1 rfl) ?_
  refine fw_cq0 (w := w) hS (fw_rV (rest := []) (As := [.int tx]) C hP hS wV_X4_69 (k_X4_thingAt l Γ w σ tx hnt hR.1 hR.2.2.1.1) hR.1 rfl rfl (fRm_mk rfl rfl (Nat.le_of_ble_eq_true rfl) (Nat.le_of_ble_eq_true rfl) (Nat.le_of_ble_eq_true rfl) (Nat.le_of_ble_eq_true rfl) (Nat.le_of_ble_eq_true rfl)) rfl hl.1 rfl dX4_complete_2) (fun H locs hP hS => ?_)
  cases c_2 : fIn tx (s_nt σ) with
  | false =>
    refine fw_Eq (y := .null) rfl ?_
    refine lv_astore_nN (lv' := [(2, .null), (0, .ref (w.1 0 0)), (1, .int tx)]) hx hb dX4_complete_5 rfl hl (by decide) rfl (fun ls hl => ?_)
    refine lv_aload_nN hx hb dX4_complete_6 rfl (lv_at hl 0 rfl) ?_
    refine lv_ifnonnullN hx hb dX4_complete_7 ?_
    refine lv_iconst (v := (-1)) hx hb dX4_complete_10 (by decide) ?_
    exact fw_reti C hr hlk rfl hP hS (⟨(cp_f c_2).symm, hR, fr_rf w⟩) (Nat.le_of_ble_eq_true rfl) (Nat.le_of_ble_eq_true rfl) dX4_complete_11
  | true =>
    obtain ⟨tt, htt, rfl⟩ := fIn_t c_2 (by omega)
    refine fw_Eq (y := .ref (w.1 11 tt)) (by rw [n_of_nI (by omega)]; rfl) ?_
    obtain ⟨hln, hcn, hdn, hmk, -⟩ := hIt tt
    obtain ⟨bf, df, cf, nf, zf, e11, e12, e13, e14, e15, hbf, hcf, hnf, hzf⟩ := id (hR.2.2.1.2.1 tt htt)
    refine lv_astore_n (lv' := [(2, .ref (w.1 11 tt)), (0, .ref (w.1 0 0)), (1, .int (nI tt))]) hx hb dX4_complete_5 rfl hl (by decide) rfl (fun ls hl => ?_)
    refine lv_aload_n hx hb dX4_complete_6 rfl (lv_at hl 0 rfl) ?_
    refine lv_ifnonnull (tgt := 12) hx hb dX4_complete_7 (by decide) ?_
    refine lv_aload_n hx hb dX4_complete_12 rfl (lv_at hl 1 rfl) ?_
    refine lv_aload_n hx hb dX4_complete_13 rfl (lv_at hl 0 rfl) ?_
    refine fw_ci hS (fw_rV (rest := []) (As := [.ref (w.1 11 tt)]) C hP hS wV_X4_105 (k_X4_meaningsThatHold l Γ w σ tt hI hR htt) hR.1 rfl rfl (fRm_mk rfl rfl (Nat.le_of_ble_eq_true rfl) (Nat.le_of_ble_eq_true rfl) (Nat.le_of_ble_eq_true rfl) (Nat.le_of_ble_eq_true rfl) (Nat.le_of_ble_eq_true rfl)) rfl hl.1 rfl dX4_complete_14) (fun r1 w1 H locs hp hP hS => ?_)
    obtain ⟨ad1, u1⟩ := w1
    obtain ⟨rfl, hR1, hf1⟩ := hp
    have ha1 : ad1 = w.1 := hf1.1
    subst ha1
    obtain ⟨bf, df, cf, nf, zf, e11, e12, e13, e14, e15, hbf, hcf, hnf, hzf⟩ := id (hR1.2.2.1.2.1 tt htt)
    refine lv_topi (fun x3_17 e_x3_17 => ?_)
    refine lv_istore_n (lv' := [(3, .int x3_17), (2, .ref (w.1 11 tt)), (0, .ref (w.1 0 0)), (1, .int (nI tt))]) hx hb dX4_complete_17 rfl hl (by decide) rfl (fun ls hl => ?_)
    refine lv_iconst (v := nI 0) hx hb dX4_complete_18 (by decide) ?_
    refine lv_istore (lv' := [(4, .int (nI 0)), (3, .int x3_17), (2, .ref (w.1 11 tt)), (0, .ref (w.1 0 0)), (1, .int (nI tt))]) hx hb dX4_complete_19 hl (by decide) rfl (fun ls hl => ?_)
    refine W.widen (k := 0) (n := 0) (Nat.le_of_ble_eq_true rfl) (Nat.le_of_ble_eq_true rfl) ?_
    have loop : ∀ (fu : Nat) (i : Nat) (H : Heap) (locs : List Loc) (ls : Array Slot), 11 - i < fu → (i ≤ s_dn σ tt) → (s_cp σ tt (s_dn σ tt) 0 = s_cp σ tt (s_dn σ tt - i) i) → fP Γ (w.1, u1) H → va_S (fA Γ) s.heap H locs → lv_has ls 5 [(4, .int (nI i)), (3, .int x3_17), (2, .ref (w.1 11 tt)), (0, .ref (w.1 0 0)), (1, .int (nI tt))] → W p l e (rmD 9 5 1230) s m [.ref (w.1 0 0), .int (nI tt)].toArray below meth c H locs 0 0 (MQ below (va_Qi (fun r w1 => r = a_complete σ (nI tt) ∧ Rc σ w1 ∧ fr w w1) (fI Γ) (fA Γ)) [.ref (w.1 0 0), .int (nI tt)].toArray s 5 1230 (fA Γ)) (F0 m 21 ls []) := by
      intro fu
      induction fu with
      | zero =>
        intro i H locs ls hf
        exact absurd hf (Nat.not_lt_zero _)
      | succ fu ih =>
        intro i H locs ls hf hi hz hP hS hl
        have hnd9 := (hIb tt i).2.2
        refine lv_iload hx hb dX4_complete_21 (lv_at hl 0 rfl) ?_
        refine lv_bipush (v := nI 10) hx hb dX4_complete_23 (by decide) ?_
        refine fw_geN (tgt := 62) hx hb (by omega) (by omega) dX4_complete_25 (by decide) (fun c_25 => ?_) (fun c_25 => ?_)
        · refine lv_iconst (v := nI 0) hx hb dX4_complete_62 (by decide) ?_
          exact fw_reti C hr hlk rfl hP hS (⟨by rw [cp_t c_2 (by omega), hz, (by omega : s_dn σ tt - i = 0)]; rfl, hR1, frd_fr hf1⟩) (Nat.le_of_ble_eq_true rfl) (Nat.le_of_ble_eq_true rfl) dX4_complete_63
        · refine lv_iload hx hb dX4_complete_28 (lv_at hl 0 rfl) ?_
          refine lv_aload_n hx hb dX4_complete_30 rfl (lv_at hl 2 rfl) ?_
          refine gf_X4_152 C hP e11 rfl rfl dX4_complete_31 ?_
          refine fw_geN (tgt := 62) hx hb (by omega) (by omega) dX4_complete_34 (by decide) (fun c_34 => ?_) (fun c_34 => ?_)
          · refine lv_iconst (v := nI 0) hx hb dX4_complete_62 (by decide) ?_
            exact fw_reti C hr hlk rfl hP hS (⟨by rw [cp_t c_2 (by omega), hz, (by omega : s_dn σ tt - i = 0)]; rfl, hR1, frd_fr hf1⟩) (Nat.le_of_ble_eq_true rfl) (Nat.le_of_ble_eq_true rfl) dX4_complete_63
          · refine lv_iload_n hx hb dX4_complete_37 rfl (lv_at hl 1 rfl) ?_
            refine lv_aload_n hx hb dX4_complete_38 rfl (lv_at hl 2 rfl) ?_
            refine gf_X4_155 C hP e11 rfl rfl dX4_complete_39 ?_
            refine lv_iload hx hb dX4_complete_42 (lv_at hl 0 rfl) ?_
            refine fw_iald C hP e15 rfl i rfl (by omega) (by decide) dX4_complete_44 ?_
            refine fw_E (show nf i = nI (s_nd σ tt i) from hnf i (by omega)) ?_
            refine fw_ci0 (w := (w.1, u1)) hS (fw_rS (rest := []) (As := [.int x3_17, .int (nI (s_nd σ tt i))]) C hP hS wS_X4_148 (k_X4_hasBit l Γ (w.1, u1) x3_17 (nI (s_nd σ tt i))) (fRm_mk rfl rfl (Nat.le_of_ble_eq_true rfl) (Nat.le_of_ble_eq_true rfl) (Nat.le_of_ble_eq_true rfl) (Nat.le_of_ble_eq_true rfl) (Nat.le_of_ble_eq_true rfl)) rfl hl.1 rfl dX4_complete_45) (fun H locs hP hS => ?_)
            refine fw_ineB (tgt := 56) hx hb dX4_complete_48 (by decide) (fun c_48 => ?_) (fun c_48 => ?_)
            · refine lv_iinc (v := nI (i + 1)) (lv' := [(4, .int (nI (i + 1))), (3, .int x3_17), (2, .ref (w.1 11 tt)), (0, .ref (w.1 0 0)), (1, .int (nI tt))]) hx hb dX4_complete_56 hl (k := 0) rfl (by rw [show Int32.ofInt 1 = nI 1 from rfl, nI_add]) (by decide) rfl (fun ls hl => ?_)
              refine lv_goto (tgt := 21) hx hb dX4_complete_59 (by decide) ?_
              refine W.widen (k := 0) (n := 0) (Nat.le_of_ble_eq_true rfl) (Nat.le_of_ble_eq_true rfl) ?_
              exact ih (i + 1) H locs ls (by omega) (by omega) (by rw [hz, cp_s (by rw [← c_48, e_x3_17, hbt_msk hnd9]) (by omega)]; rfl) hP hS (lv_sub hl [0, 1, 2, 3, 4] rfl)
            · refine lv_iconst (v := nI 1) hx hb dX4_complete_51 (by decide) ?_
              refine lv_iload hx hb dX4_complete_52 (lv_at hl 0 rfl) ?_
              refine fw_addN hx hb dX4_complete_54 ?_
              exact fw_reti C hr hlk rfl hP hS (⟨by rw [cp_t c_2 (by omega), hz, cp_e (by rw [← c_48, e_x3_17, hbt_msk hnd9]) (by omega)], hR1, frd_fr hf1⟩) (Nat.le_of_ble_eq_true rfl) (Nat.le_of_ble_eq_true rfl) dX4_complete_55
    exact loop 12 0 _ _ _ (by omega) (by omega) rfl hP hS (lv_sub hl [0, 1, 2, 3, 4] rfl)
theorem or_f {σ : St} {m a : Int32} (h : fIn m 10 = false ∨ fIn a 10 = false ∨ m = a ∨ s_bh σ (n_of m) (n_of a) = true ∨ cmx (s_bh σ) 10 (n_of a) (n_of m) = true) : a_order σ m a = false := by
  unfold a_order
  rcases h with h | h | h | h | h
  · rw [h]; rfl
  · rw [h, Bool.and_false]; rfl
  · rw [show decide (m ≠ a) = false from decide_eq_false (fun q => q h), Bool.and_false]; rfl
  · rw [h]; simp
  · rw [h]; simp
theorem or_n {σ : St} {m a : Int32} (h : a_order σ m a = false) : n_order σ m a = σ := by rw [n_order, h]; rfl
theorem or_t {σ : St} {m a : Nat} (h1 : fIn (nI m) 10 = true) (h2 : fIn (nI a) 10 = true) (hm : m < 10) (ha : a < 10) (hne : m ≠ a) (h3 : s_bh σ m a = false) (h4 : cmx (s_bh σ) 10 a m = false) : a_order σ (nI m) (nI a) = true := by
  unfold a_order
  rw [h1, h2, show decide (nI m ≠ nI a) = true from decide_eq_true (fun q => hne ((nI_eq (by omega) (by omega)).mp q)), n_of_nI (by omega), n_of_nI (by omega), h3, h4]
  rfl
theorem or_m {σ : St} {m a : Nat} (h : a_order σ (nI m) (nI a) = true) (hm : m < 2 ^ 31) (ha : a < 2 ^ 31) : n_order σ (nI m) (nI a) = (σ.1, σ.2.1, σ.2.2.1, σ.2.2.2.1, f2 (s_bh σ) m a true) := by
  rw [n_order, h, n_of_nI hm, n_of_nI ha]
  rfl
theorem or_upd {bh : Nat → Nat → Bool} {u v i : Nat} {x : Int32} (hu : u < 10) (hv : v < 10) (hne : u ≠ v) (ha : ∀ m, m < 10 → ∀ k, cmx bh k m m = false) (hn : cmx bh 10 v u = false) (hi : i < 10) (hc : i = u ∨ cmx bh 10 i u = true) (hx : x = msk (fun b => cmx bh 10 v b) 10 ||| ((1 : Int32) <<< (nI v &&& 31))) : msk (fun b => cmx bh 10 i b) 10 ||| x = msk (fun b => cmx (f2 bh u v true) 10 i b) 10 := by
  rw [hx, msk_or hv, msk_orm]
  refine msk_congr fun b _ => ?_
  rw [or_new hu hv hne ha hn hi]
  have hc2 : (decide (i = u) || cmx bh 10 i u) = true := by
    rcases hc with hc | hc
    · rw [decide_eq_true hc]; rfl
    · rw [hc, Bool.or_true]
  rw [hc2]
  unfold va_up
  by_cases e : b = v
  · rw [if_pos e, decide_eq_true e]; simp
  · rw [if_neg e, decide_eq_false e]; simp
theorem or_keep {bh : Nat → Nat → Bool} {u v i : Nat} (hu : u < 10) (hv : v < 10) (hne : u ≠ v) (ha : ∀ m, m < 10 → ∀ k, cmx bh k m m = false) (hn : cmx bh 10 v u = false) (hi : i < 10) (h1 : i ≠ u) (h2 : cmx bh 10 i u = false) : msk (fun b => cmx bh 10 i b) 10 = msk (fun b => cmx (f2 bh u v true) 10 i b) 10 := by
  refine msk_congr fun b _ => ?_
  rw [or_new hu hv hne ha hn hi, decide_eq_false h1, h2]
  simp
theorem or_s1 {P Q2 z : Nat → Int32} {i : Nat} {v : Int32} (h1 : ∀ j, j < i → z j = P j) (h2 : ∀ j, i ≤ j → j < 10 → z j = Q2 j) (hv : v = P i) : (∀ j, j < i + 1 → upd z i v j = P j) ∧ ∀ j, i + 1 ≤ j → j < 10 → upd z i v j = Q2 j := by
  refine ⟨up_s h1 hv, fun j a b => ?_⟩
  unfold upd
  rw [if_neg (by omega)]
  exact h2 j (by omega) b
theorem or_s2 {P Q2 z : Nat → Int32} {i : Nat} (hi : i < 10) (h1 : ∀ j, j < i → z j = P j) (h2 : ∀ j, i ≤ j → j < 10 → z j = Q2 j) (hv : Q2 i = P i) : (∀ j, j < i + 1 → z j = P j) ∧ ∀ j, i + 1 ≤ j → j < 10 → z j = Q2 j := by
  refine ⟨fun j hj => ?_, fun j a b => h2 j (by omega) b⟩
  by_cases e : j = i
  · rw [e, h2 i (Nat.le_refl _) hi, hv]
  · exact h1 j (by omega)
theorem Rc_ord {σ : St} {w : FW} {u v : Nat} {tb z : Nat → Int32} (hR : Rc σ w) (hu : u < 10) (hv : v < 10) (htb : ∀ m, m < 10 → tb m = msk (s_bh σ m) 10) (hz : ∀ m, m < 10 → z m = msk (fun b => cmx (f2 (s_bh σ) u v true) 10 m b) 10) {σ1 : St} (e : σ1 = (σ.1, σ.2.1, σ.2.2.1, σ.2.2.2.1, f2 (s_bh σ) u v true)) : Rc σ1 (fset (fset w 5 0 (aI 1 10 (upd tb u (msk (s_bh σ u) 10 ||| ((1 : Int32) <<< (nI v &&& 31)))))) 6 0 (aI 1 10 z)) := by
  obtain ⟨r0, r1, r2, r3, r4, r5, r6⟩ := hR
  have s : ∀ k, k ≠ 5 → k ≠ 6 → sk k w (fset (fset w 5 0 (aI 1 10 (upd tb u (msk (s_bh σ u) 10 ||| ((1 : Int32) <<< (nI v &&& 31)))))) 6 0 (aI 1 10 z)) := fun k h5 h6 => sk_set (sk_set sk_rf h5) h6
  refine ⟨?_, ?_, ?_, ?_, ?_, ⟨_, z, (fset_ne (by decide)).trans fset_at, fset_at, fun m hm => ?_, fun m hm => by subst e; exact hz m hm⟩, RcH_c r6 (s 7 (by decide) (by decide)) (s 8 (by decide) (by decide)) (s 9 (by decide) (by decide))⟩
  · subst e; exact (s 0 (by decide) (by decide) 0).1.trans r0
  · subst e; exact RcR_c (σ := σ) r1 (s 1 (by decide) (by decide)) (s 10 (by decide) (by decide))
  · subst e; exact RcT_c (σ := σ) r2 (s 2 (by decide) (by decide)) (s 11 (by decide) (by decide)) (s 12 (by decide) (by decide)) (s 13 (by decide) (by decide)) (s 14 (by decide) (by decide)) (s 15 (by decide) (by decide))
  · subst e; exact RcS_c (σ := σ) r3 (s 3 (by decide) (by decide)) (s 16 (by decide) (by decide)) (s 17 (by decide) (by decide)) (fun _ _ => rfl)
  · subst e; exact RcW_c (σ := σ) r4 (s 4 (by decide) (by decide))
  · subst e
    show upd tb u _ m = msk (f2 (s_bh σ) u v true m) 10
    unfold upd
    by_cases h : m = u
    · rw [if_pos h, h, f2_row, msk_or hv]
    · rw [if_neg h, f2_oth h]; exact htb m hm
set_option maxHeartbeats 4000000 in
set_option maxRecDepth 100000 in
theorem k_X4_order (l : Launch) (Γ : FG) (w : FW) (σ : St) (mx ax : Int32) (hI : Inv σ) (hR : Rc σ w) : Met l yX4_order (ws_ yX4_order cX4_order 5 (some .boolean)) (rmD 9 5 1230) (va_Pc [.ref (w.1 0 0), .int mx, .int ax] (fI Γ w)) (va_Qi (fun r w1 => r = b2i (a_order σ mx ax) ∧ Rc (n_order σ mx ax) w1 ∧ fr w w1) (fI Γ) (fA Γ)) 5 1230 (fA Γ) := by
  refine fw_met (by decide) (Nat.le_of_ble_eq_true rfl) ?_
  intro p e s m below meth c ls C hP hS hr hlk hin hl
  have C : fC p s m [.ref (w.1 0 0), .int mx, .int ax].toArray c cX4_order 5 RX4 Γ := C
  have hx := C.1.1
  have hb := C.1.2.1
  have hl : lv_has ls 5 [(0, .ref (w.1 0 0)), (1, .int mx), (2, .int ax)] := hl
  obtain ⟨⟨hnp, hnr, hnt, hns, hnw, hck0, hck1⟩, hIr, hIt, hIb, hIn, hIs, hIg, hIw, hIa⟩ := id hI
  obtain ⟨tb, eb, hO1, hO2, hO3, hO4⟩ := id hR.2.2.2.2.2.1
  refine lv_iload_n hx hb dX4_order_0 rfl (lv_at hl 1 rfl) ?_
  refine fw_ci0 (w := w) hS (fw_rS (rest := []) (As := [.int mx]) C hP hS wS_X4_52 (k_X4_isMeaning l Γ w mx) (fRm_mk rfl rfl (Nat.le_of_ble_eq_true rfl) (Nat.le_of_ble_eq_true rfl) (Nat.le_of_ble_eq_true rfl) (Nat.le_of_ble_eq_true rfl) (Nat.le_of_ble_eq_true rfl)) rfl hl.1 rfl dX4_order_1) (fun H locs hP hS => ?_)
  refine fw_ieqB (tgt := 19) hx hb dX4_order_4 (by decide) (fun c_4 => ?_) (fun c_4 => ?_)
  · refine lv_iconst (v := nI 0) hx hb dX4_order_19 (by decide) ?_
    exact fw_reti C hr hlk rfl hP hS (⟨b2i_f (or_f (Or.inl c_4)), by rw [or_n (or_f (Or.inl c_4))]; exact hR, fr_rf w⟩) (Nat.le_of_ble_eq_true rfl) (Nat.le_of_ble_eq_true rfl) dX4_order_20
  · obtain ⟨mm, hmm, rfl⟩ := fIn_t c_4 (by omega)
    refine lv_iload_n hx hb dX4_order_7 rfl (lv_at hl 2 rfl) ?_
    refine fw_ci0 (w := w) hS (fw_rS (rest := []) (As := [.int ax]) C hP hS wS_X4_52 (k_X4_isMeaning l Γ w ax) (fRm_mk rfl rfl (Nat.le_of_ble_eq_true rfl) (Nat.le_of_ble_eq_true rfl) (Nat.le_of_ble_eq_true rfl) (Nat.le_of_ble_eq_true rfl) (Nat.le_of_ble_eq_true rfl)) rfl hl.1 rfl dX4_order_8) (fun H locs hP hS => ?_)
    refine fw_ieqB (tgt := 19) hx hb dX4_order_11 (by decide) (fun c_11 => ?_) (fun c_11 => ?_)
    · refine lv_iconst (v := nI 0) hx hb dX4_order_19 (by decide) ?_
      exact fw_reti C hr hlk rfl hP hS (⟨b2i_f (or_f (Or.inr (Or.inl c_11))), by rw [or_n (or_f (Or.inr (Or.inl c_11)))]; exact hR, fr_rf w⟩) (Nat.le_of_ble_eq_true rfl) (Nat.le_of_ble_eq_true rfl) dX4_order_20
    · obtain ⟨aa, haa, rfl⟩ := fIn_t c_11 (by omega)
      refine lv_iload_n hx hb dX4_order_14 rfl (lv_at hl 1 rfl) ?_
      refine lv_iload_n hx hb dX4_order_15 rfl (lv_at hl 2 rfl) ?_
      refine fw_neN (tgt := 21) hx hb (by omega) (by omega) dX4_order_16 (by decide) (fun c_16 => ?_) (fun c_16 => ?_)
      · refine lv_aload_n hx hb dX4_order_21 rfl (lv_at hl 0 rfl) ?_
        refine gf_X4_31 C hP hR.1 rfl rfl dX4_order_22 ?_
        refine lv_iload_n hx hb dX4_order_25 rfl (lv_at hl 1 rfl) ?_
        refine fw_iald C hP hO1 rfl mm rfl (by omega) (by decide) dX4_order_26 ?_
        refine fw_E (show tb mm = msk (s_bh σ mm) 10 from hO3 mm (by omega)) ?_
        refine lv_iload_n hx hb dX4_order_27 rfl (lv_at hl 2 rfl) ?_
        refine fw_ci0 (w := w) hS (fw_rS (rest := []) (As := [.int (msk (s_bh σ mm) 10), .int (nI aa)]) C hP hS wS_X4_148 (k_X4_hasBit l Γ w (msk (s_bh σ mm) 10) (nI aa)) (fRm_mk rfl rfl (Nat.le_of_ble_eq_true rfl) (Nat.le_of_ble_eq_true rfl) (Nat.le_of_ble_eq_true rfl) (Nat.le_of_ble_eq_true rfl) (Nat.le_of_ble_eq_true rfl)) rfl hl.1 rfl dX4_order_28) (fun H locs hP hS => ?_)
        refine fw_ineB (tgt := 47) hx hb dX4_order_31 (by decide) (fun c_31 => ?_) (fun c_31 => ?_)
        · refine lv_iconst (v := nI 0) hx hb dX4_order_47 (by decide) ?_
          exact fw_reti C hr hlk rfl hP hS (⟨b2i_f (or_f (Or.inr (Or.inr (Or.inr (Or.inl (by rw [n_of_nI (by omega), n_of_nI (by omega), ← c_31]; exact (hbt_msk haa).symm)))))), by rw [or_n (or_f (Or.inr (Or.inr (Or.inr (Or.inl (by rw [n_of_nI (by omega), n_of_nI (by omega), ← c_31]; exact (hbt_msk haa).symm))))))]; exact hR, fr_rf w⟩) (Nat.le_of_ble_eq_true rfl) (Nat.le_of_ble_eq_true rfl) dX4_order_48
        · refine lv_aload_n hx hb dX4_order_34 rfl (lv_at hl 0 rfl) ?_
          refine gf_X4_34 C hP hR.1 rfl rfl dX4_order_35 ?_
          refine lv_iload_n hx hb dX4_order_38 rfl (lv_at hl 2 rfl) ?_
          refine fw_iald C hP hO2 rfl aa rfl (by omega) (by decide) dX4_order_39 ?_
          refine fw_E (show eb aa = msk (fun b => cmx (s_bh σ) 10 aa b) 10 from hO4 aa (by omega)) ?_
          refine lv_iload_n hx hb dX4_order_40 rfl (lv_at hl 1 rfl) ?_
          refine fw_ci0 (w := w) hS (fw_rS (rest := []) (As := [.int (msk (fun b => cmx (s_bh σ) 10 aa b) 10), .int (nI mm)]) C hP hS wS_X4_148 (k_X4_hasBit l Γ w (msk (fun b => cmx (s_bh σ) 10 aa b) 10) (nI mm)) (fRm_mk rfl rfl (Nat.le_of_ble_eq_true rfl) (Nat.le_of_ble_eq_true rfl) (Nat.le_of_ble_eq_true rfl) (Nat.le_of_ble_eq_true rfl) (Nat.le_of_ble_eq_true rfl)) rfl hl.1 rfl dX4_order_41) (fun H locs hP hS => ?_)
          refine fw_ieqB (tgt := 49) hx hb dX4_order_44 (by decide) (fun c_44 => ?_) (fun c_44 => ?_)
          · refine lv_aload_n hx hb dX4_order_49 rfl (lv_at hl 0 rfl) ?_
            refine gf_X4_31 C hP hR.1 rfl rfl dX4_order_50 ?_
            refine lv_iload_n hx hb dX4_order_53 rfl (lv_at hl 1 rfl) ?_
            refine lv_dup2_11 hx hb dX4_order_54 rfl rfl ?_
            refine fw_iald C hP hO1 rfl mm rfl (by omega) (by decide) dX4_order_55 ?_
            refine fw_E (show tb mm = msk (s_bh σ mm) 10 from hO3 mm (by omega)) ?_
            refine lv_iconst (v := 1) hx hb dX4_order_56 (by decide) ?_
            refine lv_iload_n hx hb dX4_order_57 rfl (lv_at hl 2 rfl) ?_
            refine lv_ishl hx hb dX4_order_58 ?_
            refine lv_ior hx hb dX4_order_59 ?_
            refine fw_iast C hP hS hO1 rfl mm rfl (by omega) (by decide) dX4_order_60 (fun H locs hP hS => ?_)
            have hP : fP Γ (fset w 5 0 (aI 1 10 (upd tb mm ((msk (s_bh σ mm) 10) ||| (1 <<< ((nI aa) &&& 31)))))) H := hP
            refine lv_aload_n hx hb dX4_order_61 rfl (lv_at hl 0 rfl) ?_
            refine gf_X4_34 C hP ((fset_ne (by decide)).trans hR.1) rfl rfl dX4_order_62 ?_
            refine lv_iload_n hx hb dX4_order_65 rfl (lv_at hl 2 rfl) ?_
            refine fw_iald C hP ((fset_ne (by decide)).trans hO2) rfl aa rfl (by omega) (by decide) dX4_order_66 ?_
            refine fw_E (show eb aa = msk (fun b => cmx (s_bh σ) 10 aa b) 10 from hO4 aa (by omega)) ?_
            refine lv_iconst (v := 1) hx hb dX4_order_67 (by decide) ?_
            refine lv_iload_n hx hb dX4_order_68 rfl (lv_at hl 2 rfl) ?_
            refine lv_ishl hx hb dX4_order_69 ?_
            refine lv_ior hx hb dX4_order_70 ?_
            refine lv_topi (fun x3_71 e_x3_71 => ?_)
            refine lv_istore_n (lv' := [(3, .int x3_71), (0, .ref (w.1 0 0)), (1, .int (nI mm)), (2, .int (nI aa))]) hx hb dX4_order_71 rfl hl (by decide) rfl (fun ls hl => ?_)
            refine lv_iconst (v := nI 0) hx hb dX4_order_72 (by decide) ?_
            refine lv_istore (lv' := [(4, .int (nI 0)), (3, .int x3_71), (0, .ref (w.1 0 0)), (1, .int (nI mm)), (2, .int (nI aa))]) hx hb dX4_order_73 hl (by decide) rfl (fun ls hl => ?_)
            have c_31 : s_bh σ mm aa = false := by rw [← c_31]; exact (hbt_msk haa).symm
            have c_44 : cmx (s_bh σ) 10 aa mm = false := by rw [← c_44]; exact (hbt_msk hmm).symm
            have hP : fP Γ (fset (fset w 5 0 (aI 1 10 (upd tb mm ((msk (s_bh σ mm) 10) ||| (1 <<< ((nI aa) &&& 31)))))) 6 0 (aI 1 10 eb)) H := by rw [fset_id (((fset_ne (by decide)).trans hO2))]; exact hP
            refine W.widen (k := 0) (n := 0) (Nat.le_of_ble_eq_true rfl) (Nat.le_of_ble_eq_true rfl) ?_
            have loop : ∀ (fu : Nat) (i : Nat) (z : Nat → Int32) (H : Heap) (locs : List Loc) (ls : Array Slot), 10 - i < fu → (i ≤ 10) → (∀ m, m < i → z m = msk (fun b => cmx (f2 (s_bh σ) mm aa true) 10 m b) 10) → (∀ m, i ≤ m → m < 10 → z m = msk (fun b => cmx (s_bh σ) 10 m b) 10) → fP Γ (fset (fset w 5 0 (aI 1 10 (upd tb mm ((msk (s_bh σ mm) 10) ||| (1 <<< ((nI aa) &&& 31)))))) 6 0 (aI 1 10 z)) H → va_S (fA Γ) s.heap H locs → lv_has ls 5 [(4, .int (nI i)), (3, .int x3_71), (0, .ref (w.1 0 0)), (1, .int (nI mm)), (2, .int (nI aa))] → W p l e (rmD 9 5 1230) s m [.ref (w.1 0 0), .int (nI mm), .int (nI aa)].toArray below meth c H locs 0 0 (MQ below (va_Qi (fun r w1 => r = b2i (a_order σ (nI mm) (nI aa)) ∧ Rc (n_order σ (nI mm) (nI aa)) w1 ∧ fr w w1) (fI Γ) (fA Γ)) [.ref (w.1 0 0), .int (nI mm), .int (nI aa)].toArray s 5 1230 (fA Γ)) (F0 m 75 ls []) := by
              intro fu
              induction fu with
              | zero =>
                intro i z H locs ls hf
                exact absurd hf (Nat.not_lt_zero _)
              | succ fu ih =>
                intro i z H locs ls hf hi hz1 hz2 hP hS hl
                refine lv_iload hx hb dX4_order_75 (lv_at hl 0 rfl) ?_
                refine lv_bipush (v := nI 10) hx hb dX4_order_77 (by decide) ?_
                refine fw_geN (tgt := 119) hx hb (by omega) (by omega) dX4_order_79 (by decide) (fun c_79 => ?_) (fun c_79 => ?_)
                · refine lv_iconst (v := nI 1) hx hb dX4_order_119 (by decide) ?_
                  have htt1 := or_t c_4 c_11 hmm haa c_16 c_31 c_44
                  exact fw_reti C hr hlk rfl hP hS (⟨b2i_t htt1, by rw [or_m htt1 (by omega) (by omega)]; exact Rc_ord hR hmm haa hO3 (fun m hm => hz1 m (by omega)) rfl, fr_tr (fr_set (by decide)) (fr_set (by decide))⟩) (Nat.le_of_ble_eq_true rfl) (Nat.le_of_ble_eq_true rfl) dX4_order_120
                · refine lv_iload hx hb dX4_order_82 (lv_at hl 0 rfl) ?_
                  refine lv_iload_n hx hb dX4_order_84 rfl (lv_at hl 3 rfl) ?_
                  refine fw_eqN (tgt := 102) hx hb (by omega) (by omega) dX4_order_85 (by decide) (fun c_85 => ?_) (fun c_85 => ?_)
                  · refine lv_aload_n hx hb dX4_order_102 rfl (lv_at hl 2 rfl) ?_
                    refine gf_X4_34 C hP ((fset_ne (by decide)).trans ((fset_ne (by decide)).trans hR.1)) rfl rfl dX4_order_103 ?_
                    refine lv_iload hx hb dX4_order_106 (lv_at hl 0 rfl) ?_
                    refine lv_dup2_11 hx hb dX4_order_108 rfl rfl ?_
                    refine fw_iald C hP fset_at rfl i rfl (by omega) (by decide) dX4_order_109 ?_
                    refine fw_E (show z i = msk (fun b => cmx (s_bh σ) 10 i b) 10 from hz2 i (by omega) (by omega)) ?_
                    refine lv_iload_n hx hb dX4_order_110 rfl (lv_at hl 1 rfl) ?_
                    refine lv_ior hx hb dX4_order_111 ?_
                    refine fw_iast C hP hS fset_at rfl i rfl (by omega) (by decide) dX4_order_112 (fun H locs hP hS => ?_)
                    have hP : fP Γ (fset (fset (fset w 5 0 (aI 1 10 (upd tb mm ((msk (s_bh σ mm) 10) ||| (1 <<< ((nI aa) &&& 31)))))) 6 0 (aI 1 10 z)) 6 0 (aI 1 10 (upd z i ((msk (fun b => cmx (s_bh σ) 10 i b) 10) ||| x3_71)))) H := hP
                    rw [fset_s] at hP
                    refine lv_iinc (v := nI (i + 1)) (lv' := [(4, .int (nI (i + 1))), (3, .int x3_71), (0, .ref (w.1 0 0)), (1, .int (nI mm)), (2, .int (nI aa))]) hx hb dX4_order_113 hl (k := 0) rfl (by rw [show Int32.ofInt 1 = nI 1 from rfl, nI_add]) (by decide) rfl (fun ls hl => ?_)
                    refine lv_goto (tgt := 75) hx hb dX4_order_116 (by decide) ?_
                    refine W.widen (k := 0) (n := 0) (Nat.le_of_ble_eq_true rfl) (Nat.le_of_ble_eq_true rfl) ?_
                    obtain ⟨g1, g2⟩ := or_s1 (P := fun m => msk (fun b => cmx (f2 (s_bh σ) mm aa true) 10 m b) 10) (Q2 := fun m => msk (fun b => cmx (s_bh σ) 10 m b) 10) hz1 hz2 (or_upd hmm haa c_16 hIa c_44 (by omega) (Or.inl c_85) e_x3_71)
                    exact ih (i + 1) (upd z i ((msk (fun b => cmx (s_bh σ) 10 i b) 10) ||| x3_71)) H locs ls (by omega) (by omega) g1 g2 hP hS (lv_sub hl [0, 1, 2, 3, 4] rfl)
                  · refine lv_aload_n hx hb dX4_order_88 rfl (lv_at hl 2 rfl) ?_
                    refine gf_X4_34 C hP ((fset_ne (by decide)).trans ((fset_ne (by decide)).trans hR.1)) rfl rfl dX4_order_89 ?_
                    refine lv_iload hx hb dX4_order_92 (lv_at hl 0 rfl) ?_
                    refine fw_iald C hP fset_at rfl i rfl (by omega) (by decide) dX4_order_94 ?_
                    refine fw_E (show z i = msk (fun b => cmx (s_bh σ) 10 i b) 10 from hz2 i (by omega) (by omega)) ?_
                    refine lv_iload_n hx hb dX4_order_95 rfl (lv_at hl 3 rfl) ?_
                    refine fw_ci0 (w := (fset (fset w 5 0 (aI 1 10 (upd tb mm ((msk (s_bh σ mm) 10) ||| (1 <<< ((nI aa) &&& 31)))))) 6 0 (aI 1 10 z))) hS (fw_rS (rest := []) (As := [.int (msk (fun b => cmx (s_bh σ) 10 i b) 10), .int (nI mm)]) C hP hS wS_X4_148 (k_X4_hasBit l Γ (fset (fset w 5 0 (aI 1 10 (upd tb mm ((msk (s_bh σ mm) 10) ||| (1 <<< ((nI aa) &&& 31)))))) 6 0 (aI 1 10 z)) (msk (fun b => cmx (s_bh σ) 10 i b) 10) (nI mm)) (fRm_mk rfl rfl (Nat.le_of_ble_eq_true rfl) (Nat.le_of_ble_eq_true rfl) (Nat.le_of_ble_eq_true rfl) (Nat.le_of_ble_eq_true rfl) (Nat.le_of_ble_eq_true rfl)) rfl hl.1 rfl dX4_order_96) (fun H locs hP hS => ?_)
                    refine fw_ieqB (tgt := 113) hx hb dX4_order_99 (by decide) (fun c_99 => ?_) (fun c_99 => ?_)
                    · refine lv_iinc (v := nI (i + 1)) (lv' := [(4, .int (nI (i + 1))), (3, .int x3_71), (0, .ref (w.1 0 0)), (1, .int (nI mm)), (2, .int (nI aa))]) hx hb dX4_order_113 hl (k := 0) rfl (by rw [show Int32.ofInt 1 = nI 1 from rfl, nI_add]) (by decide) rfl (fun ls hl => ?_)
                      refine lv_goto (tgt := 75) hx hb dX4_order_116 (by decide) ?_
                      refine W.widen (k := 0) (n := 0) (Nat.le_of_ble_eq_true rfl) (Nat.le_of_ble_eq_true rfl) ?_
                      obtain ⟨g1, g2⟩ := or_s2 (P := fun m => msk (fun b => cmx (f2 (s_bh σ) mm aa true) 10 m b) 10) (Q2 := fun m => msk (fun b => cmx (s_bh σ) 10 m b) 10) (by omega) hz1 hz2 (or_keep hmm haa c_16 hIa c_44 (by omega) c_85 (by rw [← c_99]; exact (hbt_msk hmm).symm))
                      exact ih (i + 1) z H locs ls (by omega) (by omega) g1 g2 hP hS (lv_sub hl [0, 1, 2, 3, 4] rfl)
                    · refine lv_aload_n hx hb dX4_order_102 rfl (lv_at hl 2 rfl) ?_
                      refine gf_X4_34 C hP ((fset_ne (by decide)).trans ((fset_ne (by decide)).trans hR.1)) rfl rfl dX4_order_103 ?_
                      refine lv_iload hx hb dX4_order_106 (lv_at hl 0 rfl) ?_
                      refine lv_dup2_11 hx hb dX4_order_108 rfl rfl ?_
                      refine fw_iald C hP fset_at rfl i rfl (by omega) (by decide) dX4_order_109 ?_
                      refine fw_E (show z i = msk (fun b => cmx (s_bh σ) 10 i b) 10 from hz2 i (by omega) (by omega)) ?_
                      refine lv_iload_n hx hb dX4_order_110 rfl (lv_at hl 1 rfl) ?_
                      refine lv_ior hx hb dX4_order_111 ?_
                      refine fw_iast C hP hS fset_at rfl i rfl (by omega) (by decide) dX4_order_112 (fun H locs hP hS => ?_)
                      have hP : fP Γ (fset (fset (fset w 5 0 (aI 1 10 (upd tb mm ((msk (s_bh σ mm) 10) ||| (1 <<< ((nI aa) &&& 31)))))) 6 0 (aI 1 10 z)) 6 0 (aI 1 10 (upd z i ((msk (fun b => cmx (s_bh σ) 10 i b) 10) ||| x3_71)))) H := hP
                      rw [fset_s] at hP
                      refine lv_iinc (v := nI (i + 1)) (lv' := [(4, .int (nI (i + 1))), (3, .int x3_71), (0, .ref (w.1 0 0)), (1, .int (nI mm)), (2, .int (nI aa))]) hx hb dX4_order_113 hl (k := 0) rfl (by rw [show Int32.ofInt 1 = nI 1 from rfl, nI_add]) (by decide) rfl (fun ls hl => ?_)
                      refine lv_goto (tgt := 75) hx hb dX4_order_116 (by decide) ?_
                      refine W.widen (k := 0) (n := 0) (Nat.le_of_ble_eq_true rfl) (Nat.le_of_ble_eq_true rfl) ?_
                      obtain ⟨g1, g2⟩ := or_s1 (P := fun m => msk (fun b => cmx (f2 (s_bh σ) mm aa true) 10 m b) 10) (Q2 := fun m => msk (fun b => cmx (s_bh σ) 10 m b) 10) hz1 hz2 (or_upd hmm haa c_16 hIa c_44 (by omega) (Or.inr (by rw [← c_99]; exact (hbt_msk hmm).symm)) e_x3_71)
                      exact ih (i + 1) (upd z i ((msk (fun b => cmx (s_bh σ) 10 i b) 10) ||| x3_71)) H locs ls (by omega) (by omega) g1 g2 hP hS (lv_sub hl [0, 1, 2, 3, 4] rfl)
            exact loop 11 0 eb _ _ _ (by omega) (by omega) (fun m hm => absurd hm (Nat.not_lt_zero m)) (fun m _ hm => hO4 m hm) hP hS (lv_sub hl [0, 1, 2, 3, 4] rfl)
          · refine lv_iconst (v := nI 0) hx hb dX4_order_47 (by decide) ?_
            exact fw_reti C hr hlk rfl hP hS (⟨b2i_f (or_f (Or.inr (Or.inr (Or.inr (Or.inr (by rw [n_of_nI (by omega), n_of_nI (by omega), ← c_44]; exact (hbt_msk hmm).symm)))))), by rw [or_n (or_f (Or.inr (Or.inr (Or.inr (Or.inr (by rw [n_of_nI (by omega), n_of_nI (by omega), ← c_44]; exact (hbt_msk hmm).symm))))))]; exact hR, fr_rf w⟩) (Nat.le_of_ble_eq_true rfl) (Nat.le_of_ble_eq_true rfl) dX4_order_48
      · refine lv_iconst (v := nI 0) hx hb dX4_order_19 (by decide) ?_
        exact fw_reti C hr hlk rfl hP hS (⟨b2i_f (or_f (Or.inr (Or.inr (Or.inl (by rw [c_16]))))), by rw [or_n (or_f (Or.inr (Or.inr (Or.inl (by rw [c_16])))))]; exact hR, fr_rf w⟩) (Nat.le_of_ble_eq_true rfl) (Nat.le_of_ble_eq_true rfl) dX4_order_20
