set_option maxHeartbeats 4000000 in
set_option maxRecDepth 100000 in
theorem k_X4_isPerson (l : Launch) (Γ : FG) (w : FW) (σ : St) (x : Int32) (hI : s_np σ ≤ 24) (h0 : Rc0 σ w) : Met l yX4_isPerson (ws_ yX4_isPerson cX4_isPerson 2 (some .boolean)) (rmD 0 0 0) (va_Pc [.ref (w.1 0 0), .int x] (fI Γ w)) (va_Qi (fun r w1 => r = b2i (fIn x (s_np σ)) ∧ w1 = w) (fI Γ) (fA Γ)) 0 0 (fA Γ) := by
  refine fw_met (by decide) (Nat.le_of_ble_eq_true rfl) ?_
  intro p e s m below meth c ls C hP hS hr hlk hin hl
  have C : fC p s m [.ref (w.1 0 0), .int x].toArray c cX4_isPerson 2 RX4 Γ := C
  have hx := C.1.1
  have hb := C.1.2.1
  have hl : lv_has ls 2 [(0, .ref (w.1 0 0)), (1, .int x)] := hl
  refine lv_iload_n hx hb dX4_isPerson_0 rfl (lv_at hl 1 rfl) ?_
  refine lv_if_lt (tgt := 16) hx hb dX4_isPerson_1 (by decide) (fun c_1 => ?_) (fun c_1 => ?_)
  · refine lv_iconst (v := nI 0) hx hb dX4_isPerson_16 (by decide) ?_
    exact fw_reti C hr hlk rfl hP hS (⟨b2i_f (fIn_lt c_1), rfl⟩) (Nat.le_of_ble_eq_true rfl) (Nat.le_of_ble_eq_true rfl) dX4_isPerson_17
  · refine lv_iload_n hx hb dX4_isPerson_4 rfl (lv_at hl 1 rfl) ?_
    refine lv_aload_n hx hb dX4_isPerson_5 rfl (lv_at hl 0 rfl) ?_
    refine gf_X4_44 C hP h0 rfl rfl dX4_isPerson_6 ?_
    refine lv_icmp_ge (tgt := 16) hx hb dX4_isPerson_9 (by decide) (fun c_9 => ?_) (fun c_9 => ?_)
    · refine lv_iconst (v := nI 0) hx hb dX4_isPerson_16 (by decide) ?_
      exact fw_reti C hr hlk rfl hP hS (⟨b2i_f (fIn_ge (by omega) c_9), rfl⟩) (Nat.le_of_ble_eq_true rfl) (Nat.le_of_ble_eq_true rfl) dX4_isPerson_17
    · refine lv_iconst (v := nI 1) hx hb dX4_isPerson_12 (by decide) ?_
      refine lv_goto (tgt := 17) hx hb dX4_isPerson_13 (by decide) ?_
      exact fw_reti C hr hlk rfl hP hS (⟨b2i_t (fIn_in (by omega) c_1 c_9), rfl⟩) (Nat.le_of_ble_eq_true rfl) (Nat.le_of_ble_eq_true rfl) dX4_isPerson_17
set_option maxHeartbeats 4000000 in
set_option maxRecDepth 100000 in
theorem k_X4_isMeaning (l : Launch) (Γ : FG) (w : FW) (x : Int32) : Met l yX4_isMeaning (ws_ yX4_isMeaning cX4_isMeaning 1 (some .boolean)) (rmD 0 0 0) (va_Pc [.int x] (fI Γ w)) (va_Qi (fun r w1 => r = b2i (fIn x 10) ∧ w1 = w) (fI Γ) (fA Γ)) 0 0 (fA Γ) := by
  refine fw_met (by decide) (Nat.le_of_ble_eq_true rfl) ?_
  intro p e s m below meth c ls C hP hS hr hlk hin hl
  have C : fC p s m [.int x].toArray c cX4_isMeaning 1 RX4 Γ := C
  have hx := C.1.1
  have hb := C.1.2.1
  have hl : lv_has ls 1 [(0, .int x)] := hl
  refine lv_iload_n hx hb dX4_isMeaning_0 rfl (lv_at hl 0 rfl) ?_
  refine lv_if_lt (tgt := 14) hx hb dX4_isMeaning_1 (by decide) (fun c_1 => ?_) (fun c_1 => ?_)
  · refine lv_iconst (v := nI 0) hx hb dX4_isMeaning_14 (by decide) ?_
    exact fw_reti C hr hlk rfl hP hS (⟨b2i_f (fIn_lt c_1), rfl⟩) (Nat.le_of_ble_eq_true rfl) (Nat.le_of_ble_eq_true rfl) dX4_isMeaning_15
  · refine lv_iload_n hx hb dX4_isMeaning_4 rfl (lv_at hl 0 rfl) ?_
    refine lv_bipush (v := nI 10) hx hb dX4_isMeaning_5 (by decide) ?_
    refine lv_icmp_ge (tgt := 14) hx hb dX4_isMeaning_7 (by decide) (fun c_7 => ?_) (fun c_7 => ?_)
    · refine lv_iconst (v := nI 0) hx hb dX4_isMeaning_14 (by decide) ?_
      exact fw_reti C hr hlk rfl hP hS (⟨b2i_f (fIn_ge (by decide) c_7), rfl⟩) (Nat.le_of_ble_eq_true rfl) (Nat.le_of_ble_eq_true rfl) dX4_isMeaning_15
    · refine lv_iconst (v := nI 1) hx hb dX4_isMeaning_10 (by decide) ?_
      refine lv_goto (tgt := 15) hx hb dX4_isMeaning_11 (by decide) ?_
      exact fw_reti C hr hlk rfl hP hS (⟨b2i_t (fIn_in (by decide) c_1 c_7), rfl⟩) (Nat.le_of_ble_eq_true rfl) (Nat.le_of_ble_eq_true rfl) dX4_isMeaning_15
theorem fa_lt255 {x : Int32} (h : nI 256 ≤ x) : nI 255 < x := by
  have h1 := Int32.le_iff_toInt_le.mp h
  rw [nI_toInt (by omega)] at h1
  exact Int32.lt_iff_toInt_lt.mpr (by rw [nI_toInt (by omega)]; omega)
theorem fa_ge256 {x : Int32} (h : nI 255 < x) : nI 256 ≤ x := by
  have h1 := Int32.lt_iff_toInt_lt.mp h
  rw [nI_toInt (by omega)] at h1
  exact Int32.le_iff_toInt_le.mpr (by rw [nI_toInt (by omega)]; omega)
set_option maxHeartbeats 4000000 in
set_option maxRecDepth 100000 in
theorem k_X4_isByte (l : Launch) (Γ : FG) (w : FW) (x : Int32) : Met l yX4_isByte (ws_ yX4_isByte cX4_isByte 1 (some .boolean)) (rmD 0 0 0) (va_Pc [.int x] (fI Γ w)) (va_Qi (fun r w1 => r = b2i (fIn x 256) ∧ w1 = w) (fI Γ) (fA Γ)) 0 0 (fA Γ) := by
  refine fw_met (by decide) (Nat.le_of_ble_eq_true rfl) ?_
  intro p e s m below meth c ls C hP hS hr hlk hin hl
  have C : fC p s m [.int x].toArray c cX4_isByte 1 RX4 Γ := C
  have hx := C.1.1
  have hb := C.1.2.1
  have hl : lv_has ls 1 [(0, .int x)] := hl
  refine lv_iload_n hx hb dX4_isByte_0 rfl (lv_at hl 0 rfl) ?_
  refine lv_if_lt (tgt := 15) hx hb dX4_isByte_1 (by decide) (fun c_1 => ?_) (fun c_1 => ?_)
  · refine lv_iconst (v := nI 0) hx hb dX4_isByte_15 (by decide) ?_
    exact fw_reti C hr hlk rfl hP hS (⟨b2i_f (fIn_lt c_1), rfl⟩) (Nat.le_of_ble_eq_true rfl) (Nat.le_of_ble_eq_true rfl) dX4_isByte_16
  · refine lv_iload_n hx hb dX4_isByte_4 rfl (lv_at hl 0 rfl) ?_
    refine lv_sipush (v := nI 255) hx hb dX4_isByte_5 (by decide) ?_
    refine lv_icmp_gt (tgt := 15) hx hb dX4_isByte_8 (by decide) (fun c_8 => ?_) (fun c_8 => ?_)
    · refine lv_iconst (v := nI 0) hx hb dX4_isByte_15 (by decide) ?_
      exact fw_reti C hr hlk rfl hP hS (⟨b2i_f (fIn_ge (by decide) (fa_ge256 c_8)), rfl⟩) (Nat.le_of_ble_eq_true rfl) (Nat.le_of_ble_eq_true rfl) dX4_isByte_16
    · refine lv_iconst (v := nI 1) hx hb dX4_isByte_11 (by decide) ?_
      refine lv_goto (tgt := 16) hx hb dX4_isByte_12 (by decide) ?_
      exact fw_reti C hr hlk rfl hP hS (⟨b2i_t (fIn_in (by decide) c_1 (fun q => c_8 (fa_lt255 q))), rfl⟩) (Nat.le_of_ble_eq_true rfl) (Nat.le_of_ble_eq_true rfl) dX4_isByte_16
set_option maxHeartbeats 4000000 in
set_option maxRecDepth 100000 in
theorem k_X4_isLate (l : Launch) (Γ : FG) (w : FW) (σ : St) (x : Int64) (h0 : Rc0 σ w) : Met l yX4_isLate (ws_ yX4_isLate cX4_isLate 3 (some .boolean)) (rmD 0 0 0) (va_Pc [.ref (w.1 0 0), .long x] (fI Γ w)) (va_Qi (fun r w1 => r = b2i (decide (x < s_ck σ) || decide (cLAST < x)) ∧ w1 = w) (fI Γ) (fA Γ)) 0 0 (fA Γ) := by
  refine fw_met (by decide) (Nat.le_of_ble_eq_true rfl) ?_
  intro p e s m below meth c ls C hP hS hr hlk hin hl
  have C : fC p s m [.ref (w.1 0 0), .long x].toArray c cX4_isLate 3 RX4 Γ := C
  have hx := C.1.1
  have hb := C.1.2.1
  have hl : lv_has ls 3 [(0, .ref (w.1 0 0)), (1, .long x)] := hl
  refine lv_lload_n hx hb dX4_isLate_0 rfl (lv_at hl 1 rfl) ?_
  refine lv_aload_n hx hb dX4_isLate_1 rfl (lv_at hl 0 rfl) ?_
  refine gf_X4_130 C hP h0 rfl rfl dX4_isLate_2 ?_
  refine W.lcmp hx hb dX4_isLate_5 ?_
  refine fw_llt (tgt := 17) hx hb dX4_isLate_6 (by decide) (fun c_6 => ?_) (fun c_6 => ?_)
  · refine lv_iconst (v := nI 1) hx hb dX4_isLate_17 (by decide) ?_
    refine lv_goto (tgt := 22) hx hb dX4_isLate_18 (by decide) ?_
    exact fw_reti C hr hlk rfl hP hS (⟨b2i_t (by rw [decide_eq_true c_6, Bool.true_or]), rfl⟩) (Nat.le_of_ble_eq_true rfl) (Nat.le_of_ble_eq_true rfl) dX4_isLate_22
  · refine lv_lload_n hx hb dX4_isLate_9 rfl (lv_at hl 1 rfl) ?_
    refine lv_ldc2 hx hb C.1.2.2.2.1 (C.1.2.2.2.2 _ qk_X4_55) dX4_isLate_10 ?_
    refine W.lcmp hx hb dX4_isLate_13 ?_
    refine fw_lle (tgt := 21) hx hb dX4_isLate_14 (by decide) (fun c_14 => ?_) (fun c_14 => ?_)
    · refine lv_iconst (v := nI 0) hx hb dX4_isLate_21 (by decide) ?_
      exact fw_reti C hr hlk rfl hP hS (⟨b2i_f (by rw [decide_eq_false c_6, decide_eq_false (Int64.not_lt.mpr c_14)]; rfl), rfl⟩) (Nat.le_of_ble_eq_true rfl) (Nat.le_of_ble_eq_true rfl) dX4_isLate_22
    · refine lv_iconst (v := nI 1) hx hb dX4_isLate_17 (by decide) ?_
      refine lv_goto (tgt := 22) hx hb dX4_isLate_18 (by decide) ?_
      exact fw_reti C hr hlk rfl hP hS (⟨b2i_t (by rw [decide_eq_true (Int64.not_le.mp c_14), Bool.or_true]), rfl⟩) (Nat.le_of_ble_eq_true rfl) (Nat.le_of_ble_eq_true rfl) dX4_isLate_22
set_option maxHeartbeats 4000000 in
set_option maxRecDepth 100000 in
theorem k_X4_hasBit (l : Launch) (Γ : FG) (w : FW) (x y : Int32) : Met l yX4_hasBit (ws_ yX4_hasBit cX4_hasBit 2 (some .boolean)) (rmD 0 0 0) (va_Pc [.int x, .int y] (fI Γ w)) (va_Qi (fun r w1 => r = b2i (hbt x y) ∧ w1 = w) (fI Γ) (fA Γ)) 0 0 (fA Γ) := by
  refine fw_met (by decide) (Nat.le_of_ble_eq_true rfl) ?_
  intro p e s m below meth c ls C hP hS hr hlk hin hl
  have C : fC p s m [.int x, .int y].toArray c cX4_hasBit 2 RX4 Γ := C
  have hx := C.1.1
  have hb := C.1.2.1
  have hl : lv_has ls 2 [(0, .int x), (1, .int y)] := hl
  refine lv_iload_n hx hb dX4_hasBit_0 rfl (lv_at hl 0 rfl) ?_
  refine lv_iload_n hx hb dX4_hasBit_1 rfl (lv_at hl 1 rfl) ?_
  refine lv_iushr (v := ush x y) hx hb dX4_hasBit_2 rfl ?_
  refine lv_iconst (v := nI 1) hx hb dX4_hasBit_3 (by decide) ?_
  refine lv_iand hx hb dX4_hasBit_4 ?_
  refine lv_iconst (v := nI 1) hx hb dX4_hasBit_5 (by decide) ?_
  refine lv_icmp_ne (tgt := 13) hx hb dX4_hasBit_6 (by decide) (fun c_6 => ?_) (fun c_6 => ?_)
  · refine lv_iconst (v := nI 0) hx hb dX4_hasBit_13 (by decide) ?_
    exact fw_reti C hr hlk rfl hP hS (⟨b2i_f (decide_eq_false c_6), rfl⟩) (Nat.le_of_ble_eq_true rfl) (Nat.le_of_ble_eq_true rfl) dX4_hasBit_14
  · refine lv_iconst (v := nI 1) hx hb dX4_hasBit_9 (by decide) ?_
    refine lv_goto (tgt := 14) hx hb dX4_hasBit_10 (by decide) ?_
    exact fw_reti C hr hlk rfl hP hS (⟨b2i_t (decide_eq_true c_6), rfl⟩) (Nat.le_of_ble_eq_true rfl) (Nat.le_of_ble_eq_true rfl) dX4_hasBit_14
set_option maxHeartbeats 4000000 in
set_option maxRecDepth 100000 in
theorem k_X4_thingAt (l : Launch) (Γ : FG) (w : FW) (σ : St) (x : Int32) (hI : s_nt σ ≤ 16) (h0 : Rc0 σ w) (h2 : ∃ f, w.2 2 0 = some (aR 6 16 f) ∧ ∀ t, t < s_nt σ → f t = some (w.1 11 t)) : Met l yX4_thingAt (ws_ yX4_thingAt cX4_thingAt 2 (some (.object "SignRows$Thing"))) (rmD 0 0 0) (va_Pc [.ref (w.1 0 0), .int x] (fI Γ w)) (va_Qq (fun r w1 => r = (if fIn x (s_nt σ) then some (w.1 11 (n_of x)) else none) ∧ w1 = w) (fI Γ) (fA Γ)) 0 0 (fA Γ) := by
  refine fw_met (by decide) (Nat.le_of_ble_eq_true rfl) ?_
  intro p e s m below meth c ls C hP hS hr hlk hin hl
  have C : fC p s m [.ref (w.1 0 0), .int x].toArray c cX4_thingAt 2 RX4 Γ := C
  have hx := C.1.1
  have hb := C.1.2.1
  have hl : lv_has ls 2 [(0, .ref (w.1 0 0)), (1, .int x)] := hl
  obtain ⟨f, hf, hff⟩ := h2
  refine lv_iload_n hx hb dX4_thingAt_0 rfl (lv_at hl 1 rfl) ?_
  refine lv_if_lt (tgt := 18) hx hb dX4_thingAt_1 (by decide) (fun c_1 => ?_) (fun c_1 => ?_)
  · refine lv_null hx hb dX4_thingAt_18 ?_
    exact fw_retq (r := none) C hr (Or.inl ⟨_, rfl⟩) hlk rfl hP hS (⟨by rw [fIn_lt c_1]; rfl, rfl⟩) (Nat.le_of_ble_eq_true rfl) (Nat.le_of_ble_eq_true rfl) dX4_thingAt_19
  · refine lv_iload_n hx hb dX4_thingAt_4 rfl (lv_at hl 1 rfl) ?_
    refine lv_aload_n hx hb dX4_thingAt_5 rfl (lv_at hl 0 rfl) ?_
    refine gf_X4_63 C hP h0 rfl rfl dX4_thingAt_6 ?_
    refine lv_icmp_ge (tgt := 18) hx hb dX4_thingAt_9 (by decide) (fun c_9 => ?_) (fun c_9 => ?_)
    · refine lv_null hx hb dX4_thingAt_18 ?_
      exact fw_retq (r := none) C hr (Or.inl ⟨_, rfl⟩) hlk rfl hP hS (⟨by rw [fIn_ge (by omega) c_9]; rfl, rfl⟩) (Nat.le_of_ble_eq_true rfl) (Nat.le_of_ble_eq_true rfl) dX4_thingAt_19
    · refine lv_iload_n hx hb dX4_thingAt_12 rfl (lv_at hl 1 rfl) ?_
      refine lv_bipush (v := nI 16) hx hb dX4_thingAt_13 (by decide) ?_
      refine lv_icmp_lt (tgt := 20) hx hb dX4_thingAt_15 (by decide) (fun c_15 => ?_) (fun c_15 => ?_)
      · obtain ⟨j, hj, rfl⟩ := fIn_t (fIn_in (n := s_nt σ) (by omega) c_1 c_9) (by omega)
        refine lv_aload_n hx hb dX4_thingAt_20 rfl (lv_at hl 0 rfl) ?_
        refine gf_X4_17 C hP h0 rfl rfl dX4_thingAt_21 ?_
        refine lv_iload_n hx hb dX4_thingAt_24 rfl (lv_at hl 1 rfl) ?_
        refine fw_aald (Cn := RX3) C hP (by decide) rfl hf rfl j rfl (by omega) (by decide) (show va_rf (f j) = .ref (w.1 11 j) from (by rw [hff j (by omega)]; rfl)) dX4_thingAt_25 ?_
        exact fw_retq (r := some (w.1 11 j)) C hr (Or.inl ⟨_, rfl⟩) hlk rfl hP hS (⟨by rw [fIn_N (by omega), decide_eq_true hj, n_of_nI (by omega)]; rfl, rfl⟩) (Nat.le_of_ble_eq_true rfl) (Nat.le_of_ble_eq_true rfl) dX4_thingAt_26
      · refine lv_null hx hb dX4_thingAt_18 ?_
        exact absurd (fIn_in (n := s_nt σ) (by omega) c_1 c_9) (by rw [fIn_ge (by omega) (Int32.le_trans (nI_le hI (by omega)) (Int32.not_lt.mp c_15))]; decide)
set_option maxHeartbeats 4000000 in
set_option maxRecDepth 100000 in
theorem k_X4_signatureAt (l : Launch) (Γ : FG) (w : FW) (σ : St) (x : Int32) (hI : s_ns σ ≤ 400) (h0 : Rc0 σ w) (h2 : ∃ f, w.2 3 0 = some (aR 5 400 f) ∧ ∀ i, i < s_ns σ → f i = some (w.1 16 i)) : Met l yX4_signatureAt (ws_ yX4_signatureAt cX4_signatureAt 2 (some (.object "SignRows$Signature"))) (rmD 0 0 0) (va_Pc [.ref (w.1 0 0), .int x] (fI Γ w)) (va_Qq (fun r w1 => r = (if fIn x (s_ns σ) then some (w.1 16 (n_of x)) else none) ∧ w1 = w) (fI Γ) (fA Γ)) 0 0 (fA Γ) := by
  refine fw_met (by decide) (Nat.le_of_ble_eq_true rfl) ?_
  intro p e s m below meth c ls C hP hS hr hlk hin hl
  have C : fC p s m [.ref (w.1 0 0), .int x].toArray c cX4_signatureAt 2 RX4 Γ := C
  have hx := C.1.1
  have hb := C.1.2.1
  have hl : lv_has ls 2 [(0, .ref (w.1 0 0)), (1, .int x)] := hl
  obtain ⟨f, hf, hff⟩ := h2
  refine lv_iload_n hx hb dX4_signatureAt_0 rfl (lv_at hl 1 rfl) ?_
  refine lv_if_lt (tgt := 19) hx hb dX4_signatureAt_1 (by decide) (fun c_1 => ?_) (fun c_1 => ?_)
  · refine lv_null hx hb dX4_signatureAt_19 ?_
    exact fw_retq (r := none) C hr (Or.inl ⟨_, rfl⟩) hlk rfl hP hS (⟨by rw [fIn_lt c_1]; rfl, rfl⟩) (Nat.le_of_ble_eq_true rfl) (Nat.le_of_ble_eq_true rfl) dX4_signatureAt_20
  · refine lv_iload_n hx hb dX4_signatureAt_4 rfl (lv_at hl 1 rfl) ?_
    refine lv_aload_n hx hb dX4_signatureAt_5 rfl (lv_at hl 0 rfl) ?_
    refine gf_X4_113 C hP h0 rfl rfl dX4_signatureAt_6 ?_
    refine lv_icmp_ge (tgt := 19) hx hb dX4_signatureAt_9 (by decide) (fun c_9 => ?_) (fun c_9 => ?_)
    · refine lv_null hx hb dX4_signatureAt_19 ?_
      exact fw_retq (r := none) C hr (Or.inl ⟨_, rfl⟩) hlk rfl hP hS (⟨by rw [fIn_ge (by omega) c_9]; rfl, rfl⟩) (Nat.le_of_ble_eq_true rfl) (Nat.le_of_ble_eq_true rfl) dX4_signatureAt_20
    · refine lv_iload_n hx hb dX4_signatureAt_12 rfl (lv_at hl 1 rfl) ?_
      refine lv_sipush (v := nI 400) hx hb dX4_signatureAt_13 (by decide) ?_
      refine lv_icmp_lt (tgt := 21) hx hb dX4_signatureAt_16 (by decide) (fun c_16 => ?_) (fun c_16 => ?_)
      · obtain ⟨j, hj, rfl⟩ := fIn_t (fIn_in (n := s_ns σ) (by omega) c_1 c_9) (by omega)
        refine lv_aload_n hx hb dX4_signatureAt_21 rfl (lv_at hl 0 rfl) ?_
        refine gf_X4_23 C hP h0 rfl rfl dX4_signatureAt_22 ?_
        refine lv_iload_n hx hb dX4_signatureAt_25 rfl (lv_at hl 1 rfl) ?_
        refine fw_aald (Cn := RX2) C hP (by decide) rfl hf rfl j rfl (by omega) (by decide) (show va_rf (f j) = .ref (w.1 16 j) from (by rw [hff j (by omega)]; rfl)) dX4_signatureAt_26 ?_
        exact fw_retq (r := some (w.1 16 j)) C hr (Or.inl ⟨_, rfl⟩) hlk rfl hP hS (⟨by rw [fIn_N (by omega), decide_eq_true hj, n_of_nI (by omega)]; rfl, rfl⟩) (Nat.le_of_ble_eq_true rfl) (Nat.le_of_ble_eq_true rfl) dX4_signatureAt_27
      · refine lv_null hx hb dX4_signatureAt_19 ?_
        exact absurd (fIn_in (n := s_ns σ) (by omega) c_1 c_9) (by rw [fIn_ge (by omega) (Int32.le_trans (nI_le hI (by omega)) (Int32.not_lt.mp c_16))]; decide)
