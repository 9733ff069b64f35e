set_option maxHeartbeats 4000000 in
set_option maxRecDepth 100000 in
theorem k_X0_isHeldBy (l : Launch) (Γ : FG) (w : FW) (σ : St) (i a b : Nat) (x : Int64) (ha : a < 2 ^ 31) (hb0 : b < 2 ^ 31) (hI : s_rp σ i < 24 ∧ s_rk σ i < 10) (h0 : w.2 10 i = some (oRo σ i)) : Met l yX0_isHeldBy (ws_ yX0_isHeldBy cX0_isHeldBy 5 (some .boolean)) (rmD 0 0 0) (va_Pc [.ref (w.1 10 i), .int (nI a), .int (nI b), .long x] (fI Γ w)) (va_Qi (fun r w1 => r = b2i (decide (s_rp σ i = a) && decide (s_rk σ i = b) && decide (s_rf σ i ≤ x) && decide (x ≤ s_rt σ i)) ∧ w1 = w) (fI Γ) (fA Γ)) 0 0 (fA Γ) := by
  refine fw_met (by decide) (Nat.le_of_ble_eq_true rfl) ?_
  intro p e s m below meth c ls C hP hS hr hlk hin hl
  have C : fC p s m [.ref (w.1 10 i), .int (nI a), .int (nI b), .long x].toArray c cX0_isHeldBy 5 RX0 Γ := C
  have hx := C.1.1
  have hb := C.1.2.1
  have hl : lv_has ls 5 [(0, .ref (w.1 10 i)), (1, .int (nI a)), (2, .int (nI b)), (3, .long x)] := hl
  refine lv_aload_n hx hb dX0_isHeldBy_0 rfl (lv_at hl 0 rfl) ?_
  refine gf_X0_7 C hP h0 rfl rfl dX0_isHeldBy_1 ?_
  refine lv_iload_n hx hb dX0_isHeldBy_4 rfl (lv_at hl 1 rfl) ?_
  refine fw_neN (tgt := 38) hx hb (by omega) (by omega) dX0_isHeldBy_5 (by decide) (fun c_5 => ?_) (fun c_5 => ?_)
  · refine lv_iconst (v := nI 0) hx hb dX0_isHeldBy_38 (by decide) ?_
    exact fw_reti C hr hlk rfl hP hS (⟨b2i_f (by rw [decide_eq_false c_5]; rfl), rfl⟩) (Nat.le_of_ble_eq_true rfl) (Nat.le_of_ble_eq_true rfl) dX0_isHeldBy_39
  · refine lv_aload_n hx hb dX0_isHeldBy_8 rfl (lv_at hl 0 rfl) ?_
    refine gf_X0_13 C hP h0 rfl rfl dX0_isHeldBy_9 ?_
    refine lv_iload_n hx hb dX0_isHeldBy_12 rfl (lv_at hl 2 rfl) ?_
    refine fw_neN (tgt := 38) hx hb (by omega) (by omega) dX0_isHeldBy_13 (by decide) (fun c_13 => ?_) (fun c_13 => ?_)
    · refine lv_iconst (v := nI 0) hx hb dX0_isHeldBy_38 (by decide) ?_
      exact fw_reti C hr hlk rfl hP hS (⟨b2i_f (by rw [decide_eq_true c_5, decide_eq_false c_13]; rfl), rfl⟩) (Nat.le_of_ble_eq_true rfl) (Nat.le_of_ble_eq_true rfl) dX0_isHeldBy_39
    · refine lv_aload_n hx hb dX0_isHeldBy_16 rfl (lv_at hl 0 rfl) ?_
      refine gf_X0_16 C hP h0 rfl rfl dX0_isHeldBy_17 ?_
      refine lv_lload_n hx hb dX0_isHeldBy_20 rfl (lv_at hl 3 rfl) ?_
      refine W.lcmp hx hb dX0_isHeldBy_21 ?_
      refine fw_lgt (tgt := 38) hx hb dX0_isHeldBy_22 (by decide) (fun c_22 => ?_) (fun c_22 => ?_)
      · refine lv_iconst (v := nI 0) hx hb dX0_isHeldBy_38 (by decide) ?_
        exact fw_reti C hr hlk rfl hP hS (⟨b2i_f (by rw [decide_eq_true c_5, decide_eq_true c_13, decide_eq_false (Int64.not_le.mpr c_22)]; rfl), rfl⟩) (Nat.le_of_ble_eq_true rfl) (Nat.le_of_ble_eq_true rfl) dX0_isHeldBy_39
      · refine lv_lload_n hx hb dX0_isHeldBy_25 rfl (lv_at hl 3 rfl) ?_
        refine lv_aload_n hx hb dX0_isHeldBy_26 rfl (lv_at hl 0 rfl) ?_
        refine gf_X0_20 C hP h0 rfl rfl dX0_isHeldBy_27 ?_
        refine W.lcmp hx hb dX0_isHeldBy_30 ?_
        refine fw_lgt (tgt := 38) hx hb dX0_isHeldBy_31 (by decide) (fun c_31 => ?_) (fun c_31 => ?_)
        · refine lv_iconst (v := nI 0) hx hb dX0_isHeldBy_38 (by decide) ?_
          exact fw_reti C hr hlk rfl hP hS (⟨b2i_f (by rw [decide_eq_true c_5, decide_eq_true c_13, decide_eq_true (Int64.not_lt.mp c_22), decide_eq_false (Int64.not_le.mpr c_31)]; rfl), rfl⟩) (Nat.le_of_ble_eq_true rfl) (Nat.le_of_ble_eq_true rfl) dX0_isHeldBy_39
        · refine lv_iconst (v := nI 1) hx hb dX0_isHeldBy_34 (by decide) ?_
          refine lv_goto (tgt := 39) hx hb dX0_isHeldBy_35 (by decide) ?_
          exact fw_reti C hr hlk rfl hP hS (⟨b2i_t (by rw [decide_eq_true c_5, decide_eq_true c_13, decide_eq_true (Int64.not_lt.mp c_22), decide_eq_true (Int64.not_lt.mp c_31)]; rfl), rfl⟩) (Nat.le_of_ble_eq_true rfl) (Nat.le_of_ble_eq_true rfl) dX0_isHeldBy_39
set_option maxHeartbeats 4000000 in
set_option maxRecDepth 100000 in
theorem k_X0_init (l : Launch) (Γ : FG) (w : FW) (i a b : Nat) (x y : Int64) (h0 : w.2 10 i = some (oO 0 [.int 0, .int 0, .long 0, .long 0])) : Met l yX0_init (ws_ yX0_init cX0_init 7 none) (rmD 1 0 0) (va_Pc [.ref (w.1 10 i), .int (nI a), .int (nI b), .long x, .long y] (fI Γ w)) (va_Qv (fun w1 => w1 = fset w 10 i (oO 0 [.int (nI a), .int (nI b), .long x, .long y])) (fI Γ) (fA Γ)) 0 0 (fA Γ) := by
  refine fw_met (by decide) (Nat.le_of_ble_eq_true rfl) ?_
  intro p e s m below meth c ls C hP hS hr hlk hin hl
  have C : fC p s m [.ref (w.1 10 i), .int (nI a), .int (nI b), .long x, .long y].toArray c cX0_init 7 RX0 Γ := C
  have hx := C.1.1
  have hb := C.1.2.1
  have hl : lv_has ls 7 [(0, .ref (w.1 10 i)), (1, .int (nI a)), (2, .int (nI b)), (3, .long x), (5, .long y)] := hl
  refine lv_aload_n hx hb dX0_init_0 rfl (lv_at hl 0 rfl) ?_
  refine fw_obj C qm_X0_1 hl.1 ⟨(Nat.le_of_ble_eq_true rfl), (Nat.le_of_ble_eq_true rfl)⟩ (Nat.le_of_ble_eq_true rfl) dX0_init_1 ?_
  refine lv_aload_n hx hb dX0_init_4 rfl (lv_at hl 0 rfl) ?_
  refine lv_iload_n hx hb dX0_init_5 rfl (lv_at hl 1 rfl) ?_
  refine pf_X0_7 C hP hS hin rfl rfl h0 rfl (Nat.le_of_ble_eq_true rfl) dX0_init_6 (fun H locs hP hS => ?_)
  have hP : fP Γ (fset w 10 i (oO 0 [.int (nI a), .int 0, .long 0, .long 0])) H := hP
  refine lv_aload_n hx hb dX0_init_9 rfl (lv_at hl 0 rfl) ?_
  refine lv_iload_n hx hb dX0_init_10 rfl (lv_at hl 2 rfl) ?_
  refine pf_X0_13 C hP hS hin rfl rfl fset_at rfl (Nat.le_of_ble_eq_true rfl) dX0_init_11 (fun H locs hP hS => ?_)
  have hP : fP Γ (fset (fset w 10 i (oO 0 [.int (nI a), .int 0, .long 0, .long 0])) 10 i (oO 0 [.int (nI a), .int (nI b), .long 0, .long 0])) H := hP
  rw [fset_s] at hP
  refine lv_aload_n hx hb dX0_init_14 rfl (lv_at hl 0 rfl) ?_
  refine lv_lload_n hx hb dX0_init_15 rfl (lv_at hl 3 rfl) ?_
  refine pf_X0_16 C hP hS hin rfl rfl fset_at rfl (Nat.le_of_ble_eq_true rfl) dX0_init_16 (fun H locs hP hS => ?_)
  have hP : fP Γ (fset (fset w 10 i (oO 0 [.int (nI a), .int (nI b), .long 0, .long 0])) 10 i (oO 0 [.int (nI a), .int (nI b), .long x, .long 0])) H := hP
  rw [fset_s] at hP
  refine lv_aload_n hx hb dX0_init_19 rfl (lv_at hl 0 rfl) ?_
  refine lv_lload hx hb dX0_init_20 (lv_at hl 4 rfl) ?_
  refine pf_X0_20 C hP hS hin rfl rfl fset_at rfl (Nat.le_of_ble_eq_true rfl) dX0_init_22 (fun H locs hP hS => ?_)
  have hP : fP Γ (fset (fset w 10 i (oO 0 [.int (nI a), .int (nI b), .long x, .long 0])) 10 i (oO 0 [.int (nI a), .int (nI b), .long x, .long y])) H := hP
  rw [fset_s] at hP
  exact fw_retv C hr hlk hP hS (rfl) (Nat.le_of_ble_eq_true rfl) (Nat.le_of_ble_eq_true rfl) dX0_init_25
set_option maxHeartbeats 4000000 in
set_option maxRecDepth 100000 in
theorem k_X2_isOf (l : Launch) (Γ : FG) (w : FW) (σ : St) (i t a b : Nat) (ha : a < 2 ^ 31) (hb0 : b < 2 ^ 31) (hI : s_sp σ i < 24 ∧ s_sm σ i < 10) (hinj : w.1 11 (s_st σ i) = w.1 11 t → s_st σ i = t) (h0 : w.2 16 i = some (oSg σ w i)) : Met l yX2_isOf (ws_ yX2_isOf cX2_isOf 4 (some .boolean)) (rmD 0 0 0) (va_Pc [.ref (w.1 16 i), .ref (w.1 11 t), .int (nI a), .int (nI b)] (fI Γ w)) (va_Qi (fun r w1 => r = b2i (decide (s_st σ i = t) && decide (s_sp σ i = a) && decide (s_sm σ i = b)) ∧ w1 = w) (fI Γ) (fA Γ)) 0 0 (fA Γ) := by
  refine fw_met (by decide) (Nat.le_of_ble_eq_true rfl) ?_
  intro p e s m below meth c ls C hP hS hr hlk hin hl
  have C : fC p s m [.ref (w.1 16 i), .ref (w.1 11 t), .int (nI a), .int (nI b)].toArray c cX2_isOf 4 RX2 Γ := C
  have hx := C.1.1
  have hb := C.1.2.1
  have hl : lv_has ls 4 [(0, .ref (w.1 16 i)), (1, .ref (w.1 11 t)), (2, .int (nI a)), (3, .int (nI b))] := hl
  refine lv_aload_n hx hb dX2_isOf_0 rfl (lv_at hl 0 rfl) ?_
  refine gf_X2_15 C hP h0 rfl rfl dX2_isOf_1 ?_
  refine lv_aload_n hx hb dX2_isOf_4 rfl (lv_at hl 1 rfl) ?_
  refine lv_acmp_ne (rx := some (w.1 11 (s_st σ i))) (ry := some (w.1 11 t)) (tgt := 28) hx hb dX2_isOf_5 (by decide) (fun c_5 => ?_) (fun c_5 => ?_)
  · refine lv_iconst (v := nI 0) hx hb dX2_isOf_28 (by decide) ?_
    exact fw_reti C hr hlk rfl hP hS (⟨b2i_f (by rw [decide_eq_false (fun q => c_5 (by rw [q]))]; rfl), rfl⟩) (Nat.le_of_ble_eq_true rfl) (Nat.le_of_ble_eq_true rfl) dX2_isOf_29
  · refine lv_aload_n hx hb dX2_isOf_8 rfl (lv_at hl 0 rfl) ?_
    refine gf_X2_19 C hP h0 rfl rfl dX2_isOf_9 ?_
    refine lv_iload_n hx hb dX2_isOf_12 rfl (lv_at hl 2 rfl) ?_
    refine fw_neN (tgt := 28) hx hb (by omega) (by omega) dX2_isOf_13 (by decide) (fun c_13 => ?_) (fun c_13 => ?_)
    · refine lv_iconst (v := nI 0) hx hb dX2_isOf_28 (by decide) ?_
      exact fw_reti C hr hlk rfl hP hS (⟨b2i_f (by rw [decide_eq_true (hinj (Option.some.inj c_5)), decide_eq_false c_13]; rfl), rfl⟩) (Nat.le_of_ble_eq_true rfl) (Nat.le_of_ble_eq_true rfl) dX2_isOf_29
    · refine lv_aload_n hx hb dX2_isOf_16 rfl (lv_at hl 0 rfl) ?_
      refine gf_X2_23 C hP h0 rfl rfl dX2_isOf_17 ?_
      refine lv_iload_n hx hb dX2_isOf_20 rfl (lv_at hl 3 rfl) ?_
      refine fw_neN (tgt := 28) hx hb (by omega) (by omega) dX2_isOf_21 (by decide) (fun c_21 => ?_) (fun c_21 => ?_)
      · refine lv_iconst (v := nI 0) hx hb dX2_isOf_28 (by decide) ?_
        exact fw_reti C hr hlk rfl hP hS (⟨b2i_f (by rw [decide_eq_true (hinj (Option.some.inj c_5)), decide_eq_true c_13, decide_eq_false c_21]; rfl), rfl⟩) (Nat.le_of_ble_eq_true rfl) (Nat.le_of_ble_eq_true rfl) dX2_isOf_29
      · refine lv_iconst (v := nI 1) hx hb dX2_isOf_24 (by decide) ?_
        refine lv_goto (tgt := 29) hx hb dX2_isOf_25 (by decide) ?_
        exact fw_reti C hr hlk rfl hP hS (⟨b2i_t (by rw [decide_eq_true (hinj (Option.some.inj c_5)), decide_eq_true c_13, decide_eq_true c_21]; rfl), rfl⟩) (Nat.le_of_ble_eq_true rfl) (Nat.le_of_ble_eq_true rfl) dX2_isOf_29
set_option maxHeartbeats 4000000 in
set_option maxRecDepth 100000 in
theorem k_X2_init (l : Launch) (Γ : FG) (w : FW) (i t a b : Nat) (h0 : w.2 16 i = some (oO 2 [.null, .int 0, .int 0, .null, .int (b2i false)])) (h1 : w.2 17 i = none) : Met l yX2_init (ws_ yX2_init cX2_init 4 none) (rmD 1 1 8) (va_Pc [.ref (w.1 16 i), .ref (w.1 11 t), .int (nI a), .int (nI b)] (fI Γ w)) (va_Qv (fun w1 => ∃ q, w1 = fset (fnew w 17 i (aI 1 8 (fun _ => 0)) q) 16 i (oO 2 [.ref (w.1 11 t), .int (nI a), .int (nI b), .ref q, .int (b2i false)])) (fI Γ) (fA Γ)) 1 8 (fA Γ) := by
  refine fw_met (by decide) (Nat.le_of_ble_eq_true rfl) ?_
  intro p e s m below meth c ls C hP hS hr hlk hin hl
  have C : fC p s m [.ref (w.1 16 i), .ref (w.1 11 t), .int (nI a), .int (nI b)].toArray c cX2_init 4 RX2 Γ := C
  have hx := C.1.1
  have hb := C.1.2.1
  have hl : lv_has ls 4 [(0, .ref (w.1 16 i)), (1, .ref (w.1 11 t)), (2, .int (nI a)), (3, .int (nI b))] := hl
  refine lv_aload_n hx hb dX2_init_0 rfl (lv_at hl 0 rfl) ?_
  refine fw_obj C qm_X2_3 hl.1 ⟨(Nat.le_of_ble_eq_true rfl), (Nat.le_of_ble_eq_true rfl)⟩ (Nat.le_of_ble_eq_true rfl) dX2_init_1 ?_
  refine lv_aload_n hx hb dX2_init_4 rfl (lv_at hl 0 rfl) ?_
  refine lv_bipush (v := nI 8) hx hb dX2_init_5 (by decide) ?_
  refine fw_newI (atype := .int) C hP hS 17 i (t := 1) (N := 8) (by decide) rfl rfl qa_int (by decide) (by decide) (Nat.le_of_ble_eq_true rfl) h1 (Nat.le_of_ble_eq_true rfl) (Nat.le_of_ble_eq_true rfl) dX2_init_7 (fun q7 H hP hS => ?_)
  have hP : fP Γ (fnew w 17 i (aI 1 8 (fun _ => 0)) q7) H := hP
  refine pf_X2_9 C hP hS hin rfl rfl ((fnew_ne (by decide)).trans h0) ((fnew_ane (by decide)).trans rfl) (Nat.le_of_ble_eq_true rfl) dX2_init_9 (fun H locs hP hS => ?_)
  have hP : fP Γ (fset (fnew w 17 i (aI 1 8 (fun _ => 0)) q7) 16 i (oO 2 [.null, .int 0, .int 0, .ref q7, .int (b2i false)])) H := hP
  refine lv_aload_n hx hb dX2_init_12 rfl (lv_at hl 0 rfl) ?_
  refine lv_aload_n hx hb dX2_init_13 rfl (lv_at hl 1 rfl) ?_
  refine pf_X2_15 C hP hS hin rfl rfl fset_at (fset_ad.trans ((fnew_ane (by decide)).trans rfl)) (Nat.le_of_ble_eq_true rfl) dX2_init_14 (fun H locs hP hS => ?_)
  have hP : fP Γ (fset (fset (fnew w 17 i (aI 1 8 (fun _ => 0)) q7) 16 i (oO 2 [.null, .int 0, .int 0, .ref q7, .int (b2i false)])) 16 i (oO 2 [.ref (w.1 11 t), .int 0, .int 0, .ref q7, .int (b2i false)])) H := hP
  rw [fset_s] at hP
  refine lv_aload_n hx hb dX2_init_17 rfl (lv_at hl 0 rfl) ?_
  refine lv_iload_n hx hb dX2_init_18 rfl (lv_at hl 2 rfl) ?_
  refine pf_X2_19 C hP hS hin rfl rfl fset_at (fset_ad.trans ((fnew_ane (by decide)).trans rfl)) (Nat.le_of_ble_eq_true rfl) dX2_init_19 (fun H locs hP hS => ?_)
  have hP : fP Γ (fset (fset (fnew w 17 i (aI 1 8 (fun _ => 0)) q7) 16 i (oO 2 [.ref (w.1 11 t), .int 0, .int 0, .ref q7, .int (b2i false)])) 16 i (oO 2 [.ref (w.1 11 t), .int (nI a), .int 0, .ref q7, .int (b2i false)])) H := hP
  rw [fset_s] at hP
  refine lv_aload_n hx hb dX2_init_22 rfl (lv_at hl 0 rfl) ?_
  refine lv_iload_n hx hb dX2_init_23 rfl (lv_at hl 3 rfl) ?_
  refine pf_X2_23 C hP hS hin rfl rfl fset_at (fset_ad.trans ((fnew_ane (by decide)).trans rfl)) (Nat.le_of_ble_eq_true rfl) dX2_init_24 (fun H locs hP hS => ?_)
  have hP : fP Γ (fset (fset (fnew w 17 i (aI 1 8 (fun _ => 0)) q7) 16 i (oO 2 [.ref (w.1 11 t), .int (nI a), .int 0, .ref q7, .int (b2i false)])) 16 i (oO 2 [.ref (w.1 11 t), .int (nI a), .int (nI b), .ref q7, .int (b2i false)])) H := hP
  rw [fset_s] at hP
  exact fw_retv C hr hlk hP hS (⟨_, rfl⟩) (Nat.le_of_ble_eq_true rfl) (Nat.le_of_ble_eq_true rfl) dX2_init_27
set_option maxHeartbeats 4000000 in
set_option maxRecDepth 100000 in
theorem k_X3_init (l : Launch) (Γ : FG) (w : FW) (t a : Nat) (h0 : w.2 11 t = some (oO 3 [.int 0, .null, .int 0, .null, .int (b2i false), .null, .int 0, .null, .int 0])) (h12 : w.2 12 t = none) (h13 : w.2 13 t = none) (h14 : w.2 14 t = none) (h15 : w.2 15 t = none) : Met l yX3_init (ws_ yX3_init cX3_init 2 none) (rmD 1 4 1218) (va_Pc [.ref (w.1 11 t), .int (nI a)] (fI Γ w)) (va_Qv (fun w1 => ∃ q1 q2 q3 q4, (∀ k i, ¬ (i = t ∧ 11 ≤ k ∧ k ≤ 15) → w1.2 k i = w.2 k i ∧ w1.1 k i = w.1 k i) ∧ w1.1 11 t = w.1 11 t ∧ w1.1 12 t = q1 ∧ w1.1 13 t = q2 ∧ w1.1 14 t = q3 ∧ w1.1 15 t = q4 ∧ w1.2 12 t = some (aI 0 1000 (fun _ => 0)) ∧ w1.2 13 t = some (aI 1 8 (fun _ => 0)) ∧ w1.2 14 t = some (aI 0 200 (fun _ => 0)) ∧ w1.2 15 t = some (aI 1 10 (fun _ => 0)) ∧ w1.2 11 t = some (oO 3 [.int (nI a), .ref q1, .int 0, .ref q2, .int (b2i true), .ref q3, .int 0, .ref q4, .int 0])) (fI Γ) (fA Γ)) 4 1218 (fA Γ) := by
  refine fw_met (by decide) (Nat.le_of_ble_eq_true rfl) ?_
  intro p e s m below meth c ls C hP hS hr hlk hin hl
  have C : fC p s m [.ref (w.1 11 t), .int (nI a)].toArray c cX3_init 2 RX3 Γ := C
  have hx := C.1.1
  have hb := C.1.2.1
  have hl : lv_has ls 2 [(0, .ref (w.1 11 t)), (1, .int (nI a))] := hl
  refine lv_aload_n hx hb dX3_init_0 rfl (lv_at hl 0 rfl) ?_
  refine fw_obj C qm_X3_3 hl.1 ⟨(Nat.le_of_ble_eq_true rfl), (Nat.le_of_ble_eq_true rfl)⟩ (Nat.le_of_ble_eq_true rfl) dX3_init_1 ?_
  refine lv_aload_n hx hb dX3_init_4 rfl (lv_at hl 0 rfl) ?_
  refine lv_sipush (v := nI 1000) hx hb dX3_init_5 (by decide) ?_
  refine fw_newI (atype := .byte) C hP hS 12 t (t := 0) (N := 1000) (by decide) rfl rfl qa_byte (by decide) (by decide) (Nat.le_of_ble_eq_true rfl) h12 (Nat.le_of_ble_eq_true rfl) (Nat.le_of_ble_eq_true rfl) dX3_init_8 (fun q8 H hP hS => ?_)
  have hP : fP Γ (fnew w 12 t (aI 0 1000 (fun _ => 0)) q8) H := hP
  refine pf_X3_9 C hP hS hin rfl rfl ((fnew_ne (by decide)).trans h0) ((fnew_ane (by decide)).trans rfl) (Nat.le_of_ble_eq_true rfl) dX3_init_10 (fun H locs hP hS => ?_)
  have hP : fP Γ (fset (fnew w 12 t (aI 0 1000 (fun _ => 0)) q8) 11 t (oO 3 [.int 0, .ref q8, .int 0, .null, .int (b2i false), .null, .int 0, .null, .int 0])) H := hP
  refine lv_aload_n hx hb dX3_init_13 rfl (lv_at hl 0 rfl) ?_
  refine lv_bipush (v := nI 8) hx hb dX3_init_14 (by decide) ?_
  refine fw_newI (atype := .int) C hP hS 13 t (t := 1) (N := 8) (by decide) rfl rfl qa_int (by decide) (by decide) (Nat.le_of_ble_eq_true rfl) ((fset_ne (by decide)).trans ((fnew_ne (by decide)).trans h13)) (Nat.le_of_ble_eq_true rfl) (Nat.le_of_ble_eq_true rfl) dX3_init_16 (fun q16 H hP hS => ?_)
  have hP : fP Γ (fnew (fset (fnew w 12 t (aI 0 1000 (fun _ => 0)) q8) 11 t (oO 3 [.int 0, .ref q8, .int 0, .null, .int (b2i false), .null, .int 0, .null, .int 0])) 13 t (aI 1 8 (fun _ => 0)) q16) H := hP
  refine pf_X3_15 C hP hS hin rfl rfl ((fnew_ne (by decide)).trans fset_at) ((fnew_ane (by decide)).trans (fset_ad.trans ((fnew_ane (by decide)).trans rfl))) (Nat.le_of_ble_eq_true rfl) dX3_init_18 (fun H locs hP hS => ?_)
  have hP : fP Γ (fset (fnew (fset (fnew w 12 t (aI 0 1000 (fun _ => 0)) q8) 11 t (oO 3 [.int 0, .ref q8, .int 0, .null, .int (b2i false), .null, .int 0, .null, .int 0])) 13 t (aI 1 8 (fun _ => 0)) q16) 11 t (oO 3 [.int 0, .ref q8, .int 0, .ref q16, .int (b2i false), .null, .int 0, .null, .int 0])) H := hP
  refine lv_aload_n hx hb dX3_init_21 rfl (lv_at hl 0 rfl) ?_
  refine lv_iconst (v := nI 1) hx hb dX3_init_22 (by decide) ?_
  refine pf_X3_19 C hP hS rfl rfl fset_at (fset_ad.trans ((fnew_ane (by decide)).trans (fset_ad.trans ((fnew_ane (by decide)).trans rfl)))) (Nat.le_of_ble_eq_true rfl) dX3_init_23 (fun H locs hP hS => ?_)
  have hP : fP Γ (fset (fset (fnew (fset (fnew w 12 t (aI 0 1000 (fun _ => 0)) q8) 11 t (oO 3 [.int 0, .ref q8, .int 0, .null, .int (b2i false), .null, .int 0, .null, .int 0])) 13 t (aI 1 8 (fun _ => 0)) q16) 11 t (oO 3 [.int 0, .ref q8, .int 0, .ref q16, .int (b2i false), .null, .int 0, .null, .int 0])) 11 t (oO 3 [.int 0, .ref q8, .int 0, .ref q16, .int (b2i true), .null, .int 0, .null, .int 0])) H := hP
  rw [fset_s] at hP
  refine lv_aload_n hx hb dX3_init_26 rfl (lv_at hl 0 rfl) ?_
  refine lv_sipush (v := nI 200) hx hb dX3_init_27 (by decide) ?_
  refine fw_newI (atype := .byte) C hP hS 14 t (t := 0) (N := 200) (by decide) rfl rfl qa_byte (by decide) (by decide) (Nat.le_of_ble_eq_true rfl) ((fset_ne (by decide)).trans ((fnew_ne (by decide)).trans ((fset_ne (by decide)).trans ((fnew_ne (by decide)).trans h14)))) (Nat.le_of_ble_eq_true rfl) (Nat.le_of_ble_eq_true rfl) dX3_init_30 (fun q30 H hP hS => ?_)
  have hP : fP Γ (fnew (fset (fnew (fset (fnew w 12 t (aI 0 1000 (fun _ => 0)) q8) 11 t (oO 3 [.int 0, .ref q8, .int 0, .null, .int (b2i false), .null, .int 0, .null, .int 0])) 13 t (aI 1 8 (fun _ => 0)) q16) 11 t (oO 3 [.int 0, .ref q8, .int 0, .ref q16, .int (b2i true), .null, .int 0, .null, .int 0])) 14 t (aI 0 200 (fun _ => 0)) q30) H := hP
  refine pf_X3_23 C hP hS hin rfl rfl ((fnew_ne (by decide)).trans fset_at) ((fnew_ane (by decide)).trans (fset_ad.trans ((fnew_ane (by decide)).trans (fset_ad.trans ((fnew_ane (by decide)).trans rfl))))) (Nat.le_of_ble_eq_true rfl) dX3_init_32 (fun H locs hP hS => ?_)
  have hP : fP Γ (fset (fnew (fset (fnew (fset (fnew w 12 t (aI 0 1000 (fun _ => 0)) q8) 11 t (oO 3 [.int 0, .ref q8, .int 0, .null, .int (b2i false), .null, .int 0, .null, .int 0])) 13 t (aI 1 8 (fun _ => 0)) q16) 11 t (oO 3 [.int 0, .ref q8, .int 0, .ref q16, .int (b2i true), .null, .int 0, .null, .int 0])) 14 t (aI 0 200 (fun _ => 0)) q30) 11 t (oO 3 [.int 0, .ref q8, .int 0, .ref q16, .int (b2i true), .ref q30, .int 0, .null, .int 0])) H := hP
  refine lv_aload_n hx hb dX3_init_35 rfl (lv_at hl 0 rfl) ?_
  refine lv_bipush (v := nI 10) hx hb dX3_init_36 (by decide) ?_
  refine fw_newI (atype := .int) C hP hS 15 t (t := 1) (N := 10) (by decide) rfl rfl qa_int (by decide) (by decide) (Nat.le_of_ble_eq_true rfl) ((fset_ne (by decide)).trans ((fnew_ne (by decide)).trans ((fset_ne (by decide)).trans ((fnew_ne (by decide)).trans ((fset_ne (by decide)).trans ((fnew_ne (by decide)).trans h15)))))) (Nat.le_of_ble_eq_true rfl) (Nat.le_of_ble_eq_true rfl) dX3_init_38 (fun q38 H hP hS => ?_)
  have hP : fP Γ (fnew (fset (fnew (fset (fnew (fset (fnew w 12 t (aI 0 1000 (fun _ => 0)) q8) 11 t (oO 3 [.int 0, .ref q8, .int 0, .null, .int (b2i false), .null, .int 0, .null, .int 0])) 13 t (aI 1 8 (fun _ => 0)) q16) 11 t (oO 3 [.int 0, .ref q8, .int 0, .ref q16, .int (b2i true), .null, .int 0, .null, .int 0])) 14 t (aI 0 200 (fun _ => 0)) q30) 11 t (oO 3 [.int 0, .ref q8, .int 0, .ref q16, .int (b2i true), .ref q30, .int 0, .null, .int 0])) 15 t (aI 1 10 (fun _ => 0)) q38) H := hP
  refine pf_X3_26 C hP hS hin rfl rfl ((fnew_ne (by decide)).trans fset_at) ((fnew_ane (by decide)).trans (fset_ad.trans ((fnew_ane (by decide)).trans (fset_ad.trans ((fnew_ane (by decide)).trans (fset_ad.trans ((fnew_ane (by decide)).trans rfl))))))) (Nat.le_of_ble_eq_true rfl) dX3_init_40 (fun H locs hP hS => ?_)
  have hP : fP Γ (fset (fnew (fset (fnew (fset (fnew (fset (fnew w 12 t (aI 0 1000 (fun _ => 0)) q8) 11 t (oO 3 [.int 0, .ref q8, .int 0, .null, .int (b2i false), .null, .int 0, .null, .int 0])) 13 t (aI 1 8 (fun _ => 0)) q16) 11 t (oO 3 [.int 0, .ref q8, .int 0, .ref q16, .int (b2i true), .null, .int 0, .null, .int 0])) 14 t (aI 0 200 (fun _ => 0)) q30) 11 t (oO 3 [.int 0, .ref q8, .int 0, .ref q16, .int (b2i true), .ref q30, .int 0, .null, .int 0])) 15 t (aI 1 10 (fun _ => 0)) q38) 11 t (oO 3 [.int 0, .ref q8, .int 0, .ref q16, .int (b2i true), .ref q30, .int 0, .ref q38, .int 0])) H := hP
  refine lv_aload_n hx hb dX3_init_43 rfl (lv_at hl 0 rfl) ?_
  refine lv_iload_n hx hb dX3_init_44 rfl (lv_at hl 1 rfl) ?_
  refine pf_X3_29 C hP hS hin rfl rfl fset_at (fset_ad.trans ((fnew_ane (by decide)).trans (fset_ad.trans ((fnew_ane (by decide)).trans (fset_ad.trans ((fnew_ane (by decide)).trans (fset_ad.trans ((fnew_ane (by decide)).trans rfl)))))))) (Nat.le_of_ble_eq_true rfl) dX3_init_45 (fun H locs hP hS => ?_)
  have hP : fP Γ (fset (fset (fnew (fset (fnew (fset (fnew (fset (fnew w 12 t (aI 0 1000 (fun _ => 0)) q8) 11 t (oO 3 [.int 0, .ref q8, .int 0, .null, .int (b2i false), .null, .int 0, .null, .int 0])) 13 t (aI 1 8 (fun _ => 0)) q16) 11 t (oO 3 [.int 0, .ref q8, .int 0, .ref q16, .int (b2i true), .null, .int 0, .null, .int 0])) 14 t (aI 0 200 (fun _ => 0)) q30) 11 t (oO 3 [.int 0, .ref q8, .int 0, .ref q16, .int (b2i true), .ref q30, .int 0, .null, .int 0])) 15 t (aI 1 10 (fun _ => 0)) q38) 11 t (oO 3 [.int 0, .ref q8, .int 0, .ref q16, .int (b2i true), .ref q30, .int 0, .ref q38, .int 0])) 11 t (oO 3 [.int (nI a), .ref q8, .int 0, .ref q16, .int (b2i true), .ref q30, .int 0, .ref q38, .int 0])) H := hP
  rw [fset_s] at hP
  refine fw_retv C hr hlk hP hS ⟨q8, q16, q30, q38, fun k i h => ?_, (fset_ad.trans ((fnew_ane (by decide)).trans (fset_ad.trans ((fnew_ane (by decide)).trans (fset_ad.trans ((fnew_ane (by decide)).trans (fset_ad.trans ((fnew_ane (by decide)).trans rfl)))))))), (fset_ad.trans ((fnew_ane (by decide)).trans (fset_ad.trans ((fnew_ane (by decide)).trans (fset_ad.trans ((fnew_ane (by decide)).trans (fset_ad.trans fnew_aat))))))), (fset_ad.trans ((fnew_ane (by decide)).trans (fset_ad.trans ((fnew_ane (by decide)).trans (fset_ad.trans fnew_aat))))), (fset_ad.trans ((fnew_ane (by decide)).trans (fset_ad.trans fnew_aat))), (fset_ad.trans fnew_aat), ((fset_ne (by decide)).trans ((fnew_ne (by decide)).trans ((fset_ne (by decide)).trans ((fnew_ne (by decide)).trans ((fset_ne (by decide)).trans ((fnew_ne (by decide)).trans ((fset_ne (by decide)).trans fnew_at))))))), ((fset_ne (by decide)).trans ((fnew_ne (by decide)).trans ((fset_ne (by decide)).trans ((fnew_ne (by decide)).trans ((fset_ne (by decide)).trans fnew_at))))), ((fset_ne (by decide)).trans ((fnew_ne (by decide)).trans ((fset_ne (by decide)).trans fnew_at))), ((fset_ne (by decide)).trans fnew_at), fset_at⟩ (Nat.le_of_ble_eq_true rfl) (Nat.le_of_ble_eq_true rfl) dX3_init_48
  have hk : ∀ z, 11 ≤ z → z ≤ 15 → ¬ (k = z ∧ i = t) := fun z z1 z2 q => h ⟨q.2, by omega, by omega⟩
  have key : ∀ {α : Type} (g : Nat → Nat → α) (z : Nat) (x : α), 11 ≤ z → z ≤ 15 → f2 g z t x k i = g k i := by
    intro α g z x z1 z2
    unfold f2
    by_cases e1 : k = z
    · rw [if_pos e1, if_neg (fun e2 => hk z z1 z2 ⟨e1, e2⟩)]
    · rw [if_neg e1]
  simp only [fset, fnew]
  constructor
  · repeat rw [key _ _ _ (by decide) (by decide)]
  · repeat rw [key _ _ _ (by decide) (by decide)]
theorem cw_step {f g : Nat → Int32} {i : Nat} (h : ∀ j, j < i → g j = f j) : ∀ j, j < i + 1 → upd g i (f i) j = f j := by
  intro j hj
  unfold upd
  by_cases e : j = i
  · rw [if_pos e, e]
  · rw [if_neg e]; exact h j (by omega)
set_option maxHeartbeats 4000000 in
set_option maxRecDepth 100000 in
theorem k_X4_copyWords (l : Launch) (Γ : FG) (w : FW) (k0 i0 k1 i1 : Nat) (f g : Nat → Int32) (hk : k0 ≠ k1) (h0 : w.2 k0 i0 = some (aI 1 8 f)) (h1 : w.2 k1 i1 = some (aI 1 8 g)) : Met l yX4_copyWords (ws_ yX4_copyWords cX4_copyWords 3 none) (rmD 0 0 0) (va_Pc [.ref (w.1 k0 i0), .ref (w.1 k1 i1)] (fI Γ w)) (va_Qv (fun w1 => ∃ z, w1 = fset w k1 i1 (aI 1 8 z) ∧ ∀ j, j < 8 → z j = f j) (fI Γ) (fA Γ)) 0 0 (fA Γ) := by
  refine fw_met (by decide) (Nat.le_of_ble_eq_true rfl) ?_
  intro p e s m below meth c ls C hP hS hr hlk hin hl
  have C : fC p s m [.ref (w.1 k0 i0), .ref (w.1 k1 i1)].toArray c cX4_copyWords 3 RX4 Γ := C
  have hx := C.1.1
  have hb := C.1.2.1
  have hl : lv_has ls 3 [(0, .ref (w.1 k0 i0)), (1, .ref (w.1 k1 i1))] := hl
  refine lv_iconst (v := nI 0) hx hb dX4_copyWords_0 (by decide) ?_
  refine lv_istore_n (lv' := [(2, .int (nI 0)), (0, .ref (w.1 k0 i0)), (1, .ref (w.1 k1 i1))]) hx hb dX4_copyWords_1 rfl hl (by decide) rfl (fun ls hl => ?_)
  have hP : fP Γ (fset w k1 i1 (aI 1 8 g)) s.heap := by rw [fset_id h1]; exact hP
  refine W.widen (k := 0) (n := 0) (Nat.le_of_ble_eq_true rfl) (Nat.le_of_ble_eq_true rfl) ?_
  have loop : ∀ (fu : Nat) (i : Nat) (z : Nat → Int32) (H : Heap) (locs : List Loc) (ls : Array Slot), 8 - i < fu → (i ≤ 8) → (∀ j, j < i → z j = f j) → fP Γ (fset w k1 i1 (aI 1 8 z)) H → va_S (fA Γ) s.heap H locs → lv_has ls 3 [(2, .int (nI i)), (0, .ref (w.1 k0 i0)), (1, .ref (w.1 k1 i1))] → W p l e (rmD 0 0 0) s m [.ref (w.1 k0 i0), .ref (w.1 k1 i1)].toArray below meth c H locs 0 0 (MQ below (va_Qv (fun w1 => ∃ z, w1 = fset w k1 i1 (aI 1 8 z) ∧ ∀ j, j < 8 → z j = f j) (fI Γ) (fA Γ)) [.ref (w.1 k0 i0), .ref (w.1 k1 i1)].toArray s 0 0 (fA Γ)) (F0 m 2 ls []) := by
    intro fu
    induction fu with
    | zero =>
      intro i z H locs ls hf
      exact absurd hf (Nat.not_lt_zero _)
    | succ fu ih =>
      intro i z H locs ls hf hi hz hP hS hl
      refine lv_iload_n hx hb dX4_copyWords_2 rfl (lv_at hl 0 rfl) ?_
      refine lv_bipush (v := nI 8) hx hb dX4_copyWords_3 (by decide) ?_
      refine fw_geN (tgt := 20) hx hb (by omega) (by omega) dX4_copyWords_5 (by decide) (fun c_5 => ?_) (fun c_5 => ?_)
      · exact fw_retv C hr hlk hP hS (⟨z, rfl, fun j hj => hz j (by omega)⟩) (Nat.le_of_ble_eq_true rfl) (Nat.le_of_ble_eq_true rfl) dX4_copyWords_20
      · refine lv_aload_n hx hb dX4_copyWords_8 rfl (lv_at hl 2 rfl) ?_
        refine lv_iload_n hx hb dX4_copyWords_9 rfl (lv_at hl 0 rfl) ?_
        refine lv_aload_n hx hb dX4_copyWords_10 rfl (lv_at hl 1 rfl) ?_
        refine lv_iload_n hx hb dX4_copyWords_11 rfl (lv_at hl 0 rfl) ?_
        refine fw_iald C hP ((fset_ne hk).trans h0) rfl i rfl (by omega) (by decide) dX4_copyWords_12 ?_
        refine fw_iast C hP hS fset_at rfl i rfl (by omega) (by decide) dX4_copyWords_13 (fun H locs hP hS => ?_)
        have hP : fP Γ (fset (fset w k1 i1 (aI 1 8 z)) k1 i1 (aI 1 8 (upd z i (f i)))) H := hP
        rw [fset_s] at hP
        refine lv_iinc (v := nI (i + 1)) (lv' := [(2, .int (nI (i + 1))), (0, .ref (w.1 k0 i0)), (1, .ref (w.1 k1 i1))]) hx hb dX4_copyWords_14 hl (k := 0) rfl (by rw [show Int32.ofInt 1 = nI 1 from rfl, nI_add]) (by decide) rfl (fun ls hl => ?_)
        refine lv_goto (tgt := 2) hx hb dX4_copyWords_17 (by decide) ?_
        refine W.widen (k := 0) (n := 0) (Nat.le_of_ble_eq_true rfl) (Nat.le_of_ble_eq_true rfl) ?_
        exact ih (i + 1) (upd z i (f i)) H locs ls (by omega) (by omega) (cw_step hz) hP hS (lv_sub hl [0, 1, 2] rfl)
  exact loop 9 0 g _ _ _ (by omega) (by omega) (fun j hj => absurd hj (Nat.not_lt_zero j)) hP hS (lv_sub hl [0, 1, 2] rfl)
set_option maxHeartbeats 4000000 in
set_option maxRecDepth 100000 in
theorem k_X4_copyWordsT (l : Launch) (Γ : FG) (w : FW) (k1 i1 : Nat) (g : Nat → Int32) (h1 : w.2 k1 i1 = some (aI 1 8 g)) : Met l yX4_copyWords (ws_ yX4_copyWords cX4_copyWords 3 none) (rmD 0 0 0) (va_Pc [.ref Γ.2.2.2.1, .ref (w.1 k1 i1)] (fI Γ w)) (va_Qv (fun w1 => ∃ z, w1 = fset w k1 i1 (aI 1 8 z) ∧ ∀ j, j < 8 → z j = shH j) (fI Γ) (fA Γ)) 0 0 (fA Γ) := by
  refine fw_met (by decide) (Nat.le_of_ble_eq_true rfl) ?_
  intro p e s m below meth c ls C hP hS hr hlk hin hl
  have C : fC p s m [.ref Γ.2.2.2.1, .ref (w.1 k1 i1)].toArray c cX4_copyWords 3 RX4 Γ := C
  have hx := C.1.1
  have hb := C.1.2.1
  have hl : lv_has ls 3 [(0, .ref Γ.2.2.2.1), (1, .ref (w.1 k1 i1))] := hl
  refine lv_iconst (v := nI 0) hx hb dX4_copyWords_0 (by decide) ?_
  refine lv_istore_n (lv' := [(2, .int (nI 0)), (0, .ref Γ.2.2.2.1), (1, .ref (w.1 k1 i1))]) hx hb dX4_copyWords_1 rfl hl (by decide) rfl (fun ls hl => ?_)
  obtain ⟨f, hfe⟩ : ∃ f, f = shH := ⟨_, rfl⟩
  have hP : fP Γ (fset w k1 i1 (aI 1 8 g)) s.heap := by rw [fset_id h1]; exact hP
  refine W.widen (k := 0) (n := 0) (Nat.le_of_ble_eq_true rfl) (Nat.le_of_ble_eq_true rfl) ?_
  have loop : ∀ (fu : Nat) (i : Nat) (z : Nat → Int32) (H : Heap) (locs : List Loc) (ls : Array Slot), 8 - i < fu → (i ≤ 8) → (∀ j, j < i → z j = f j) → fP Γ (fset w k1 i1 (aI 1 8 z)) H → va_S (fA Γ) s.heap H locs → lv_has ls 3 [(2, .int (nI i)), (0, .ref Γ.2.2.2.1), (1, .ref (w.1 k1 i1))] → W p l e (rmD 0 0 0) s m [.ref Γ.2.2.2.1, .ref (w.1 k1 i1)].toArray below meth c H locs 0 0 (MQ below (va_Qv (fun w1 => ∃ z, w1 = fset w k1 i1 (aI 1 8 z) ∧ ∀ j, j < 8 → z j = shH j) (fI Γ) (fA Γ)) [.ref Γ.2.2.2.1, .ref (w.1 k1 i1)].toArray s 0 0 (fA Γ)) (F0 m 2 ls []) := by
    intro fu
    induction fu with
    | zero =>
      intro i z H locs ls hf
      exact absurd hf (Nat.not_lt_zero _)
    | succ fu ih =>
      intro i z H locs ls hf hi hz hP hS hl
      refine lv_iload_n hx hb dX4_copyWords_2 rfl (lv_at hl 0 rfl) ?_
      refine lv_bipush (v := nI 8) hx hb dX4_copyWords_3 (by decide) ?_
      refine fw_geN (tgt := 20) hx hb (by omega) (by omega) dX4_copyWords_5 (by decide) (fun c_5 => ?_) (fun c_5 => ?_)
      · exact fw_retv C hr hlk hP hS (⟨z, rfl, fun j hj => by rw [hz j (by omega), hfe]⟩) (Nat.le_of_ble_eq_true rfl) (Nat.le_of_ble_eq_true rfl) dX4_copyWords_20
      · refine lv_aload_n hx hb dX4_copyWords_8 rfl (lv_at hl 2 rfl) ?_
        refine lv_iload_n hx hb dX4_copyWords_9 rfl (lv_at hl 0 rfl) ?_
        refine lv_aload_n hx hb dX4_copyWords_10 rfl (lv_at hl 1 rfl) ?_
        refine lv_iload_n hx hb dX4_copyWords_11 rfl (lv_at hl 0 rfl) ?_
        refine fw_tald C hS C.2.2.1.1.2 i rfl (by omega) (by decide) dX4_copyWords_12 ?_
        refine fw_E (show shH i = f i from by rw [hfe]) ?_
        refine fw_iast C hP hS fset_at rfl i rfl (by omega) (by decide) dX4_copyWords_13 (fun H locs hP hS => ?_)
        have hP : fP Γ (fset (fset w k1 i1 (aI 1 8 z)) k1 i1 (aI 1 8 (upd z i (f i)))) H := hP
        rw [fset_s] at hP
        refine lv_iinc (v := nI (i + 1)) (lv' := [(2, .int (nI (i + 1))), (0, .ref Γ.2.2.2.1), (1, .ref (w.1 k1 i1))]) hx hb dX4_copyWords_14 hl (k := 0) rfl (by rw [show Int32.ofInt 1 = nI 1 from rfl, nI_add]) (by decide) rfl (fun ls hl => ?_)
        refine lv_goto (tgt := 2) hx hb dX4_copyWords_17 (by decide) ?_
        refine W.widen (k := 0) (n := 0) (Nat.le_of_ble_eq_true rfl) (Nat.le_of_ble_eq_true rfl) ?_
        exact ih (i + 1) (upd z i (f i)) H locs ls (by omega) (by omega) (cw_step hz) hP hS (lv_sub hl [0, 1, 2] rfl)
  exact loop 9 0 g _ _ _ (by omega) (by omega) (fun j hj => absurd hj (Nat.not_lt_zero j)) hP hS (lv_sub hl [0, 1, 2] rfl)
theorem eqw_8 {f g : Nat → Int32} {i : Nat} (h : eqw f g i = true) (hi : i = 8) : eqw f g 8 = true := by rw [← hi]; exact h
theorem eqw_no {f g : Nat → Int32} {i : Nat} : ∀ {n : Nat}, i < n → ¬ f i = g i → eqw f g n = false
  | 0, h, _ => absurd h (Nat.not_lt_zero _)
  | n + 1, h, hne => by
    unfold eqw
    rcases Nat.lt_or_ge i n with q | q
    · rw [eqw_no q hne]; rfl
    · have e : i = n := by omega
      subst e
      rw [decide_eq_false hne, Bool.and_false]
theorem eqw_congr {f g f1 g1 : Nat → Int32} : ∀ {n : Nat}, (∀ j, j < n → f j = f1 j) → (∀ j, j < n → g j = g1 j) → eqw f g n = eqw f1 g1 n
  | 0, _, _ => rfl
  | n + 1, h1, h2 => by
    unfold eqw
    rw [eqw_congr (fun j hj => h1 j (by omega)) (fun j hj => h2 j (by omega)), h1 n (by omega), h2 n (by omega)]
set_option maxHeartbeats 4000000 in
set_option maxRecDepth 100000 in
theorem k_X4_areSameWords (l : Launch) (Γ : FG) (w : FW) (k0 i0 k1 i1 : Nat) (f g : Nat → Int32) (h0 : w.2 k0 i0 = some (aI 1 8 f)) (h1 : w.2 k1 i1 = some (aI 1 8 g)) : Met l yX4_areSameWords (ws_ yX4_areSameWords cX4_areSameWords 3 (some .boolean)) (rmD 0 0 0) (va_Pc [.ref (w.1 k0 i0), .ref (w.1 k1 i1)] (fI Γ w)) (va_Qi (fun r w1 => r = b2i (eqw f g 8) ∧ w1 = w) (fI Γ) (fA Γ)) 0 0 (fA Γ) := by
  refine fw_met (by decide) (Nat.le_of_ble_eq_true rfl) ?_
  intro p e s m below meth c ls C hP hS hr hlk hin hl
  have C : fC p s m [.ref (w.1 k0 i0), .ref (w.1 k1 i1)].toArray c cX4_areSameWords 3 RX4 Γ := C
  have hx := C.1.1
  have hb := C.1.2.1
  have hl : lv_has ls 3 [(0, .ref (w.1 k0 i0)), (1, .ref (w.1 k1 i1))] := hl
  refine lv_iconst (v := nI 0) hx hb dX4_areSameWords_0 (by decide) ?_
  refine lv_istore_n (lv' := [(2, .int (nI 0)), (0, .ref (w.1 k0 i0)), (1, .ref (w.1 k1 i1))]) hx hb dX4_areSameWords_1 rfl hl (by decide) rfl (fun ls hl => ?_)
  refine W.widen (k := 0) (n := 0) (Nat.le_of_ble_eq_true rfl) (Nat.le_of_ble_eq_true rfl) ?_
  have loop : ∀ (fu : Nat) (i : Nat) (H : Heap) (locs : List Loc) (ls : Array Slot), 8 - i < fu → (i ≤ 8) → (eqw f g i = true) → fP Γ w H → va_S (fA Γ) s.heap H locs → lv_has ls 3 [(2, .int (nI i)), (0, .ref (w.1 k0 i0)), (1, .ref (w.1 k1 i1))] → W p l e (rmD 0 0 0) s m [.ref (w.1 k0 i0), .ref (w.1 k1 i1)].toArray below meth c H locs 0 0 (MQ below (va_Qi (fun r w1 => r = b2i (eqw f g 8) ∧ w1 = w) (fI Γ) (fA Γ)) [.ref (w.1 k0 i0), .ref (w.1 k1 i1)].toArray s 0 0 (fA Γ)) (F0 m 2 ls []) := by
    intro fu
    induction fu with
    | zero =>
      intro i H locs ls hf
      exact absurd hf (Nat.not_lt_zero _)
    | succ fu ih =>
      intro i H locs ls hf hi hz hP hS hl
      refine lv_iload_n hx hb dX4_areSameWords_2 rfl (lv_at hl 0 rfl) ?_
      refine lv_bipush (v := nI 8) hx hb dX4_areSameWords_3 (by decide) ?_
      refine fw_geN (tgt := 25) hx hb (by omega) (by omega) dX4_areSameWords_5 (by decide) (fun c_5 => ?_) (fun c_5 => ?_)
      · refine lv_iconst (v := nI 1) hx hb dX4_areSameWords_25 (by decide) ?_
        exact fw_reti C hr hlk rfl hP hS (⟨b2i_t (eqw_8 hz (by omega)), rfl⟩) (Nat.le_of_ble_eq_true rfl) (Nat.le_of_ble_eq_true rfl) dX4_areSameWords_26
      · refine lv_aload_n hx hb dX4_areSameWords_8 rfl (lv_at hl 1 rfl) ?_
        refine lv_iload_n hx hb dX4_areSameWords_9 rfl (lv_at hl 0 rfl) ?_
        refine fw_iald C hP h0 rfl i rfl (by omega) (by decide) dX4_areSameWords_10 ?_
        refine lv_aload_n hx hb dX4_areSameWords_11 rfl (lv_at hl 2 rfl) ?_
        refine lv_iload_n hx hb dX4_areSameWords_12 rfl (lv_at hl 0 rfl) ?_
        refine fw_iald C hP h1 rfl i rfl (by omega) (by decide) dX4_areSameWords_13 ?_
        refine lv_icmp_eq (tgt := 19) hx hb dX4_areSameWords_14 (by decide) (fun c_14 => ?_) (fun c_14 => ?_)
        · refine lv_iinc (v := nI (i + 1)) (lv' := [(2, .int (nI (i + 1))), (0, .ref (w.1 k0 i0)), (1, .ref (w.1 k1 i1))]) hx hb dX4_areSameWords_19 hl (k := 0) rfl (by rw [show Int32.ofInt 1 = nI 1 from rfl, nI_add]) (by decide) rfl (fun ls hl => ?_)
          refine lv_goto (tgt := 2) hx hb dX4_areSameWords_22 (by decide) ?_
          refine W.widen (k := 0) (n := 0) (Nat.le_of_ble_eq_true rfl) (Nat.le_of_ble_eq_true rfl) ?_
          exact ih (i + 1) H locs ls (by omega) (by omega) (by rw [eqw, hz, decide_eq_true c_14]; rfl) hP hS (lv_sub hl [0, 1, 2] rfl)
        · refine lv_iconst (v := nI 0) hx hb dX4_areSameWords_17 (by decide) ?_
          exact fw_reti C hr hlk rfl hP hS (⟨b2i_f (eqw_no (i := i) (by omega) c_14), rfl⟩) (Nat.le_of_ble_eq_true rfl) (Nat.le_of_ble_eq_true rfl) dX4_areSameWords_18
  exact loop 9 0 _ _ _ (by omega) (by omega) rfl hP hS (lv_sub hl [0, 1, 2] rfl)
