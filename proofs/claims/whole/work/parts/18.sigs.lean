theorem h1_and (σ : St) (t a b i : Nat) : s_h1 σ t b (some a) i = ((decide (s_st σ i = t) && decide (s_sp σ i = a) && decide (s_sm σ i = b)) && s_sd σ i) := by
  show (decide (s_st σ i = t) && decide (s_sm σ i = b) && decide (s_sp σ i = a) && s_sd σ i) = _
  cases decide (s_st σ i = t) <;> cases decide (s_sp σ i = a) <;> cases decide (s_sm σ i = b) <;> cases s_sd σ i <;> rfl
theorem mh_no {σ : St} {t i : Nat} {v : Int32} (hv : v = msk (fun m => s_hs σ t m none i) 10) (h : s_st σ i ≠ t ∨ s_sd σ i = false) : v = msk (fun m => s_hs σ t m none (i + 1)) 10 := by
  rw [hv]
  refine msk_congr fun m _ => ?_
  rw [s_hs_s, s_h1]
  rcases h with h | h
  · rw [decide_eq_false h]; simp
  · rw [h]; simp
theorem mh_yes {σ : St} {t i : Nat} {v v1 : Int32} (hv : v = msk (fun m => s_hs σ t m none i) 10) (h1 : s_st σ i = t) (h2 : s_sd σ i = true) (hm : s_sm σ i < 10) (hv1 : v1 = v ||| ((1 : Int32) <<< (nI (s_sm σ i) &&& 31))) : v1 = msk (fun m => s_hs σ t m none (i + 1)) 10 := by
  rw [hv1, hv, msk_or hm]
  refine msk_congr fun m _ => ?_
  rw [s_hs_s, s_h1, decide_eq_true h1, h2]
  unfold va_up
  by_cases e : m = s_sm σ i
  · rw [if_pos e, decide_eq_true e.symm]; simp
  · rw [if_neg e, decide_eq_false (fun q => e q.symm)]; simp
theorem Th_live {σ : St} {w : FW} {t : Nat} (h : Th σ w t) : w.2 11 t ≠ none := by
  obtain ⟨_, _, _, _, _, e, -⟩ := h
  rw [e]
  exact fun q => by cases q
theorem inj11 {Γ : FG} {σ : St} {w : FW} {H : Heap} (hP : fP Γ w H) (hR : Rc σ w) {a b : Nat} (ha : a < s_nt σ) (hb : b < s_nt σ) (h : w.1 11 a = w.1 11 b) : a = b :=
  (fP_inj hP (Th_live (hR.2.2.1.2.1 a ha)) (Th_live (hR.2.2.1.2.1 b hb)) h).2
set_option maxHeartbeats 4000000 in
set_option maxRecDepth 100000 in
theorem k_X4_isSignedBy (l : Launch) (Γ : FG) (w : FW) (σ : St) (t a b : Nat) (ha : a < 2 ^ 31) (hb0 : b < 2 ^ 31) (hI : Inv σ) (hR : Rc σ w) (ht : t < s_nt σ) : Met l yX4_isSignedBy (ws_ yX4_isSignedBy cX4_isSignedBy 6 (some .boolean)) (rmD 5 0 0) (va_Pc [.ref (w.1 0 0), .ref (w.1 11 t), .int (nI a), .int (nI b)] (fI Γ w)) (va_Qi (fun r w1 => r = b2i (s_hs σ t b (some a) (s_ns σ)) ∧ Rc σ w1 ∧ frd w w1) (fI Γ) (fA Γ)) 0 0 (fA Γ) := by
  refine fw_met (by decide) (Nat.le_of_ble_eq_true rfl) ?_
  intro p e s m below meth c ls C hP hS hr hlk hin hl
  have C : fC p s m [.ref (w.1 0 0), .ref (w.1 11 t), .int (nI a), .int (nI b)].toArray c cX4_isSignedBy 6 RX4 Γ := C
  have hx := C.1.1
  have hb := C.1.2.1
  have hl : lv_has ls 6 [(0, .ref (w.1 0 0)), (1, .ref (w.1 11 t)), (2, .int (nI a)), (3, .int (nI b))] := hl
  have hns := hI.1.2.2.2.1
  refine lv_iconst (v := nI 0) hx hb dX4_isSignedBy_0 (by decide) ?_
  refine lv_istore (lv' := [(4, .int (nI 0)), (0, .ref (w.1 0 0)), (1, .ref (w.1 11 t)), (2, .int (nI a)), (3, .int (nI b))]) hx hb dX4_isSignedBy_1 hl (by decide) rfl (fun ls hl => ?_)
  refine W.widen (k := 0) (n := 0) (Nat.le_of_ble_eq_true rfl) (Nat.le_of_ble_eq_true rfl) ?_
  have loop : ∀ (fu : Nat) (i : Nat) (u : Nat → Nat → Option FE) (H : Heap) (locs : List Loc) (ls : Array Slot), s_ns σ - i < fu → (i ≤ s_ns σ) → (Rc σ (w.1, u)) → (frd w (w.1, u)) → (s_hs σ t b (some a) i = false) → fP Γ (w.1, u) H → va_S (fA Γ) s.heap H locs → lv_has ls 6 [(4, .int (nI i)), (0, .ref (w.1 0 0)), (1, .ref (w.1 11 t)), (2, .int (nI a)), (3, .int (nI b))] → W p l e (rmD 5 0 0) s m [.ref (w.1 0 0), .ref (w.1 11 t), .int (nI a), .int (nI b)].toArray below meth c H locs 0 0 (MQ below (va_Qi (fun r w1 => r = b2i (s_hs σ t b (some a) (s_ns σ)) ∧ Rc σ w1 ∧ frd w w1) (fI Γ) (fA Γ)) [.ref (w.1 0 0), .ref (w.1 11 t), .int (nI a), .int (nI b)].toArray s 0 0 (fA Γ)) (F0 m 3 ls []) := by
    intro fu
    induction fu with
    | zero =>
      intro i u H locs ls hf
      exact absurd hf (Nat.not_lt_zero _)
    | succ fu ih =>
      intro i u H locs ls hf hi hRu hfu hz hP hS hl
      refine lv_iload hx hb dX4_isSignedBy_3 (lv_at hl 0 rfl) ?_
      refine lv_aload_n hx hb dX4_isSignedBy_5 rfl (lv_at hl 1 rfl) ?_
      refine gf_X4_113 C hP hRu.1 rfl rfl dX4_isSignedBy_6 ?_
      refine fw_geN (tgt := 53) hx hb (by omega) (by omega) dX4_isSignedBy_9 (by decide) (fun c_9 => ?_) (fun c_9 => ?_)
      · refine lv_iconst (v := nI 0) hx hb dX4_isSignedBy_53 (by decide) ?_
        exact fw_reti C hr hlk rfl hP hS (⟨b2i_f (by rw [← hz, (by omega : i = s_ns σ)]), hRu, hfu⟩) (Nat.le_of_ble_eq_true rfl) (Nat.le_of_ble_eq_true rfl) dX4_isSignedBy_54
      · refine lv_aload_n hx hb dX4_isSignedBy_12 rfl (lv_at hl 1 rfl) ?_
        refine lv_iload hx hb dX4_isSignedBy_13 (lv_at hl 0 rfl) ?_
        refine fw_cq0 (w := (w.1, u)) hS (fw_rV (rest := []) (As := [.int (nI i)]) C hP hS wV_X4_134 (k_X4_signatureAt l Γ (w.1, u) σ (nI i) hI.1.2.2.2.1 hRu.1 hRu.2.2.2.1.1) hRu.1 rfl rfl (fRm_mk rfl rfl (Nat.le_of_ble_eq_true rfl) (Nat.le_of_ble_eq_true rfl) (Nat.le_of_ble_eq_true rfl) (Nat.le_of_ble_eq_true rfl) (Nat.le_of_ble_eq_true rfl)) rfl hl.1 rfl dX4_isSignedBy_15) (fun H locs hP hS => ?_)
        refine fw_Eq (y := .ref (w.1 16 i)) (by rw [fIn_N (by omega), decide_eq_true (by omega), n_of_nI (by omega)]; rfl) ?_
        have hS1 := (hRu.2.2.2.1.2.1 i (by omega)).1
        have hIi := hI.2.2.2.2.2.1 i (by omega)
        refine lv_astore (lv' := [(5, .ref (w.1 16 i)), (4, .int (nI i)), (0, .ref (w.1 0 0)), (1, .ref (w.1 11 t)), (2, .int (nI a)), (3, .int (nI b))]) hx hb dX4_isSignedBy_18 hl (by decide) rfl (fun ls hl => ?_)
        refine lv_aload hx hb dX4_isSignedBy_20 (lv_at hl 0 rfl) ?_
        refine lv_ifnull hx hb dX4_isSignedBy_22 ?_
        refine lv_aload hx hb dX4_isSignedBy_25 (lv_at hl 0 rfl) ?_
        refine lv_aload_n hx hb dX4_isSignedBy_27 rfl (lv_at hl 3 rfl) ?_
        refine lv_iload_n hx hb dX4_isSignedBy_28 rfl (lv_at hl 4 rfl) ?_
        refine lv_iload_n hx hb dX4_isSignedBy_29 rfl (lv_at hl 5 rfl) ?_
        refine fw_ci0 (w := (w.1, u)) hS (fw_rV (rest := []) (As := [.ref (w.1 11 t), .int (nI a), .int (nI b)]) C hP hS wV_X4_174 (k_X2_isOf l Γ (w.1, u) σ i t a b ha hb0 hIi.2 (inj11 hP hRu hIi.1 ht) hS1) hS1 rfl rfl (fRm_mk rfl rfl (Nat.le_of_ble_eq_true rfl) (Nat.le_of_ble_eq_true rfl) (Nat.le_of_ble_eq_true rfl) (Nat.le_of_ble_eq_true rfl) (Nat.le_of_ble_eq_true rfl)) rfl hl.1 rfl dX4_isSignedBy_30) (fun H locs hP hS => ?_)
        refine fw_ieqB (tgt := 47) hx hb dX4_isSignedBy_33 (by decide) (fun c_33 => ?_) (fun c_33 => ?_)
        · refine lv_iinc (v := nI (i + 1)) (lv' := [(4, .int (nI (i + 1))), (5, .ref (w.1 16 i)), (0, .ref (w.1 0 0)), (1, .ref (w.1 11 t)), (2, .int (nI a)), (3, .int (nI b))]) hx hb dX4_isSignedBy_47 hl (k := 1) rfl (by rw [show Int32.ofInt 1 = nI 1 from rfl, nI_add]) (by decide) rfl (fun ls hl => ?_)
          refine lv_goto (tgt := 3) hx hb dX4_isSignedBy_50 (by decide) ?_
          refine W.widen (k := 0) (n := 0) (Nat.le_of_ble_eq_true rfl) (Nat.le_of_ble_eq_true rfl) ?_
          exact ih (i + 1) u H locs ls (by omega) (by omega) hRu hfu (by rw [s_hs_s, hz, h1_and, c_33]; rfl) hP hS (lv_sub hl [0, 2, 3, 4, 5] rfl)
        · refine lv_aload_n hx hb dX4_isSignedBy_36 rfl (lv_at hl 2 rfl) ?_
          refine lv_aload hx hb dX4_isSignedBy_37 (lv_at hl 0 rfl) ?_
          refine fw_ci hS (fw_rV (rest := []) (As := [.ref (w.1 16 i)]) C hP hS wV_X4_138 (k_X4_isStanding l Γ (w.1, u) σ i hI hRu (by omega)) hRu.1 rfl rfl (fRm_mk rfl rfl (Nat.le_of_ble_eq_true rfl) (Nat.le_of_ble_eq_true rfl) (Nat.le_of_ble_eq_true rfl) (Nat.le_of_ble_eq_true rfl) (Nat.le_of_ble_eq_true rfl)) rfl hl.1 rfl dX4_isSignedBy_39) (fun r1 w1 H locs hp hP hS => ?_)
          obtain ⟨ad1, u1⟩ := w1
          obtain ⟨rfl, hR1, hf1⟩ := hp
          have ha1 : ad1 = w.1 := hf1.1
          subst ha1
          have hf2 := frd_tr hfu hf1
          refine fw_ieqB (tgt := 47) hx hb dX4_isSignedBy_42 (by decide) (fun c_42 => ?_) (fun c_42 => ?_)
          · refine lv_iinc (v := nI (i + 1)) (lv' := [(4, .int (nI (i + 1))), (5, .ref (w.1 16 i)), (0, .ref (w.1 0 0)), (1, .ref (w.1 11 t)), (2, .int (nI a)), (3, .int (nI b))]) hx hb dX4_isSignedBy_47 hl (k := 1) rfl (by rw [show Int32.ofInt 1 = nI 1 from rfl, nI_add]) (by decide) rfl (fun ls hl => ?_)
            refine lv_goto (tgt := 3) hx hb dX4_isSignedBy_50 (by decide) ?_
            refine W.widen (k := 0) (n := 0) (Nat.le_of_ble_eq_true rfl) (Nat.le_of_ble_eq_true rfl) ?_
            exact ih (i + 1) u1 H locs ls (by omega) (by omega) hR1 hf2 (by rw [s_hs_s, hz, h1_and, c_33, c_42]; rfl) hP hS (lv_sub hl [0, 2, 3, 4, 5] rfl)
          · refine lv_iconst (v := nI 1) hx hb dX4_isSignedBy_45 (by decide) ?_
            exact fw_reti C hr hlk rfl hP hS (⟨b2i_t (s_hs_t (i := i + 1) (by rw [s_hs_s, h1_and, c_33, c_42]; simp) (by omega)), hR1, hf2⟩) (Nat.le_of_ble_eq_true rfl) (Nat.le_of_ble_eq_true rfl) dX4_isSignedBy_46
  exact loop (s_ns σ + 1) 0 w.2 _ _ _ (by omega) (by omega) hR (frd_rf w) rfl hP hS (lv_sub hl [0, 1, 2, 3, 4] rfl)
set_option maxHeartbeats 4000000 in
set_option maxRecDepth 100000 in
theorem k_X4_meaningsThatHold (l : Launch) (Γ : FG) (w : FW) (σ : St) (t : Nat) (hI : Inv σ) (hR : Rc σ w) (ht : t < s_nt σ) : Met l yX4_meaningsThatHold (ws_ yX4_meaningsThatHold cX4_meaningsThatHold 5 (some .int)) (rmD 5 0 0) (va_Pc [.ref (w.1 0 0), .ref (w.1 11 t)] (fI Γ w)) (va_Qi (fun r w1 => r = msk (fun m => s_hs σ t m none (s_ns σ)) 10 ∧ Rc σ w1 ∧ frd w w1) (fI Γ) (fA Γ)) 0 0 (fA Γ) := by
  refine fw_met (by decide) (Nat.le_of_ble_eq_true rfl) ?_
  intro p e s m below meth c ls C hP hS hr hlk hin hl
  have C : fC p s m [.ref (w.1 0 0), .ref (w.1 11 t)].toArray c cX4_meaningsThatHold 5 RX4 Γ := C
  have hx := C.1.1
  have hb := C.1.2.1
  have hl : lv_has ls 5 [(0, .ref (w.1 0 0)), (1, .ref (w.1 11 t))] := hl
  have hns := hI.1.2.2.2.1
  refine lv_iconst (v := nI 0) hx hb dX4_meaningsThatHold_0 (by decide) ?_
  refine lv_istore_n (lv' := [(2, .int (nI 0)), (0, .ref (w.1 0 0)), (1, .ref (w.1 11 t))]) hx hb dX4_meaningsThatHold_1 rfl hl (by decide) rfl (fun ls hl => ?_)
  refine lv_iconst (v := nI 0) hx hb dX4_meaningsThatHold_2 (by decide) ?_
  refine lv_istore_n (lv' := [(3, .int (nI 0)), (2, .int (nI 0)), (0, .ref (w.1 0 0)), (1, .ref (w.1 11 t))]) hx hb dX4_meaningsThatHold_3 rfl hl (by decide) rfl (fun ls hl => ?_)
  have hz0 : nI 0 = msk (fun m => s_hs σ t m none 0) 10 := (msk_0).symm
  refine W.widen (k := 0) (n := 0) (Nat.le_of_ble_eq_true rfl) (Nat.le_of_ble_eq_true rfl) ?_
  have loop : ∀ (fu : Nat) (i : Nat) (u : Nat → Nat → Option FE) (v : Int32) (H : Heap) (locs : List Loc) (ls : Array Slot), s_ns σ - i < fu → (i ≤ s_ns σ) → (Rc σ (w.1, u)) → (frd w (w.1, u)) → (v = msk (fun m => s_hs σ t m none i) 10) → fP Γ (w.1, u) H → va_S (fA Γ) s.heap H locs → lv_has ls 5 [(3, .int (nI i)), (2, .int v), (0, .ref (w.1 0 0)), (1, .ref (w.1 11 t))] → W p l e (rmD 5 0 0) s m [.ref (w.1 0 0), .ref (w.1 11 t)].toArray below meth c H locs 0 0 (MQ below (va_Qi (fun r w1 => r = msk (fun m => s_hs σ t m none (s_ns σ)) 10 ∧ Rc σ w1 ∧ frd w w1) (fI Γ) (fA Γ)) [.ref (w.1 0 0), .ref (w.1 11 t)].toArray s 0 0 (fA Γ)) (F0 m 4 ls []) := by
    intro fu
    induction fu with
    | zero =>
      intro i u v H locs ls hf
      exact absurd hf (Nat.not_lt_zero _)
    | succ fu ih =>
      intro i u v H locs ls hf hi hRu hfu hz hP hS hl
      have hPo := hP
      refine lv_iload_n hx hb dX4_meaningsThatHold_4 rfl (lv_at hl 0 rfl) ?_
      refine lv_aload_n hx hb dX4_meaningsThatHold_5 rfl (lv_at hl 2 rfl) ?_
      refine gf_X4_113 C hP hRu.1 rfl rfl dX4_meaningsThatHold_6 ?_
      refine fw_geN (tgt := 58) hx hb (by omega) (by omega) dX4_meaningsThatHold_9 (by decide) (fun c_9 => ?_) (fun c_9 => ?_)
      · refine lv_iload_n hx hb dX4_meaningsThatHold_58 rfl (lv_at hl 1 rfl) ?_
        exact fw_reti C hr hlk rfl hP hS (⟨by rw [hz, (by omega : i = s_ns σ)], hRu, hfu⟩) (Nat.le_of_ble_eq_true rfl) (Nat.le_of_ble_eq_true rfl) dX4_meaningsThatHold_59
      · refine lv_aload_n hx hb dX4_meaningsThatHold_12 rfl (lv_at hl 2 rfl) ?_
        refine lv_iload_n hx hb dX4_meaningsThatHold_13 rfl (lv_at hl 0 rfl) ?_
        refine fw_cq0 (w := (w.1, u)) hS (fw_rV (rest := []) (As := [.int (nI i)]) C hP hS wV_X4_134 (k_X4_signatureAt l Γ (w.1, u) σ (nI i) hI.1.2.2.2.1 hRu.1 hRu.2.2.2.1.1) hRu.1 rfl rfl (fRm_mk rfl rfl (Nat.le_of_ble_eq_true rfl) (Nat.le_of_ble_eq_true rfl) (Nat.le_of_ble_eq_true rfl) (Nat.le_of_ble_eq_true rfl) (Nat.le_of_ble_eq_true rfl)) rfl hl.1 rfl dX4_meaningsThatHold_14) (fun H locs hP hS => ?_)
        refine fw_Eq (y := .ref (w.1 16 i)) (by rw [fIn_N (by omega), decide_eq_true (by omega), n_of_nI (by omega)]; rfl) ?_
        have hS1 := (hRu.2.2.2.1.2.1 i (by omega)).1
        have hIi := hI.2.2.2.2.2.1 i (by omega)
        refine lv_astore (lv' := [(4, .ref (w.1 16 i)), (3, .int (nI i)), (2, .int v), (0, .ref (w.1 0 0)), (1, .ref (w.1 11 t))]) hx hb dX4_meaningsThatHold_17 hl (by decide) rfl (fun ls hl => ?_)
        refine lv_aload hx hb dX4_meaningsThatHold_19 (lv_at hl 0 rfl) ?_
        refine lv_ifnull hx hb dX4_meaningsThatHold_21 ?_
        refine lv_aload hx hb dX4_meaningsThatHold_24 (lv_at hl 0 rfl) ?_
        refine gf_X4_167 C hP hS1 rfl rfl dX4_meaningsThatHold_26 ?_
        refine lv_aload_n hx hb dX4_meaningsThatHold_29 rfl (lv_at hl 4 rfl) ?_
        refine lv_acmp_ne (rx := some (w.1 11 (s_st σ i))) (ry := some (w.1 11 t)) (tgt := 52) hx hb dX4_meaningsThatHold_30 (by decide) (fun c_30 => ?_) (fun c_30 => ?_)
        · refine lv_iinc (v := nI (i + 1)) (lv' := [(3, .int (nI (i + 1))), (4, .ref (w.1 16 i)), (2, .int v), (0, .ref (w.1 0 0)), (1, .ref (w.1 11 t))]) hx hb dX4_meaningsThatHold_52 hl (k := 1) rfl (by rw [show Int32.ofInt 1 = nI 1 from rfl, nI_add]) (by decide) rfl (fun ls hl => ?_)
          refine lv_goto (tgt := 4) hx hb dX4_meaningsThatHold_55 (by decide) ?_
          refine W.widen (k := 0) (n := 0) (Nat.le_of_ble_eq_true rfl) (Nat.le_of_ble_eq_true rfl) ?_
          exact ih (i + 1) u v H locs ls (by omega) (by omega) hRu hfu (mh_no hz (Or.inl (fun q => c_30 (by rw [q])))) hP hS (lv_sub hl [0, 2, 3, 4] rfl)
        · refine lv_aload_n hx hb dX4_meaningsThatHold_33 rfl (lv_at hl 3 rfl) ?_
          refine lv_aload hx hb dX4_meaningsThatHold_34 (lv_at hl 0 rfl) ?_
          refine fw_ci hS (fw_rV (rest := []) (As := [.ref (w.1 16 i)]) C hP hS wV_X4_138 (k_X4_isStanding l Γ (w.1, u) σ i hI hRu (by omega)) hRu.1 rfl rfl (fRm_mk rfl rfl (Nat.le_of_ble_eq_true rfl) (Nat.le_of_ble_eq_true rfl) (Nat.le_of_ble_eq_true rfl) (Nat.le_of_ble_eq_true rfl) (Nat.le_of_ble_eq_true rfl)) rfl hl.1 rfl dX4_meaningsThatHold_36) (fun r1 w1 H locs hp hP hS => ?_)
          obtain ⟨ad1, u1⟩ := w1
          obtain ⟨rfl, hR1, hf1⟩ := hp
          have ha1 : ad1 = w.1 := hf1.1
          subst ha1
          have hf2 := frd_tr hfu hf1
          refine fw_ieqB (tgt := 52) hx hb dX4_meaningsThatHold_39 (by decide) (fun c_39 => ?_) (fun c_39 => ?_)
          · refine lv_iinc (v := nI (i + 1)) (lv' := [(3, .int (nI (i + 1))), (4, .ref (w.1 16 i)), (2, .int v), (0, .ref (w.1 0 0)), (1, .ref (w.1 11 t))]) hx hb dX4_meaningsThatHold_52 hl (k := 1) rfl (by rw [show Int32.ofInt 1 = nI 1 from rfl, nI_add]) (by decide) rfl (fun ls hl => ?_)
            refine lv_goto (tgt := 4) hx hb dX4_meaningsThatHold_55 (by decide) ?_
            refine W.widen (k := 0) (n := 0) (Nat.le_of_ble_eq_true rfl) (Nat.le_of_ble_eq_true rfl) ?_
            exact ih (i + 1) u1 v H locs ls (by omega) (by omega) hR1 hf2 (mh_no hz (Or.inr c_39)) hP hS (lv_sub hl [0, 2, 3, 4] rfl)
          · refine lv_iload_n hx hb dX4_meaningsThatHold_42 rfl (lv_at hl 2 rfl) ?_
            refine lv_iconst (v := 1) hx hb dX4_meaningsThatHold_43 (by decide) ?_
            refine lv_aload hx hb dX4_meaningsThatHold_44 (lv_at hl 0 rfl) ?_
            refine gf_X4_171 C hP ((hR1.2.2.2.1.2.1 i (by omega)).1) rfl rfl dX4_meaningsThatHold_46 ?_
            refine lv_ishl hx hb dX4_meaningsThatHold_49 ?_
            refine lv_ior hx hb dX4_meaningsThatHold_50 ?_
            refine lv_topi (fun x2_51 e_x2_51 => ?_)
            refine lv_istore_n (lv' := [(2, .int x2_51), (4, .ref (w.1 16 i)), (3, .int (nI i)), (0, .ref (w.1 0 0)), (1, .ref (w.1 11 t))]) hx hb dX4_meaningsThatHold_51 rfl hl (by decide) rfl (fun ls hl => ?_)
            refine lv_iinc (v := nI (i + 1)) (lv' := [(3, .int (nI (i + 1))), (2, .int x2_51), (4, .ref (w.1 16 i)), (0, .ref (w.1 0 0)), (1, .ref (w.1 11 t))]) hx hb dX4_meaningsThatHold_52 hl (k := 2) rfl (by rw [show Int32.ofInt 1 = nI 1 from rfl, nI_add]) (by decide) rfl (fun ls hl => ?_)
            refine lv_goto (tgt := 4) hx hb dX4_meaningsThatHold_55 (by decide) ?_
            refine W.widen (k := 0) (n := 0) (Nat.le_of_ble_eq_true rfl) (Nat.le_of_ble_eq_true rfl) ?_
            exact ih (i + 1) u1 x2_51 H locs ls (by omega) (by omega) hR1 hf2 (mh_yes hz (inj11 hPo hRu hIi.1 ht (Option.some.inj c_30)) c_39 hIi.2.2 e_x2_51) hP hS (lv_sub hl [0, 1, 3, 4] rfl)
  exact loop (s_ns σ + 1) 0 w.2 (nI 0) _ _ _ (by omega) (by omega) hR (frd_rf w) hz0 hP hS (lv_sub hl [0, 1, 2, 3] rfl)
