set_option maxHeartbeats 4000000 in
set_option maxRecDepth 100000 in
theorem k_X5_turn (l : Launch) (Γ : FG) (w : FW) (v k : Int32) : Met l yX5_turn (ws_ yX5_turn cX5_turn 2 (some .int)) (rmD 0 0 0) (va_Pc [.int v, .int k] (fI Γ w)) (va_Qi (fun r w1 => r = trn v k ∧ w1 = w) (fI Γ) (fA Γ)) 0 0 (fA Γ) := by
  refine fw_met (by decide) (Nat.le_of_ble_eq_true rfl) ?_
  intro p e s m below meth c ls C hP hS hr hlk hin hl
  have C : fC p s m [.int v, .int k].toArray c cX5_turn 2 RX5 Γ := C
  have hx := C.1.1
  have hb := C.1.2.1
  have hl : lv_has ls 2 [(0, .int v), (1, .int k)] := hl
  refine lv_iload_n hx hb dX5_turn_0 rfl (lv_at hl 0 rfl) ?_
  refine lv_iload_n hx hb dX5_turn_1 rfl (lv_at hl 1 rfl) ?_
  refine lv_iushr (v := ush v k) hx hb dX5_turn_2 rfl ?_
  refine lv_iload_n hx hb dX5_turn_3 rfl (lv_at hl 0 rfl) ?_
  refine lv_bipush (v := 32) hx hb dX5_turn_4 (by decide) ?_
  refine lv_iload_n hx hb dX5_turn_6 rfl (lv_at hl 1 rfl) ?_
  refine lv_isub hx hb dX5_turn_7 ?_
  refine lv_ishl hx hb dX5_turn_8 ?_
  refine lv_ior hx hb dX5_turn_9 ?_
  exact fw_reti C hr hlk rfl hP hS (⟨rfl, rfl⟩) (Nat.le_of_ble_eq_true rfl) (Nat.le_of_ble_eq_true rfl) dX5_turn_10
theorem rtK_n {x : UInt64} (h : rtK x = true) : vf_n64 x := of_decide_eq_true (p := x &&& 0x7fffffffffffffff ≤ 0x7ff0000000000000) h
theorem rtO_t {t : Bool} {n : Int32} {x : UInt64} (h : t = true) (ho : rtO t n x = true) : vf_n64 (FP.dadd x x) ∧ vf_n64 (FP.dmul x x) ∧ vf_n64 (rtB n x) ∧ vf_n64 (rtC n x) ∧ vf_n64 (FP.ddiv (rtC n x) 4613937818241073152) := by
  subst h
  have ho : (rtK (rtA x) && (rtK (FP.dmul x x) && (rtK (rtB n x) && (rtK (rtC n x) && rtK (FP.ddiv (rtC n x) 4613937818241073152))))) = true := ho
  simp only [Bool.and_eq_true] at ho
  obtain ⟨h1, h2, h3, h4, h5⟩ := ho
  exact ⟨rtK_n h1, rtK_n h2, rtK_n h3, rtK_n h4, rtK_n h5⟩
theorem rtO_f {t : Bool} {n : Int32} {x : UInt64} (h : t = false) (ho : rtO t n x = true) : vf_n64 (FP.ddiv (FP.i2d n) x) ∧ vf_n64 (rtD n x) ∧ vf_n64 (FP.ddiv (rtD n x) 4611686018427387904) := by
  subst h
  have ho : (rtK (FP.ddiv (FP.i2d n) x) && (rtK (rtD n x) && rtK (FP.ddiv (rtD n x) 4611686018427387904))) = true := ho
  simp only [Bool.and_eq_true] at ho
  obtain ⟨h1, h2, h3⟩ := ho
  exact ⟨rtK_n h1, rtK_n h2, rtK_n h3⟩
set_option maxHeartbeats 4000000 in
set_option maxRecDepth 100000 in
theorem k_X5_root (l : Launch) (Γ : FG) (w : FW) (nn : Nat) (third : Bool) (v : Int32) (hW : rtW third (nI nn) v = true) : Met l yX5_root (ws_ yX5_root cX5_root 6 (some .int)) (rmD 0 0 0) (va_Pc [.int (nI nn), .int (b2i third)] (fI Γ w)) (va_Qi (fun r w1 => r = v ∧ w1 = w) (fI Γ) (fA Γ)) 0 0 (fA Γ) := by
  refine fw_met (by decide) (Nat.le_of_ble_eq_true rfl) ?_
  intro p e s m below meth c ls C hP hS hr hlk hin hl
  have C : fC p s m [.int (nI nn), .int (b2i third)].toArray c cX5_root 6 RX5 Γ := C
  have hx := C.1.1
  have hb := C.1.2.1
  have hl : lv_has ls 6 [(0, .int (nI nn)), (1, .int (b2i third))] := hl
  refine lv_iload_n hx hb dX5_root_0 rfl (lv_at hl 0 rfl) ?_
  refine lv_i2d hx hb dX5_root_1 ?_
  refine lv_dstore_n (lv' := [(2, .double (FP.i2d (nI nn))), (0, .int (nI nn)), (1, .int (b2i third))]) hx hb dX5_root_2 rfl hl (by decide) rfl (fun ls hl => ?_)
  refine lv_iconst (v := nI 0) hx hb dX5_root_3 (by decide) ?_
  refine lv_istore (lv' := [(4, .int (nI 0)), (2, .double (FP.i2d (nI nn))), (0, .int (nI nn)), (1, .int (b2i third))]) hx hb dX5_root_4 hl (by decide) rfl (fun ls hl => ?_)
  obtain ⟨hO, hE, hF, hV⟩ := rtW_spec hW
  refine W.widen (k := 0) (n := 0) (Nat.le_of_ble_eq_true rfl) (Nat.le_of_ble_eq_true rfl) ?_
  have loop : ∀ (fu : Nat) (k : Nat) (dv : UInt64) (H : Heap) (locs : List Loc) (ls : Array Slot), 40 - k < fu → (k ≤ 40) → (dv = rtI third (nI nn) k) → fP Γ w H → va_S (fA Γ) s.heap H locs → lv_has ls 6 [(4, .int (nI k)), (2, .double dv), (0, .int (nI nn)), (1, .int (b2i third))] → W p l e (rmD 0 0 0) s m [.int (nI nn), .int (b2i third)].toArray below meth c H locs 0 0 (MQ below (va_Qi (fun r w1 => r = v ∧ w1 = w) (fI Γ) (fA Γ)) [.int (nI nn), .int (b2i third)].toArray s 0 0 (fA Γ)) (F0 m 6 ls []) := by
    intro fu
    induction fu with
    | zero =>
      intro k dv H locs ls hf
      exact absurd hf (Nat.not_lt_zero _)
    | succ fu ih =>
      intro k dv H locs ls hf hk hz hP hS hl
      subst hz
      refine lv_iload hx hb dX5_root_6 (lv_at hl 0 rfl) ?_
      refine lv_bipush (v := nI 40) hx hb dX5_root_8 (by decide) ?_
      refine fw_geN (tgt := 51) hx hb (by omega) (by omega) dX5_root_10 (by decide) (fun c_10 => ?_) (fun c_10 => ?_)
      · have hk9 : k = 40 := by omega
        refine lv_dload_n hx hb dX5_root_51 rfl (lv_at hl 1 rfl) ?_
        refine lv_d2l hx hb dX5_root_52 ?_
        refine lv_lstore (lv' := [(4, .long (FP.d2l (rtI third (nI nn) k))), (2, .double (rtI third (nI nn) k)), (0, .int (nI nn)), (1, .int (b2i third))]) hx hb dX5_root_53 hl (by decide) rfl (fun ls hl => ?_)
        refine lv_dload_n hx hb dX5_root_55 rfl (lv_at hl 1 rfl) ?_
        refine lv_lload hx hb dX5_root_56 (lv_at hl 0 rfl) ?_
        refine lv_l2d hx hb dX5_root_58 ?_
        refine lv_dsub hx hb dX5_root_59 (by rw [hk9]; exact rtK_n hE) ?_
        refine lv_ldc2d hx hb C.1.2.2.2.1 (C.1.2.2.2.2 _ qk_X5_147) dX5_root_60 ?_
        refine lv_dmul hx hb dX5_root_63 (by rw [hk9]; exact rtK_n hF) ?_
        refine lv_d2l hx hb dX5_root_64 ?_
        refine lv_l2i (v := (FP.d2l (FP.dmul (FP.dsub (rtI third (nI nn) k) (FP.l2d (FP.d2l (rtI third (nI nn) k)))) 4751297606875873280)).toInt32) hx hb dX5_root_65 rfl ?_
        exact fw_reti C hr hlk rfl hP hS (⟨by rw [hk9]; exact hV, rfl⟩) (Nat.le_of_ble_eq_true rfl) (Nat.le_of_ble_eq_true rfl) dX5_root_66
      · refine lv_iload_n hx hb dX5_root_13 rfl (lv_at hl 3 rfl) ?_
        refine fw_ieqB (tgt := 34) hx hb dX5_root_14 (by decide) (fun c_14 => ?_) (fun c_14 => ?_)
        · obtain ⟨n1, n2, n3⟩ := rtO_f c_14 (hO k (by omega))
          refine lv_dload_n hx hb dX5_root_34 rfl (lv_at hl 1 rfl) ?_
          refine lv_iload_n hx hb dX5_root_35 rfl (lv_at hl 2 rfl) ?_
          refine lv_i2d hx hb dX5_root_36 ?_
          refine lv_dload_n hx hb dX5_root_37 rfl (lv_at hl 1 rfl) ?_
          refine lv_ddiv hx hb dX5_root_38 n1 ?_
          refine lv_dadd hx hb dX5_root_39 n2 ?_
          refine lv_ldc2d hx hb C.1.2.2.2.1 (C.1.2.2.2.2 _ qk_X5_145) dX5_root_40 ?_
          refine lv_ddiv hx hb dX5_root_43 n3 ?_
          refine lv_topd (fun x2_44 e_x2_44 => ?_)
          refine lv_dstore_n (lv' := [(2, .double x2_44), (4, .int (nI k)), (0, .int (nI nn)), (1, .int (b2i third))]) hx hb dX5_root_44 rfl hl (by decide) rfl (fun ls hl => ?_)
          refine lv_iinc (v := nI (k + 1)) (lv' := [(4, .int (nI (k + 1))), (2, .double x2_44), (0, .int (nI nn)), (1, .int (b2i third))]) hx hb dX5_root_45 hl (k := 1) rfl (by rw [show Int32.ofInt 1 = nI 1 from rfl, nI_add]) (by decide) rfl (fun ls hl => ?_)
          refine lv_goto (tgt := 6) hx hb dX5_root_48 (by decide) ?_
          refine W.widen (k := 0) (n := 0) (Nat.le_of_ble_eq_true rfl) (Nat.le_of_ble_eq_true rfl) ?_
          exact ih (k + 1) x2_44 H locs ls (by omega) (by omega) (by rw [e_x2_44, rtI, rtS, c_14]; rfl) hP hS (lv_sub hl [0, 1, 2, 3] rfl)
        · obtain ⟨n1, n2, n3, n4, n5⟩ := rtO_t c_14 (hO k (by omega))
          refine lv_dload_n hx hb dX5_root_17 rfl (lv_at hl 1 rfl) ?_
          refine lv_dload_n hx hb dX5_root_18 rfl (lv_at hl 1 rfl) ?_
          refine lv_dadd hx hb dX5_root_19 n1 ?_
          refine lv_iload_n hx hb dX5_root_20 rfl (lv_at hl 2 rfl) ?_
          refine lv_i2d hx hb dX5_root_21 ?_
          refine lv_dload_n hx hb dX5_root_22 rfl (lv_at hl 1 rfl) ?_
          refine lv_dload_n hx hb dX5_root_23 rfl (lv_at hl 1 rfl) ?_
          refine lv_dmul hx hb dX5_root_24 n2 ?_
          refine lv_ddiv hx hb dX5_root_25 n3 ?_
          refine lv_dadd hx hb dX5_root_26 n4 ?_
          refine lv_ldc2d hx hb C.1.2.2.2.1 (C.1.2.2.2.2 _ qk_X5_143) dX5_root_27 ?_
          refine lv_ddiv hx hb dX5_root_30 n5 ?_
          refine lv_goto (tgt := 44) hx hb dX5_root_31 (by decide) ?_
          refine lv_topd (fun x2_44 e_x2_44 => ?_)
          refine lv_dstore_n (lv' := [(2, .double x2_44), (4, .int (nI k)), (0, .int (nI nn)), (1, .int (b2i third))]) hx hb dX5_root_44 rfl hl (by decide) rfl (fun ls hl => ?_)
          refine lv_iinc (v := nI (k + 1)) (lv' := [(4, .int (nI (k + 1))), (2, .double x2_44), (0, .int (nI nn)), (1, .int (b2i third))]) hx hb dX5_root_45 hl (k := 1) rfl (by rw [show Int32.ofInt 1 = nI 1 from rfl, nI_add]) (by decide) rfl (fun ls hl => ?_)
          refine lv_goto (tgt := 6) hx hb dX5_root_48 (by decide) ?_
          refine W.widen (k := 0) (n := 0) (Nat.le_of_ble_eq_true rfl) (Nat.le_of_ble_eq_true rfl) ?_
          exact ih (k + 1) x2_44 H locs ls (by omega) (by omega) (by rw [e_x2_44, rtI, rtS, c_14]; rfl) hP hS (lv_sub hl [0, 1, 2, 3] rfl)
  exact loop 41 0 (FP.i2d (nI nn)) _ _ _ (by omega) (by omega) rfl hP hS (lv_sub hl [0, 1, 2, 3] rfl)
theorem prI {n i : Nat} (hn : n < 312) (h : (i + 2) * (i + 2) ≤ n) : i + 1 ≤ 17 := by
  refine Nat.le_of_not_lt fun q => ?_
  have := Nat.mul_le_mul (show 18 ≤ i + 2 by omega) (show 18 ≤ i + 2 by omega)
  omega
theorem prB {i : Nat} (h : i ≤ 17) : (i + 2) * (i + 2) < 2 ^ 31 := by
  have := Nat.mul_le_mul (show i + 2 ≤ 19 by omega) (show i + 2 ≤ 19 by omega)
  omega
theorem all_s {P : Nat → Prop} {i : Nat} (h : ∀ j, j < i → P j) (hi : P i) : ∀ j, j < i + 1 → P j := fun j hj => by
  rcases Nat.lt_or_ge j i with q | q
  · exact h j q
  · have : j = i := by omega
    subst this
    exact hi
theorem pc_n {n f : Nat} (h : prT n = false) (hf : f = prC n) : f = prC (n + 1) := by
  show f = prC n + (if 2 ≤ n ∧ prT n = true then 1 else 0)
  rw [if_neg (fun q => by rw [h] at q; exact absurd q.2 (by decide))]
  exact hf
theorem pc_y {n f : Nat} (h2 : 2 ≤ n) (h : prT n = true) (hf : f = prC n) : f + 1 = prC (n + 1) := by
  show f + 1 = prC n + (if 2 ≤ n ∧ prT n = true then 1 else 0)
  rw [if_pos ⟨h2, h⟩, hf]
theorem up_8 {g P : Nat → Int32} {i : Nat} (h : ∀ j, j < i → j < 8 → g j = P j) : ∀ j, j < i + 1 → j < 8 → upd g i (P i) j = P j := by
  intro j hj h8
  unfold upd
  by_cases e : j = i
  · rw [if_pos e, e]
  · rw [if_neg e]; exact h j (by omega) h8
set_option maxHeartbeats 4000000 in
set_option maxRecDepth 100000 in
theorem k_X5_prepare (l : Launch) (Γ : FG) (w : FW) (σ : St) (th : Int32) (z : Bool) (h20 : w.2 20 0 = some (oMo σ w th z)) (mH : RmH z w) : Met l yX5_prepare (ws_ yX5_prepare cX5_prepare 5 none) (rmD 1 0 0) (va_Pc [.ref (w.1 20 0)] (fI Γ w)) (va_Qv (fun w1 => w1.1 = w.1 ∧ (∀ k i, ¬ (k = 57 ∨ k = 58 ∨ k = 20) → w1.2 k i = w.2 k i) ∧ w1.2 20 0 = some (oMo σ w th true) ∧ ∃ g hh, w1.2 57 0 = some (aI 1 64 g) ∧ w1.2 58 0 = some (aI 1 8 hh) ∧ (∀ j, j < 64 → g j = shK j) ∧ ∀ j, j < 8 → hh j = shH j) (fI Γ) (fA Γ)) 0 0 (fA Γ) := by
  refine fw_met (by decide) (Nat.le_of_ble_eq_true rfl) ?_
  intro p e s m below meth c ls C hP hS hr hlk hin hl
  have C : fC p s m [.ref (w.1 20 0)].toArray c cX5_prepare 5 RX5 Γ := C
  have hx := C.1.1
  have hb := C.1.2.1
  have hl : lv_has ls 5 [(0, .ref (w.1 20 0))] := hl
  obtain ⟨⟨f57, g57, v57⟩, ⟨f58, g58, v58⟩, hrest⟩ := id mH
  refine lv_iconst (v := nI 0) hx hb dX5_prepare_0 (by decide) ?_
  refine lv_istore_n (lv' := [(1, .int (nI 0)), (0, .ref (w.1 20 0))]) hx hb dX5_prepare_1 rfl hl (by decide) rfl (fun ls hl => ?_)
  refine lv_iconst (v := nI 2) hx hb dX5_prepare_2 (by decide) ?_
  refine lv_istore_n (lv' := [(2, .int (nI 2)), (1, .int (nI 0)), (0, .ref (w.1 20 0))]) hx hb dX5_prepare_3 rfl hl (by decide) rfl (fun ls hl => ?_)
  refine W.widen (k := 0) (n := 0) (Nat.le_of_ble_eq_true rfl) (Nat.le_of_ble_eq_true rfl) ?_
  have loopA : ∀ (fuA : Nat) (nn fd : Nat) (u : Nat → Nat → Option FE) (g hh : Nat → Int32) (H : Heap) (locs : List Loc) (ls : Array Slot), 312 - nn < fuA → (2 ≤ nn) → (nn ≤ 312) → (fd ≤ 64) → (fd = prC nn) → (u 57 0 = some (aI 1 64 g)) → (u 58 0 = some (aI 1 8 hh)) → (∀ k i, ¬ (k = 57 ∨ k = 58) → u k i = w.2 k i) → (∀ j, j < fd → g j = shK j) → (∀ j, j < fd → j < 8 → hh j = shH j) → fP Γ (w.1, u) H → va_S (fA Γ) s.heap H locs → lv_has ls 5 [(2, .int (nI nn)), (1, .int (nI fd)), (0, .ref (w.1 20 0))] → W p l e (rmD 1 0 0) s m [.ref (w.1 20 0)].toArray below meth c H locs 0 0 (MQ below (va_Qv (fun w1 => w1.1 = w.1 ∧ (∀ k i, ¬ (k = 57 ∨ k = 58 ∨ k = 20) → w1.2 k i = w.2 k i) ∧ w1.2 20 0 = some (oMo σ w th true) ∧ ∃ g hh, w1.2 57 0 = some (aI 1 64 g) ∧ w1.2 58 0 = some (aI 1 8 hh) ∧ (∀ j, j < 64 → g j = shK j) ∧ ∀ j, j < 8 → hh j = shH j) (fI Γ) (fA Γ)) [.ref (w.1 20 0)].toArray s 0 0 (fA Γ)) (F0 m 4 ls []) := by
    intro fuA
    induction fuA with
    | zero =>
      intro nn fd u g hh H locs ls hf
      exact absurd hf (Nat.not_lt_zero _)
    | succ fuA ihA =>
      intro nn fd u g hh H locs ls hf hn2 hn hf64 hfd hu57 hu58 hufr hg hh8 hP hS hl
      refine lv_iload_n hx hb dX5_prepare_4 rfl (lv_at hl 1 rfl) ?_
      refine lv_bipush (v := nI 64) hx hb dX5_prepare_5 (by decide) ?_
      refine fw_geN (tgt := 88) hx hb (by omega) (by omega) dX5_prepare_7 (by decide) (fun c_7 => ?_) (fun c_7 => ?_)
      · refine lv_aload_n hx hb dX5_prepare_88 rfl (lv_at hl 2 rfl) ?_
        refine lv_iconst (v := 1) hx hb dX5_prepare_89 (by decide) ?_
        refine pf_X5_153 C hP hS rfl rfl ((hufr 20 0 (by omega)).trans h20) rfl (Nat.le_of_ble_eq_true rfl) dX5_prepare_90 (fun H locs hP hS => ?_)
        have hP : fP Γ (fset (w.1, u) 20 0 (oO 5 [.int (nI (s_np σ)), .int (nI (s_nr σ)), .ref (w.1 32 0), .ref (w.1 33 0), .ref (w.1 34 0), .ref (w.1 35 0), .int (nI (s_nt σ)), .ref (w.1 37 0), .ref (w.1 38 0), .ref (w.1 39 0), .ref (w.1 40 0), .ref (w.1 41 0), .ref (w.1 42 0), .ref (w.1 43 0), .ref (w.1 44 0), .int (nI (s_ns σ)), .ref (w.1 46 0), .ref (w.1 47 0), .ref (w.1 48 0), .ref (w.1 49 0), .ref (w.1 50 0), .int (nI (s_nw σ)), .ref (w.1 52 0), .ref (w.1 53 0), .long (s_ck σ), .int th, .int (b2i true), .ref (w.1 57 0), .ref (w.1 58 0), .ref (w.1 59 0), .ref (w.1 60 0), .ref (w.1 61 0)])) H := hP
        have hf9 : fd = 64 := by omega
        exact fw_retv C hr hlk hP hS (⟨rfl, fun k i q => (fset_ne (by omega)).trans (hufr k i (by omega)), fset_at, g, hh, (fset_ne (by decide)).trans hu57, (fset_ne (by decide)).trans hu58, fun j hj => hg j (by omega), fun j hj => hh8 j (by omega) hj⟩) (Nat.le_of_ble_eq_true rfl) (Nat.le_of_ble_eq_true rfl) dX5_prepare_93
      · have hn9 : nn < 312 := prC_lt (by rw [← hfd]; exact c_7)
        refine lv_iconst (v := 1) hx hb dX5_prepare_10 (by decide) ?_
        refine lv_istore_n (lv' := [(3, .int 1), (2, .int (nI nn)), (1, .int (nI fd)), (0, .ref (w.1 20 0))]) hx hb dX5_prepare_11 rfl hl (by decide) rfl (fun ls hl => ?_)
        refine lv_iconst (v := nI 2) hx hb dX5_prepare_12 (by decide) ?_
        refine lv_istore (lv' := [(4, .int (nI 2)), (3, .int 1), (2, .int (nI nn)), (1, .int (nI fd)), (0, .ref (w.1 20 0))]) hx hb dX5_prepare_13 hl (by decide) rfl (fun ls hl => ?_)
        refine W.widen (k := 0) (n := 0) (Nat.le_of_ble_eq_true rfl) (Nat.le_of_ble_eq_true rfl) ?_
        have loopB : ∀ (fuB : Nat) (ii : Nat) (pv : Int32) (H : Heap) (locs : List Loc) (ls : Array Slot), 18 - ii < fuB → (ii ≤ 17) → (∀ j, j < ii → (j + 2) * (j + 2) ≤ nn) → (pv = b2i (prF nn ii)) → fP Γ (w.1, u) H → va_S (fA Γ) s.heap H locs → lv_has ls 5 [(4, .int (nI (ii + 2))), (3, .int pv), (2, .int (nI nn)), (1, .int (nI fd)), (0, .ref (w.1 20 0))] → W p l e (rmD 1 0 0) s m [.ref (w.1 20 0)].toArray below meth c H locs 0 0 (MQ below (va_Qv (fun w1 => w1.1 = w.1 ∧ (∀ k i, ¬ (k = 57 ∨ k = 58 ∨ k = 20) → w1.2 k i = w.2 k i) ∧ w1.2 20 0 = some (oMo σ w th true) ∧ ∃ g hh, w1.2 57 0 = some (aI 1 64 g) ∧ w1.2 58 0 = some (aI 1 8 hh) ∧ (∀ j, j < 64 → g j = shK j) ∧ ∀ j, j < 8 → hh j = shH j) (fI Γ) (fA Γ)) [.ref (w.1 20 0)].toArray s 0 0 (fA Γ)) (F0 m 15 ls []) := by
          intro fuB
          induction fuB with
          | zero =>
            intro ii pv H locs ls hf
            exact absurd hf (Nat.not_lt_zero _)
          | succ fuB ihB =>
            intro ii pv H locs ls hf hi hsq hz hP hS hl
            subst hz
            refine lv_iload hx hb dX5_prepare_15 (lv_at hl 0 rfl) ?_
            refine lv_iload hx hb dX5_prepare_17 (lv_at hl 0 rfl) ?_
            refine fw_mulN hx hb dX5_prepare_19 ?_
            refine lv_iload_n hx hb dX5_prepare_20 rfl (lv_at hl 2 rfl) ?_
            refine fw_gtN (tgt := 47) hx hb (by first | exact prB hi | omega) (by first | exact prB hi | omega) dX5_prepare_21 (by decide) (fun c_21 => ?_) (fun c_21 => ?_)
            · have hE := prE_is hn9 c_21 hsq
              have hT : prF nn ii = prT nn := by rw [hE]; rfl
              refine lv_iload_n hx hb dX5_prepare_47 rfl (lv_at hl 1 rfl) ?_
              refine fw_ieqB (tgt := 82) hx hb dX5_prepare_48 (by decide) (fun c_48 => ?_) (fun c_48 => ?_)
              · refine lv_iinc (v := nI (nn + 1)) (lv' := [(2, .int (nI (nn + 1))), (4, .int (nI (ii + 2))), (3, .int (b2i (prF nn ii))), (1, .int (nI fd)), (0, .ref (w.1 20 0))]) hx hb dX5_prepare_82 hl (k := 2) rfl (by rw [show Int32.ofInt 1 = nI 1 from rfl, nI_add]) (by decide) rfl (fun ls hl => ?_)
                refine lv_goto (tgt := 4) hx hb dX5_prepare_85 (by decide) ?_
                refine W.widen (k := 0) (n := 0) (Nat.le_of_ble_eq_true rfl) (Nat.le_of_ble_eq_true rfl) ?_
                exact ihA (nn + 1) fd u g hh H locs ls (by omega) (by omega) (by omega) hf64 (pc_n (by rw [← hT]; exact c_48) hfd) hu57 hu58 hufr hg hh8 hP hS (lv_sub hl [0, 3, 4] rfl)
              · have hW9 := rtAll_ok hn9 hn2 (by rw [← hT]; exact c_48)
                have hW1 : rtW true (nI nn) (shK fd) = true := by rw [hfd]; exact hW9.1
                refine lv_aload_n hx hb dX5_prepare_51 rfl (lv_at hl 4 rfl) ?_
                refine gf_X5_69 C hP ((hufr 20 0 (by omega)).trans h20) rfl rfl dX5_prepare_52 ?_
                refine lv_iload_n hx hb dX5_prepare_55 rfl (lv_at hl 3 rfl) ?_
                refine lv_iload_n hx hb dX5_prepare_56 rfl (lv_at hl 2 rfl) ?_
                refine lv_iconst (v := 1) hx hb dX5_prepare_57 (by decide) ?_
                refine fw_E (show (1 : Int32) = b2i true from rfl) ?_
                refine fw_ci0 (w := (w.1, u)) hS (fw_rS (rest := [.int (nI fd), .ref (w.1 57 0)]) (As := [.int (nI nn), .int (b2i true)]) C hP hS wS_X5_149 (k_X5_root l Γ (w.1, u) nn true (shK fd) hW1) (fRm_mk rfl rfl (Nat.le_of_ble_eq_true rfl) (Nat.le_of_ble_eq_true rfl) (Nat.le_of_ble_eq_true rfl) (Nat.le_of_ble_eq_true rfl) (Nat.le_of_ble_eq_true rfl)) rfl hl.1 rfl dX5_prepare_58) (fun H locs hP hS => ?_)
                refine fw_iast C hP hS hu57 rfl fd rfl (by omega) (by decide) dX5_prepare_61 (fun H locs hP hS => ?_)
                have hP : fP Γ (fset (w.1, u) 57 0 (aI 1 64 (upd g fd (shK fd)))) H := hP
                refine lv_iload_n hx hb dX5_prepare_62 rfl (lv_at hl 3 rfl) ?_
                refine lv_bipush (v := nI 8) hx hb dX5_prepare_63 (by decide) ?_
                refine fw_geN (tgt := 79) hx hb (by omega) (by omega) dX5_prepare_65 (by decide) (fun c_65 => ?_) (fun c_65 => ?_)
                · refine lv_iinc (v := nI (fd + 1)) (lv' := [(1, .int (nI (fd + 1))), (4, .int (nI (ii + 2))), (3, .int (b2i (prF nn ii))), (2, .int (nI nn)), (0, .ref (w.1 20 0))]) hx hb dX5_prepare_79 hl (k := 3) rfl (by rw [show Int32.ofInt 1 = nI 1 from rfl, nI_add]) (by decide) rfl (fun ls hl => ?_)
                  refine lv_iinc (v := nI (nn + 1)) (lv' := [(2, .int (nI (nn + 1))), (1, .int (nI (fd + 1))), (4, .int (nI (ii + 2))), (3, .int (b2i (prF nn ii))), (0, .ref (w.1 20 0))]) hx hb dX5_prepare_82 hl (k := 3) rfl (by rw [show Int32.ofInt 1 = nI 1 from rfl, nI_add]) (by decide) rfl (fun ls hl => ?_)
                  refine lv_goto (tgt := 4) hx hb dX5_prepare_85 (by decide) ?_
                  refine W.widen (k := 0) (n := 0) (Nat.le_of_ble_eq_true rfl) (Nat.le_of_ble_eq_true rfl) ?_
                  exact ihA (nn + 1) (fd + 1) (((fset (w.1, u) 57 0 (aI 1 64 (upd g fd (shK fd))))).2) (upd g fd (shK fd)) hh H locs ls (by omega) (by omega) (by omega) (by omega) (pc_y (by omega) (by rw [← hT]; exact c_48) hfd) fset_at ((fset_ne (by decide)).trans hu58) (fun k i q => ((fset_ne (by omega)).trans (hufr k i q))) (up_s hg rfl) (fun j h1 h2 => hh8 j (by omega) h2) hP hS (lv_sub hl [0, 1, 4] rfl)
                · have hW2 : rtW false (nI nn) (shH fd) = true := by rw [hfd]; exact hW9.2 (by rw [← hfd]; exact c_65)
                  refine lv_aload_n hx hb dX5_prepare_68 rfl (lv_at hl 4 rfl) ?_
                  refine gf_X5_72 C hP ((fset_ne (by decide)).trans ((hufr 20 0 (by omega)).trans h20)) rfl rfl dX5_prepare_69 ?_
                  refine lv_iload_n hx hb dX5_prepare_72 rfl (lv_at hl 3 rfl) ?_
                  refine lv_iload_n hx hb dX5_prepare_73 rfl (lv_at hl 2 rfl) ?_
                  refine lv_iconst (v := 0) hx hb dX5_prepare_74 (by decide) ?_
                  refine fw_E (show (0 : Int32) = b2i false from rfl) ?_
                  refine fw_ci0 (w := (fset (w.1, u) 57 0 (aI 1 64 (upd g fd (shK fd))))) hS (fw_rS (rest := [.int (nI fd), .ref (w.1 58 0)]) (As := [.int (nI nn), .int (b2i false)]) C hP hS wS_X5_149 (k_X5_root l Γ (fset (w.1, u) 57 0 (aI 1 64 (upd g fd (shK fd)))) nn false (shH fd) hW2) (fRm_mk rfl rfl (Nat.le_of_ble_eq_true rfl) (Nat.le_of_ble_eq_true rfl) (Nat.le_of_ble_eq_true rfl) (Nat.le_of_ble_eq_true rfl) (Nat.le_of_ble_eq_true rfl)) rfl hl.1 rfl dX5_prepare_75) (fun H locs hP hS => ?_)
                  refine fw_iast C hP hS ((fset_ne (by decide)).trans hu58) rfl fd rfl (by omega) (by decide) dX5_prepare_78 (fun H locs hP hS => ?_)
                  have hP : fP Γ (fset (fset (w.1, u) 57 0 (aI 1 64 (upd g fd (shK fd)))) 58 0 (aI 1 8 (upd hh fd (shH fd)))) H := hP
                  refine lv_iinc (v := nI (fd + 1)) (lv' := [(1, .int (nI (fd + 1))), (4, .int (nI (ii + 2))), (3, .int (b2i (prF nn ii))), (2, .int (nI nn)), (0, .ref (w.1 20 0))]) hx hb dX5_prepare_79 hl (k := 3) rfl (by rw [show Int32.ofInt 1 = nI 1 from rfl, nI_add]) (by decide) rfl (fun ls hl => ?_)
                  refine lv_iinc (v := nI (nn + 1)) (lv' := [(2, .int (nI (nn + 1))), (1, .int (nI (fd + 1))), (4, .int (nI (ii + 2))), (3, .int (b2i (prF nn ii))), (0, .ref (w.1 20 0))]) hx hb dX5_prepare_82 hl (k := 3) rfl (by rw [show Int32.ofInt 1 = nI 1 from rfl, nI_add]) (by decide) rfl (fun ls hl => ?_)
                  refine lv_goto (tgt := 4) hx hb dX5_prepare_85 (by decide) ?_
                  refine W.widen (k := 0) (n := 0) (Nat.le_of_ble_eq_true rfl) (Nat.le_of_ble_eq_true rfl) ?_
                  exact ihA (nn + 1) (fd + 1) (((fset (fset (w.1, u) 57 0 (aI 1 64 (upd g fd (shK fd)))) 58 0 (aI 1 8 (upd hh fd (shH fd))))).2) (upd g fd (shK fd)) (upd hh fd (shH fd)) H locs ls (by omega) (by omega) (by omega) (by omega) (pc_y (by omega) (by rw [← hT]; exact c_48) hfd) ((fset_ne (by decide)).trans fset_at) fset_at (fun k i q => ((fset_ne (by omega)).trans ((fset_ne (by omega)).trans (hufr k i q)))) (up_s hg rfl) (up_8 hh8) hP hS (lv_sub hl [0, 1, 4] rfl)
            · refine lv_iload_n hx hb dX5_prepare_24 rfl (lv_at hl 1 rfl) ?_
              refine fw_ieqB (tgt := 39) hx hb dX5_prepare_25 (by decide) (fun c_25 => ?_) (fun c_25 => ?_)
              · refine lv_iconst (v := 0) hx hb dX5_prepare_39 (by decide) ?_
                refine lv_istore_n (lv' := [(3, .int 0), (4, .int (nI (ii + 2))), (2, .int (nI nn)), (1, .int (nI fd)), (0, .ref (w.1 20 0))]) hx hb dX5_prepare_40 rfl hl (by decide) rfl (fun ls hl => ?_)
                refine lv_iinc (v := nI (ii + 2 + 1)) (lv' := [(4, .int (nI (ii + 2 + 1))), (3, .int 0), (2, .int (nI nn)), (1, .int (nI fd)), (0, .ref (w.1 20 0))]) hx hb dX5_prepare_41 hl (k := 1) rfl (by rw [show Int32.ofInt 1 = nI 1 from rfl, nI_add]) (by decide) rfl (fun ls hl => ?_)
                refine lv_goto (tgt := 15) hx hb dX5_prepare_44 (by decide) ?_
                refine W.widen (k := 0) (n := 0) (Nat.le_of_ble_eq_true rfl) (Nat.le_of_ble_eq_true rfl) ?_
                exact ihB (ii + 1) 0 H locs ls (by omega) (prI hn9 c_21) (all_s (P := fun j => (j + 2) * (j + 2) ≤ nn) hsq c_21) (b2i_f (by rw [prF, c_25]; rfl)) hP hS (lv_sub hl [0, 1, 2, 3, 4] rfl)
              · refine lv_iload_n hx hb dX5_prepare_28 rfl (lv_at hl 2 rfl) ?_
                refine lv_iload hx hb dX5_prepare_29 (lv_at hl 0 rfl) ?_
                refine fw_remN hx hb (by omega) (by omega) (by omega) dX5_prepare_31 ?_
                refine fw_ieqN (tgt := 39) hx hb (Nat.lt_of_le_of_lt (Nat.mod_le _ _) (by omega)) dX5_prepare_32 (by decide) (fun c_32 => ?_) (fun c_32 => ?_)
                · refine lv_iconst (v := 0) hx hb dX5_prepare_39 (by decide) ?_
                  refine lv_istore_n (lv' := [(3, .int 0), (4, .int (nI (ii + 2))), (2, .int (nI nn)), (1, .int (nI fd)), (0, .ref (w.1 20 0))]) hx hb dX5_prepare_40 rfl hl (by decide) rfl (fun ls hl => ?_)
                  refine lv_iinc (v := nI (ii + 2 + 1)) (lv' := [(4, .int (nI (ii + 2 + 1))), (3, .int 0), (2, .int (nI nn)), (1, .int (nI fd)), (0, .ref (w.1 20 0))]) hx hb dX5_prepare_41 hl (k := 1) rfl (by rw [show Int32.ofInt 1 = nI 1 from rfl, nI_add]) (by decide) rfl (fun ls hl => ?_)
                  refine lv_goto (tgt := 15) hx hb dX5_prepare_44 (by decide) ?_
                  refine W.widen (k := 0) (n := 0) (Nat.le_of_ble_eq_true rfl) (Nat.le_of_ble_eq_true rfl) ?_
                  exact ihB (ii + 1) 0 H locs ls (by omega) (prI hn9 c_21) (all_s (P := fun j => (j + 2) * (j + 2) ≤ nn) hsq c_21) (b2i_f (by rw [prF, decide_eq_false (fun q => q c_32), Bool.and_false])) hP hS (lv_sub hl [0, 1, 2, 3, 4] rfl)
                · refine lv_iconst (v := 1) hx hb dX5_prepare_35 (by decide) ?_
                  refine lv_goto (tgt := 40) hx hb dX5_prepare_36 (by decide) ?_
                  refine lv_istore_n (lv' := [(3, .int 1), (4, .int (nI (ii + 2))), (2, .int (nI nn)), (1, .int (nI fd)), (0, .ref (w.1 20 0))]) hx hb dX5_prepare_40 rfl hl (by decide) rfl (fun ls hl => ?_)
                  refine lv_iinc (v := nI (ii + 2 + 1)) (lv' := [(4, .int (nI (ii + 2 + 1))), (3, .int 1), (2, .int (nI nn)), (1, .int (nI fd)), (0, .ref (w.1 20 0))]) hx hb dX5_prepare_41 hl (k := 1) rfl (by rw [show Int32.ofInt 1 = nI 1 from rfl, nI_add]) (by decide) rfl (fun ls hl => ?_)
                  refine lv_goto (tgt := 15) hx hb dX5_prepare_44 (by decide) ?_
                  refine W.widen (k := 0) (n := 0) (Nat.le_of_ble_eq_true rfl) (Nat.le_of_ble_eq_true rfl) ?_
                  exact ihB (ii + 1) 1 H locs ls (by omega) (prI hn9 c_21) (all_s (P := fun j => (j + 2) * (j + 2) ≤ nn) hsq c_21) (b2i_t (by rw [prF, c_25, decide_eq_true c_32]; rfl)) hP hS (lv_sub hl [0, 1, 2, 3, 4] rfl)
        exact loopB 19 0 1 _ _ _ (by omega) (by omega) (fun j hj => absurd hj (Nat.not_lt_zero j)) rfl hP hS (lv_sub hl [0, 1, 2, 3, 4] rfl)
  exact loopA 313 2 0 w.2 f57 f58 _ _ _ (by omega) (by omega) (by omega) (by omega) (by decide) g57 g58 (fun _ _ _ => rfl) (fun j hj => absurd hj (Nat.not_lt_zero j)) (fun j hj => absurd hj (Nat.not_lt_zero j)) hP hS (lv_sub hl [0, 1, 2] rfl)
