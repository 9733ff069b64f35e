theorem fset_3 {w : FW} {k1 i1 k2 i2 : Nat} {a b c : FE} (h : k1 ≠ k2) : fset (fset (fset w k1 i1 a) k2 i2 b) k1 i1 c = fset (fset w k1 i1 c) k2 i2 b := by
  show (w.1, f2 (f2 (f2 w.2 k1 i1 (some a)) k2 i2 (some b)) k1 i1 (some c)) = (w.1, f2 (f2 w.2 k1 i1 (some c)) k2 i2 (some b))
  congr 1
  funext x y
  unfold f2
  by_cases h1 : x = k1
  · subst h1
    by_cases h2 : y = i1
    · simp [h, h2]
    · simp [h, h2]
  · simp [h1]
theorem rds_s (x : S8) (w : Nat → Int32) (t : Nat) : rds x w (t + 1) = rnd (rds x w t) (shK t) (w t) := rfl
theorem pd_t {y : Nat → Nat} {n i : Nat} {b : Int32} (h : i < n) (hb : b &&& 255 = nI (y i)) : b &&& nI 255 = pdb y n i := by
  unfold pdb
  rw [if_pos h]
  exact hb
theorem pd_e {y : Nat → Nat} {n i : Nat} (h : i = n) : nI 128 = pdb y n i := by
  unfold pdb
  rw [if_neg (by omega), if_pos h]
  rfl
theorem pd_f {y : Nat → Nat} {n i : Nat} (h : ¬ i < n) (h2 : i ≠ n) : nI 0 = pdb y n i := by
  unfold pdb
  rw [if_neg h, if_neg h2]
  rfl
theorem up_s {g : Nat → Int32} {P : Nat → Int32} {i : Nat} {v : Int32} (h : ∀ j, j < i → g j = P j) (hv : v = P i) : ∀ j, j < i + 1 → upd g i v j = P j := by
  intro j hj
  unfold upd
  by_cases e : j = i
  · rw [if_pos e, e]; exact hv
  · rw [if_neg e]; exact h j (by omega)
theorem sp_step {f z : Nat → Int32} {i : Nat} {v : Int32} (hz : ∀ j, j < 16 + i → z j = shSf f i j) (hv : v = shV z (16 + i)) : ∀ j, j < 16 + (i + 1) → upd z (16 + i) v j = shSf f (i + 1) j := by
  intro j hj
  show _ = upd (shSf f i) (16 + i) (shV (shSf f i) (16 + i)) j
  unfold upd
  by_cases e : j = 16 + i
  · rw [if_pos e, if_pos e, hv]
    unfold shV
    rw [hz _ (by omega), hz _ (by omega), hz _ (by omega), hz _ (by omega)]
  · rw [if_neg e, if_neg e]; exact hz j (by omega)
theorem s8_congr {f g : Nat → Int32} (h : ∀ j, j < 8 → f j = g j) : s8 f = s8 g := by
  unfold s8
  rw [h 0 (by omega), h 1 (by omega), h 2 (by omega), h 3 (by omega), h 4 (by omega), h 5 (by omega), h 6 (by omega), h 7 (by omega)]
set_option maxHeartbeats 4000000 in
set_option maxRecDepth 100000 in
theorem k_X1_turned (l : Launch) (Γ : FG) (w : FW) (v k : Int32) : Met l yX1_turned (ws_ yX1_turned cX1_turned 2 (some .int)) (rmD 0 0 0) (va_Pc [.int v, .int k] (fI Γ w)) (va_Qi (fun r w1 => r = trn v k ∧ w1 = w) (fI Γ) (fA Γ)) 0 0 (fA Γ) := by
  refine fw_met (by decide) (Nat.le_of_ble_eq_true rfl) ?_
  intro p e s m below meth c ls C hP hS hr hlk hin hl
  have C : fC p s m [.int v, .int k].toArray c cX1_turned 2 RX1 Γ := C
  have hx := C.1.1
  have hb := C.1.2.1
  have hl : lv_has ls 2 [(0, .int v), (1, .int k)] := hl
  refine lv_iload_n hx hb dX1_turned_0 rfl (lv_at hl 0 rfl) ?_
  refine lv_iload_n hx hb dX1_turned_1 rfl (lv_at hl 1 rfl) ?_
  refine lv_iushr (v := ush v k) hx hb dX1_turned_2 rfl ?_
  refine lv_iload_n hx hb dX1_turned_3 rfl (lv_at hl 0 rfl) ?_
  refine lv_bipush (v := 32) hx hb dX1_turned_4 (by decide) ?_
  refine lv_iload_n hx hb dX1_turned_6 rfl (lv_at hl 1 rfl) ?_
  refine lv_isub hx hb dX1_turned_7 ?_
  refine lv_ishl hx hb dX1_turned_8 ?_
  refine lv_ior hx hb dX1_turned_9 ?_
  exact fw_reti C hr hlk rfl hP hS (⟨rfl, rfl⟩) (Nat.le_of_ble_eq_true rfl) (Nat.le_of_ble_eq_true rfl) dX1_turned_10
set_option maxHeartbeats 4000000 in
set_option maxRecDepth 100000 in
theorem k_X1_paddedByte (l : Launch) (Γ : FG) (w : FW) (t n i nb : Nat) (b : Nat → Int32) (y : Nat → Nat) (hb0 : n ≤ nb) (hnb : nb < 2 ^ 31) (hi : i < 2 ^ 31) (hy : ∀ j, j < n → b j &&& 255 = nI (y j)) (h0 : w.2 12 t = some (aI 0 nb b)) : Met l yX1_paddedByte (ws_ yX1_paddedByte cX1_paddedByte 3 (some .int)) (rmD 0 0 0) (va_Pc [.ref (w.1 12 t), .int (nI n), .int (nI i)] (fI Γ w)) (va_Qi (fun r w1 => r = pdb y n i ∧ w1 = w) (fI Γ) (fA Γ)) 0 0 (fA Γ) := by
  refine fw_met (by decide) (Nat.le_of_ble_eq_true rfl) ?_
  intro p e s m below meth c ls C hP hS hr hlk hin hl
  have C : fC p s m [.ref (w.1 12 t), .int (nI n), .int (nI i)].toArray c cX1_paddedByte 3 RX1 Γ := C
  have hx := C.1.1
  have hb := C.1.2.1
  have hl : lv_has ls 3 [(0, .ref (w.1 12 t)), (1, .int (nI n)), (2, .int (nI i))] := hl
  refine lv_iload_n hx hb dX1_paddedByte_0 rfl (lv_at hl 2 rfl) ?_
  refine fw_iltN hx hb hi dX1_paddedByte_1 (tgt := 23) (by decide) ?_
  refine lv_iload_n hx hb dX1_paddedByte_4 rfl (lv_at hl 2 rfl) ?_
  refine lv_iload_n hx hb dX1_paddedByte_5 rfl (lv_at hl 1 rfl) ?_
  refine fw_geN (tgt := 23) hx hb (by omega) (by omega) dX1_paddedByte_6 (by decide) (fun c_6 => ?_) (fun c_6 => ?_)
  · refine lv_iload_n hx hb dX1_paddedByte_23 rfl (lv_at hl 2 rfl) ?_
    refine lv_iload_n hx hb dX1_paddedByte_24 rfl (lv_at hl 1 rfl) ?_
    refine fw_neN (tgt := 34) hx hb (by omega) (by omega) dX1_paddedByte_25 (by decide) (fun c_25 => ?_) (fun c_25 => ?_)
    · refine lv_iconst (v := nI 0) hx hb dX1_paddedByte_34 (by decide) ?_
      exact fw_reti C hr hlk rfl hP hS (⟨pd_f (by omega) c_25, rfl⟩) (Nat.le_of_ble_eq_true rfl) (Nat.le_of_ble_eq_true rfl) dX1_paddedByte_35
    · refine lv_sipush (v := nI 128) hx hb dX1_paddedByte_28 (by decide) ?_
      refine lv_goto (tgt := 35) hx hb dX1_paddedByte_31 (by decide) ?_
      exact fw_reti C hr hlk rfl hP hS (⟨pd_e c_25, rfl⟩) (Nat.le_of_ble_eq_true rfl) (Nat.le_of_ble_eq_true rfl) dX1_paddedByte_35
  · refine lv_iload_n hx hb dX1_paddedByte_9 rfl (lv_at hl 2 rfl) ?_
    refine lv_aload_n hx hb dX1_paddedByte_10 rfl (lv_at hl 0 rfl) ?_
    refine fw_alen C hP (by decide) h0 rfl dX1_paddedByte_11 ?_
    refine fw_geN (tgt := 23) hx hb (by omega) (by omega) dX1_paddedByte_12 (by decide) (fun c_12 => ?_) (fun c_12 => ?_)
    · exact absurd c_12 (by omega)
    · refine lv_aload_n hx hb dX1_paddedByte_15 rfl (lv_at hl 0 rfl) ?_
      refine lv_iload_n hx hb dX1_paddedByte_16 rfl (lv_at hl 2 rfl) ?_
      refine fw_bald C hP h0 rfl i rfl (by omega) (by omega) dX1_paddedByte_17 ?_
      refine lv_sipush (v := nI 255) hx hb dX1_paddedByte_18 (by decide) ?_
      refine lv_iand hx hb dX1_paddedByte_21 ?_
      exact fw_reti C hr hlk rfl hP hS (⟨pd_t c_6 (hy i c_6), rfl⟩) (Nat.le_of_ble_eq_true rfl) (Nat.le_of_ble_eq_true rfl) dX1_paddedByte_22
set_option maxHeartbeats 4000000 in
set_option maxRecDepth 100000 in
theorem k_X1_loadBlock (l : Launch) (Γ : FG) (w : FW) (t n : Nat) (b : Nat → Int32) (y : Nat → Nat) (hn : n ≤ 1000) (hy : ∀ j, j < n → b j &&& 255 = nI (y j)) (h12 : w.2 12 t = some (aI 0 1000 b)) (h7 : w.2 7 0 = some (oO 1 [.ref (w.1 8 0), .ref (w.1 9 0)])) (k : Nat) (hk : k < (n + 8) / 64 + 1) (g : Nat → Int32) (h9 : w.2 9 0 = some (aI 1 64 g)) : Met l yX1_loadBlock (ws_ yX1_loadBlock cX1_loadBlock 7 none) (rmD 1 0 0) (va_Pc [.ref (w.1 7 0), .ref (w.1 12 t), .int (nI n), .int (nI k), .int (nI ((n + 8) / 64 + 1))] (fI Γ w)) (va_Qv (fun w1 => ∃ z, w1 = fset w 9 0 (aI 1 64 z) ∧ ∀ j, j < 16 → z j = shW y n k j) (fI Γ) (fA Γ)) 0 0 (fA Γ) := by
  refine fw_met (by decide) (Nat.le_of_ble_eq_true rfl) ?_
  intro p e s m below meth c ls C hP hS hr hlk hin hl
  have C : fC p s m [.ref (w.1 7 0), .ref (w.1 12 t), .int (nI n), .int (nI k), .int (nI ((n + 8) / 64 + 1))].toArray c cX1_loadBlock 7 RX1 Γ := C
  have hx := C.1.1
  have hb := C.1.2.1
  have hl : lv_has ls 7 [(0, .ref (w.1 7 0)), (1, .ref (w.1 12 t)), (2, .int (nI n)), (3, .int (nI k)), (4, .int (nI ((n + 8) / 64 + 1)))] := hl
  refine lv_iconst (v := nI 0) hx hb dX1_loadBlock_0 (by decide) ?_
  refine lv_istore (lv' := [(5, .int (nI 0)), (0, .ref (w.1 7 0)), (1, .ref (w.1 12 t)), (2, .int (nI n)), (3, .int (nI k)), (4, .int (nI ((n + 8) / 64 + 1)))]) hx hb dX1_loadBlock_1 hl (by decide) rfl (fun ls hl => ?_)
  have hP : fP Γ (fset w 9 0 (aI 1 64 g)) s.heap := by rw [fset_id h9]; exact hP
  refine W.widen (k := 0) (n := 0) (Nat.le_of_ble_eq_true rfl) (Nat.le_of_ble_eq_true rfl) ?_
  have loop : ∀ (fu : Nat) (i : Nat) (z : Nat → Int32) (H : Heap) (locs : List Loc) (ls : Array Slot), 16 - i < fu → (i ≤ 16) → (∀ j, j < i → z j = wd4 (pdb y n) (k * 64 + 4 * j)) → fP Γ (fset w 9 0 (aI 1 64 z)) H → va_S (fA Γ) s.heap H locs → lv_has ls 7 [(5, .int (nI i)), (0, .ref (w.1 7 0)), (1, .ref (w.1 12 t)), (2, .int (nI n)), (3, .int (nI k)), (4, .int (nI ((n + 8) / 64 + 1)))] → W p l e (rmD 1 0 0) s m [.ref (w.1 7 0), .ref (w.1 12 t), .int (nI n), .int (nI k), .int (nI ((n + 8) / 64 + 1))].toArray below meth c H locs 0 0 (MQ below (va_Qv (fun w1 => ∃ z, w1 = fset w 9 0 (aI 1 64 z) ∧ ∀ j, j < 16 → z j = shW y n k j) (fI Γ) (fA Γ)) [.ref (w.1 7 0), .ref (w.1 12 t), .int (nI n), .int (nI k), .int (nI ((n + 8) / 64 + 1))].toArray s 0 0 (fA Γ)) (F0 m 3 ls []) := by
    intro fu
    induction fu with
    | zero =>
      intro i z H locs ls hf
      exact absurd hf (Nat.not_lt_zero _)
    | succ fu ih =>
      intro i z H locs ls hf hi hz hP hS hl
      refine lv_iload hx hb dX1_loadBlock_3 (lv_at hl 0 rfl) ?_
      refine lv_bipush (v := nI 16) hx hb dX1_loadBlock_5 (by decide) ?_
      refine fw_geN (tgt := 80) hx hb (by omega) (by omega) dX1_loadBlock_7 (by decide) (fun c_7 => ?_) (fun c_7 => ?_)
      · refine lv_iload_n hx hb dX1_loadBlock_80 rfl (lv_at hl 4 rfl) ?_
        refine lv_iload hx hb dX1_loadBlock_81 (lv_at hl 5 rfl) ?_
        refine lv_iconst (v := nI 1) hx hb dX1_loadBlock_83 (by decide) ?_
        refine fw_subN hx hb (by omega) dX1_loadBlock_84 ?_
        refine fw_neN (tgt := 99) hx hb (by omega) (by omega) dX1_loadBlock_85 (by decide) (fun c_85 => ?_) (fun c_85 => ?_)
        · exact fw_retv C hr hlk hP hS (⟨z, rfl, fun j hj => by rw [hz j (by omega), shW, if_neg (by omega)]⟩) (Nat.le_of_ble_eq_true rfl) (Nat.le_of_ble_eq_true rfl) dX1_loadBlock_99
        · refine lv_aload_n hx hb dX1_loadBlock_88 rfl (lv_at hl 1 rfl) ?_
          refine gf_X1_15 C hP ((fset_ne (by decide)).trans h7) rfl rfl dX1_loadBlock_89 ?_
          refine lv_bipush (v := nI 15) hx hb dX1_loadBlock_92 (by decide) ?_
          refine lv_iload_n hx hb dX1_loadBlock_94 rfl (lv_at hl 3 rfl) ?_
          refine lv_bipush (v := nI 8) hx hb dX1_loadBlock_95 (by decide) ?_
          refine fw_mulN hx hb dX1_loadBlock_97 ?_
          refine fw_iast C hP hS fset_at rfl 15 rfl (by omega) (by decide) dX1_loadBlock_98 (fun H locs hP hS => ?_)
          have hP : fP Γ (fset (fset w 9 0 (aI 1 64 z)) 9 0 (aI 1 64 (upd z 15 (nI (n * 8))))) H := hP
          rw [fset_s] at hP
          refine fw_retv C hr hlk hP hS ⟨_, rfl, fun j hj => ?_⟩ (Nat.le_of_ble_eq_true rfl) (Nat.le_of_ble_eq_true rfl) dX1_loadBlock_99
          rw [shW]
          unfold upd
          by_cases e : j = 15
          · rw [if_pos e, if_pos ⟨by omega, e⟩]
          · rw [if_neg e, if_neg (fun q => e q.2)]
            exact hz j (by omega)
      · refine lv_iload_n hx hb dX1_loadBlock_10 rfl (lv_at hl 4 rfl) ?_
        refine lv_bipush (v := nI 64) hx hb dX1_loadBlock_11 (by decide) ?_
        refine fw_mulN hx hb dX1_loadBlock_13 ?_
        refine lv_iconst (v := nI 4) hx hb dX1_loadBlock_14 (by decide) ?_
        refine lv_iload hx hb dX1_loadBlock_15 (lv_at hl 0 rfl) ?_
        refine fw_mulN hx hb dX1_loadBlock_17 ?_
        refine fw_addN hx hb dX1_loadBlock_18 ?_
        refine lv_istore (lv' := [(6, .int (nI (k * 64 + (4 * i)))), (5, .int (nI i)), (0, .ref (w.1 7 0)), (1, .ref (w.1 12 t)), (2, .int (nI n)), (3, .int (nI k)), (4, .int (nI ((n + 8) / 64 + 1)))]) hx hb dX1_loadBlock_19 hl (by decide) rfl (fun ls hl => ?_)
        refine lv_aload_n hx hb dX1_loadBlock_21 rfl (lv_at hl 2 rfl) ?_
        refine gf_X1_15 C hP ((fset_ne (by decide)).trans h7) rfl rfl dX1_loadBlock_22 ?_
        refine lv_iload hx hb dX1_loadBlock_25 (lv_at hl 1 rfl) ?_
        refine lv_aload_n hx hb dX1_loadBlock_27 rfl (lv_at hl 3 rfl) ?_
        refine lv_iload_n hx hb dX1_loadBlock_28 rfl (lv_at hl 4 rfl) ?_
        refine lv_iload hx hb dX1_loadBlock_29 (lv_at hl 0 rfl) ?_
        refine fw_ci0 (w := (fset w 9 0 (aI 1 64 z))) hS (fw_rS (rest := [.int (nI i), .ref (w.1 9 0)]) (As := [.ref (w.1 12 t), .int (nI n), .int (nI (k * 64 + (4 * i)))]) C hP hS wS_X1_35 (k_X1_paddedByte l Γ (fset w 9 0 (aI 1 64 z)) t n (k * 64 + (4 * i)) 1000 b y (by omega) (by decide) (by omega) hy ((fset_ne (by decide)).trans h12)) (fRm_mk rfl rfl (Nat.le_of_ble_eq_true rfl) (Nat.le_of_ble_eq_true rfl) (Nat.le_of_ble_eq_true rfl) (Nat.le_of_ble_eq_true rfl) (Nat.le_of_ble_eq_true rfl)) rfl hl.1 rfl dX1_loadBlock_31) (fun H locs hP hS => ?_)
        refine lv_bipush (v := 24) hx hb dX1_loadBlock_34 (by decide) ?_
        refine lv_ishl hx hb dX1_loadBlock_36 ?_
        refine lv_aload_n hx hb dX1_loadBlock_37 rfl (lv_at hl 3 rfl) ?_
        refine lv_iload_n hx hb dX1_loadBlock_38 rfl (lv_at hl 4 rfl) ?_
        refine lv_iload hx hb dX1_loadBlock_39 (lv_at hl 0 rfl) ?_
        refine lv_iconst (v := nI 1) hx hb dX1_loadBlock_41 (by decide) ?_
        refine fw_addN hx hb dX1_loadBlock_42 ?_
        refine fw_ci0 (w := (fset w 9 0 (aI 1 64 z))) hS (fw_rS (rest := [.int ((pdb y n (k * 64 + (4 * i))) <<< (24 &&& 31)), .int (nI i), .ref (w.1 9 0)]) (As := [.ref (w.1 12 t), .int (nI n), .int (nI (k * 64 + (4 * i) + 1))]) C hP hS wS_X1_35 (k_X1_paddedByte l Γ (fset w 9 0 (aI 1 64 z)) t n (k * 64 + (4 * i) + 1) 1000 b y (by omega) (by decide) (by omega) hy ((fset_ne (by decide)).trans h12)) (fRm_mk rfl rfl (Nat.le_of_ble_eq_true rfl) (Nat.le_of_ble_eq_true rfl) (Nat.le_of_ble_eq_true rfl) (Nat.le_of_ble_eq_true rfl) (Nat.le_of_ble_eq_true rfl)) rfl hl.1 rfl dX1_loadBlock_43) (fun H locs hP hS => ?_)
        refine lv_bipush (v := 16) hx hb dX1_loadBlock_46 (by decide) ?_
        refine lv_ishl hx hb dX1_loadBlock_48 ?_
        refine lv_ior hx hb dX1_loadBlock_49 ?_
        refine lv_aload_n hx hb dX1_loadBlock_50 rfl (lv_at hl 3 rfl) ?_
        refine lv_iload_n hx hb dX1_loadBlock_51 rfl (lv_at hl 4 rfl) ?_
        refine lv_iload hx hb dX1_loadBlock_52 (lv_at hl 0 rfl) ?_
        refine lv_iconst (v := nI 2) hx hb dX1_loadBlock_54 (by decide) ?_
        refine fw_addN hx hb dX1_loadBlock_55 ?_
        refine fw_ci0 (w := (fset w 9 0 (aI 1 64 z))) hS (fw_rS (rest := [.int (((pdb y n (k * 64 + (4 * i))) <<< (24 &&& 31)) ||| ((pdb y n (k * 64 + (4 * i) + 1)) <<< (16 &&& 31))), .int (nI i), .ref (w.1 9 0)]) (As := [.ref (w.1 12 t), .int (nI n), .int (nI (k * 64 + (4 * i) + 2))]) C hP hS wS_X1_35 (k_X1_paddedByte l Γ (fset w 9 0 (aI 1 64 z)) t n (k * 64 + (4 * i) + 2) 1000 b y (by omega) (by decide) (by omega) hy ((fset_ne (by decide)).trans h12)) (fRm_mk rfl rfl (Nat.le_of_ble_eq_true rfl) (Nat.le_of_ble_eq_true rfl) (Nat.le_of_ble_eq_true rfl) (Nat.le_of_ble_eq_true rfl) (Nat.le_of_ble_eq_true rfl)) rfl hl.1 rfl dX1_loadBlock_56) (fun H locs hP hS => ?_)
        refine lv_bipush (v := 8) hx hb dX1_loadBlock_59 (by decide) ?_
        refine lv_ishl hx hb dX1_loadBlock_61 ?_
        refine lv_ior hx hb dX1_loadBlock_62 ?_
        refine lv_aload_n hx hb dX1_loadBlock_63 rfl (lv_at hl 3 rfl) ?_
        refine lv_iload_n hx hb dX1_loadBlock_64 rfl (lv_at hl 4 rfl) ?_
        refine lv_iload hx hb dX1_loadBlock_65 (lv_at hl 0 rfl) ?_
        refine lv_iconst (v := nI 3) hx hb dX1_loadBlock_67 (by decide) ?_
        refine fw_addN hx hb dX1_loadBlock_68 ?_
        refine fw_ci0 (w := (fset w 9 0 (aI 1 64 z))) hS (fw_rS (rest := [.int ((((pdb y n (k * 64 + (4 * i))) <<< (24 &&& 31)) ||| ((pdb y n (k * 64 + (4 * i) + 1)) <<< (16 &&& 31))) ||| ((pdb y n (k * 64 + (4 * i) + 2)) <<< (8 &&& 31))), .int (nI i), .ref (w.1 9 0)]) (As := [.ref (w.1 12 t), .int (nI n), .int (nI (k * 64 + (4 * i) + 3))]) C hP hS wS_X1_35 (k_X1_paddedByte l Γ (fset w 9 0 (aI 1 64 z)) t n (k * 64 + (4 * i) + 3) 1000 b y (by omega) (by decide) (by omega) hy ((fset_ne (by decide)).trans h12)) (fRm_mk rfl rfl (Nat.le_of_ble_eq_true rfl) (Nat.le_of_ble_eq_true rfl) (Nat.le_of_ble_eq_true rfl) (Nat.le_of_ble_eq_true rfl) (Nat.le_of_ble_eq_true rfl)) rfl hl.1 rfl dX1_loadBlock_69) (fun H locs hP hS => ?_)
        refine lv_ior hx hb dX1_loadBlock_72 ?_
        refine fw_iast C hP hS fset_at rfl i rfl (by omega) (by decide) dX1_loadBlock_73 (fun H locs hP hS => ?_)
        have hP : fP Γ (fset (fset w 9 0 (aI 1 64 z)) 9 0 (aI 1 64 (upd z i (((((pdb y n (k * 64 + (4 * i))) <<< (24 &&& 31)) ||| ((pdb y n (k * 64 + (4 * i) + 1)) <<< (16 &&& 31))) ||| ((pdb y n (k * 64 + (4 * i) + 2)) <<< (8 &&& 31))) ||| (pdb y n (k * 64 + (4 * i) + 3)))))) H := hP
        rw [fset_s] at hP
        refine lv_iinc (v := nI (i + 1)) (lv' := [(5, .int (nI (i + 1))), (6, .int (nI (k * 64 + (4 * i)))), (0, .ref (w.1 7 0)), (1, .ref (w.1 12 t)), (2, .int (nI n)), (3, .int (nI k)), (4, .int (nI ((n + 8) / 64 + 1)))]) hx hb dX1_loadBlock_74 hl (k := 1) rfl (by rw [show Int32.ofInt 1 = nI 1 from rfl, nI_add]) (by decide) rfl (fun ls hl => ?_)
        refine lv_goto (tgt := 3) hx hb dX1_loadBlock_77 (by decide) ?_
        refine W.widen (k := 0) (n := 0) (Nat.le_of_ble_eq_true rfl) (Nat.le_of_ble_eq_true rfl) ?_
        exact ih (i + 1) (upd z i (((((pdb y n (k * 64 + (4 * i))) <<< (24 &&& 31)) ||| ((pdb y n (k * 64 + (4 * i) + 1)) <<< (16 &&& 31))) ||| ((pdb y n (k * 64 + (4 * i) + 2)) <<< (8 &&& 31))) ||| (pdb y n (k * 64 + (4 * i) + 3)))) H locs ls (by omega) (by omega) (up_s hz rfl) hP hS (lv_sub hl [0, 2, 3, 4, 5, 6] rfl)
  exact loop 17 0 g _ _ _ (by omega) (by omega) (fun j hj => absurd hj (Nat.not_lt_zero j)) hP hS (lv_sub hl [0, 1, 2, 3, 4, 5] rfl)
set_option maxHeartbeats 4000000 in
set_option maxRecDepth 100000 in
theorem k_X1_spreadBlock (l : Launch) (Γ : FG) (w : FW) (f : Nat → Int32) (h7 : w.2 7 0 = some (oO 1 [.ref (w.1 8 0), .ref (w.1 9 0)])) (h9 : w.2 9 0 = some (aI 1 64 f)) : Met l yX1_spreadBlock (ws_ yX1_spreadBlock cX1_spreadBlock 6 none) (rmD 1 0 0) (va_Pc [.ref (w.1 7 0)] (fI Γ w)) (va_Qv (fun w1 => ∃ z, w1 = fset w 9 0 (aI 1 64 z) ∧ ∀ j, j < 64 → z j = shSf f 48 j) (fI Γ) (fA Γ)) 0 0 (fA Γ) := by
  refine fw_met (by decide) (Nat.le_of_ble_eq_true rfl) ?_
  intro p e s m below meth c ls C hP hS hr hlk hin hl
  have C : fC p s m [.ref (w.1 7 0)].toArray c cX1_spreadBlock 6 RX1 Γ := C
  have hx := C.1.1
  have hb := C.1.2.1
  have hl : lv_has ls 6 [(0, .ref (w.1 7 0))] := hl
  refine lv_bipush (v := nI 16) hx hb dX1_spreadBlock_0 (by decide) ?_
  refine lv_istore_n (lv' := [(1, .int (nI 16)), (0, .ref (w.1 7 0))]) hx hb dX1_spreadBlock_2 rfl hl (by decide) rfl (fun ls hl => ?_)
  have hP : fP Γ (fset w 9 0 (aI 1 64 f)) s.heap := by rw [fset_id h9]; exact hP
  refine W.widen (k := 0) (n := 0) (Nat.le_of_ble_eq_true rfl) (Nat.le_of_ble_eq_true rfl) ?_
  have loop : ∀ (fu : Nat) (i : Nat) (z : Nat → Int32) (H : Heap) (locs : List Loc) (ls : Array Slot), 48 - i < fu → (i ≤ 48) → (∀ j, j < 16 + i → z j = shSf f i j) → fP Γ (fset w 9 0 (aI 1 64 z)) H → va_S (fA Γ) s.heap H locs → lv_has ls 6 [(1, .int (nI (16 + i))), (0, .ref (w.1 7 0))] → W p l e (rmD 1 0 0) s m [.ref (w.1 7 0)].toArray below meth c H locs 0 0 (MQ below (va_Qv (fun w1 => ∃ z, w1 = fset w 9 0 (aI 1 64 z) ∧ ∀ j, j < 64 → z j = shSf f 48 j) (fI Γ) (fA Γ)) [.ref (w.1 7 0)].toArray s 0 0 (fA Γ)) (F0 m 3 ls []) := by
    intro fu
    induction fu with
    | zero =>
      intro i z H locs ls hf
      exact absurd hf (Nat.not_lt_zero _)
    | succ fu ih =>
      intro i z H locs ls hf hi hz hP hS hl
      refine lv_iload_n hx hb dX1_spreadBlock_3 rfl (lv_at hl 0 rfl) ?_
      refine lv_bipush (v := nI 64) hx hb dX1_spreadBlock_4 (by decide) ?_
      refine fw_geN (tgt := 104) hx hb (by omega) (by omega) dX1_spreadBlock_6 (by decide) (fun c_6 => ?_) (fun c_6 => ?_)
      · exact fw_retv C hr hlk hP hS (⟨z, rfl, fun j hj => by rw [hz j (by omega), (by omega : i = 48)]⟩) (Nat.le_of_ble_eq_true rfl) (Nat.le_of_ble_eq_true rfl) dX1_spreadBlock_104
      · refine lv_aload_n hx hb dX1_spreadBlock_9 rfl (lv_at hl 1 rfl) ?_
        refine gf_X1_15 C hP ((fset_ne (by decide)).trans h7) rfl rfl dX1_spreadBlock_10 ?_
        refine lv_iload_n hx hb dX1_spreadBlock_13 rfl (lv_at hl 0 rfl) ?_
        refine lv_iconst (v := nI 2) hx hb dX1_spreadBlock_14 (by decide) ?_
        refine fw_subN hx hb (by omega) dX1_spreadBlock_15 ?_
        refine fw_iald C hP fset_at rfl ((16 + i) - 2) rfl (by omega) (by decide) dX1_spreadBlock_16 ?_
        refine lv_topi (fun x2_17 e_x2_17 => ?_)
        refine lv_istore_n (lv' := [(2, .int x2_17), (1, .int (nI (16 + i))), (0, .ref (w.1 7 0))]) hx hb dX1_spreadBlock_17 rfl hl (by decide) rfl (fun ls hl => ?_)
        refine lv_aload_n hx hb dX1_spreadBlock_18 rfl (lv_at hl 2 rfl) ?_
        refine gf_X1_15 C hP ((fset_ne (by decide)).trans h7) rfl rfl dX1_spreadBlock_19 ?_
        refine lv_iload_n hx hb dX1_spreadBlock_22 rfl (lv_at hl 1 rfl) ?_
        refine lv_bipush (v := nI 15) hx hb dX1_spreadBlock_23 (by decide) ?_
        refine fw_subN hx hb (by omega) dX1_spreadBlock_25 ?_
        refine fw_iald C hP fset_at rfl ((16 + i) - 15) rfl (by omega) (by decide) dX1_spreadBlock_26 ?_
        refine lv_topi (fun x3_27 e_x3_27 => ?_)
        refine lv_istore_n (lv' := [(3, .int x3_27), (2, .int x2_17), (1, .int (nI (16 + i))), (0, .ref (w.1 7 0))]) hx hb dX1_spreadBlock_27 rfl hl (by decide) rfl (fun ls hl => ?_)
        refine lv_iload_n hx hb dX1_spreadBlock_28 rfl (lv_at hl 1 rfl) ?_
        refine lv_bipush (v := 17) hx hb dX1_spreadBlock_29 (by decide) ?_
        refine fw_ci0 (w := (fset w 9 0 (aI 1 64 z))) hS (fw_rS (rest := []) (As := [.int x2_17, .int 17]) C hP hS wS_X1_39 (k_X1_turned l Γ (fset w 9 0 (aI 1 64 z)) x2_17 17) (fRm_mk rfl rfl (Nat.le_of_ble_eq_true rfl) (Nat.le_of_ble_eq_true rfl) (Nat.le_of_ble_eq_true rfl) (Nat.le_of_ble_eq_true rfl) (Nat.le_of_ble_eq_true rfl)) rfl hl.1 rfl dX1_spreadBlock_31) (fun H locs hP hS => ?_)
        refine lv_iload_n hx hb dX1_spreadBlock_34 rfl (lv_at hl 1 rfl) ?_
        refine lv_bipush (v := 19) hx hb dX1_spreadBlock_35 (by decide) ?_
        refine fw_ci0 (w := (fset w 9 0 (aI 1 64 z))) hS (fw_rS (rest := [.int (trn x2_17 17)]) (As := [.int x2_17, .int 19]) C hP hS wS_X1_39 (k_X1_turned l Γ (fset w 9 0 (aI 1 64 z)) x2_17 19) (fRm_mk rfl rfl (Nat.le_of_ble_eq_true rfl) (Nat.le_of_ble_eq_true rfl) (Nat.le_of_ble_eq_true rfl) (Nat.le_of_ble_eq_true rfl) (Nat.le_of_ble_eq_true rfl)) rfl hl.1 rfl dX1_spreadBlock_37) (fun H locs hP hS => ?_)
        refine lv_ixor hx hb dX1_spreadBlock_40 ?_
        refine lv_iload_n hx hb dX1_spreadBlock_41 rfl (lv_at hl 1 rfl) ?_
        refine lv_bipush (v := 10) hx hb dX1_spreadBlock_42 (by decide) ?_
        refine lv_iushr (v := ush x2_17 10) hx hb dX1_spreadBlock_44 rfl ?_
        refine lv_ixor hx hb dX1_spreadBlock_45 ?_
        refine lv_topi (fun x4_46 e_x4_46 => ?_)
        refine lv_istore (lv' := [(4, .int x4_46), (3, .int x3_27), (2, .int x2_17), (1, .int (nI (16 + i))), (0, .ref (w.1 7 0))]) hx hb dX1_spreadBlock_46 hl (by decide) rfl (fun ls hl => ?_)
        refine lv_iload_n hx hb dX1_spreadBlock_48 rfl (lv_at hl 1 rfl) ?_
        refine lv_bipush (v := 7) hx hb dX1_spreadBlock_49 (by decide) ?_
        refine fw_ci0 (w := (fset w 9 0 (aI 1 64 z))) hS (fw_rS (rest := []) (As := [.int x3_27, .int 7]) C hP hS wS_X1_39 (k_X1_turned l Γ (fset w 9 0 (aI 1 64 z)) x3_27 7) (fRm_mk rfl rfl (Nat.le_of_ble_eq_true rfl) (Nat.le_of_ble_eq_true rfl) (Nat.le_of_ble_eq_true rfl) (Nat.le_of_ble_eq_true rfl) (Nat.le_of_ble_eq_true rfl)) rfl hl.1 rfl dX1_spreadBlock_51) (fun H locs hP hS => ?_)
        refine lv_iload_n hx hb dX1_spreadBlock_54 rfl (lv_at hl 1 rfl) ?_
        refine lv_bipush (v := 18) hx hb dX1_spreadBlock_55 (by decide) ?_
        refine fw_ci0 (w := (fset w 9 0 (aI 1 64 z))) hS (fw_rS (rest := [.int (trn x3_27 7)]) (As := [.int x3_27, .int 18]) C hP hS wS_X1_39 (k_X1_turned l Γ (fset w 9 0 (aI 1 64 z)) x3_27 18) (fRm_mk rfl rfl (Nat.le_of_ble_eq_true rfl) (Nat.le_of_ble_eq_true rfl) (Nat.le_of_ble_eq_true rfl) (Nat.le_of_ble_eq_true rfl) (Nat.le_of_ble_eq_true rfl)) rfl hl.1 rfl dX1_spreadBlock_57) (fun H locs hP hS => ?_)
        refine lv_ixor hx hb dX1_spreadBlock_60 ?_
        refine lv_iload_n hx hb dX1_spreadBlock_61 rfl (lv_at hl 1 rfl) ?_
        refine lv_iconst (v := 3) hx hb dX1_spreadBlock_62 (by decide) ?_
        refine lv_iushr (v := ush x3_27 3) hx hb dX1_spreadBlock_63 rfl ?_
        refine lv_ixor hx hb dX1_spreadBlock_64 ?_
        refine lv_topi (fun x5_65 e_x5_65 => ?_)
        refine lv_istore (lv' := [(5, .int x5_65), (4, .int x4_46), (3, .int x3_27), (2, .int x2_17), (1, .int (nI (16 + i))), (0, .ref (w.1 7 0))]) hx hb dX1_spreadBlock_65 hl (by decide) rfl (fun ls hl => ?_)
        refine lv_aload_n hx hb dX1_spreadBlock_67 rfl (lv_at hl 5 rfl) ?_
        refine gf_X1_15 C hP ((fset_ne (by decide)).trans h7) rfl rfl dX1_spreadBlock_68 ?_
        refine lv_iload_n hx hb dX1_spreadBlock_71 rfl (lv_at hl 4 rfl) ?_
        refine lv_iload hx hb dX1_spreadBlock_72 (lv_at hl 1 rfl) ?_
        refine lv_aload_n hx hb dX1_spreadBlock_74 rfl (lv_at hl 5 rfl) ?_
        refine gf_X1_15 C hP ((fset_ne (by decide)).trans h7) rfl rfl dX1_spreadBlock_75 ?_
        refine lv_iload_n hx hb dX1_spreadBlock_78 rfl (lv_at hl 4 rfl) ?_
        refine lv_bipush (v := nI 7) hx hb dX1_spreadBlock_79 (by decide) ?_
        refine fw_subN hx hb (by omega) dX1_spreadBlock_81 ?_
        refine fw_iald C hP fset_at rfl ((16 + i) - 7) rfl (by omega) (by decide) dX1_spreadBlock_82 ?_
        refine lv_iadd hx hb dX1_spreadBlock_83 ?_
        refine lv_iload hx hb dX1_spreadBlock_84 (lv_at hl 0 rfl) ?_
        refine lv_iadd hx hb dX1_spreadBlock_86 ?_
        refine lv_aload_n hx hb dX1_spreadBlock_87 rfl (lv_at hl 5 rfl) ?_
        refine gf_X1_15 C hP ((fset_ne (by decide)).trans h7) rfl rfl dX1_spreadBlock_88 ?_
        refine lv_iload_n hx hb dX1_spreadBlock_91 rfl (lv_at hl 4 rfl) ?_
        refine lv_bipush (v := nI 16) hx hb dX1_spreadBlock_92 (by decide) ?_
        refine fw_subN hx hb (by omega) dX1_spreadBlock_94 ?_
        refine fw_iald C hP fset_at rfl ((16 + i) - 16) rfl (by omega) (by decide) dX1_spreadBlock_95 ?_
        refine lv_iadd hx hb dX1_spreadBlock_96 ?_
        refine fw_iast C hP hS fset_at rfl (16 + i) rfl (by omega) (by decide) dX1_spreadBlock_97 (fun H locs hP hS => ?_)
        have hP : fP Γ (fset (fset w 9 0 (aI 1 64 z)) 9 0 (aI 1 64 (upd z (16 + i) (((x4_46 + (z ((16 + i) - 7))) + x5_65) + (z ((16 + i) - 16)))))) H := hP
        rw [fset_s] at hP
        refine lv_iinc (v := nI (16 + i + 1)) (lv' := [(1, .int (nI (16 + i + 1))), (5, .int x5_65), (4, .int x4_46), (3, .int x3_27), (2, .int x2_17), (0, .ref (w.1 7 0))]) hx hb dX1_spreadBlock_98 hl (k := 4) rfl (by rw [show Int32.ofInt 1 = nI 1 from rfl, nI_add]) (by decide) rfl (fun ls hl => ?_)
        refine lv_goto (tgt := 3) hx hb dX1_spreadBlock_101 (by decide) ?_
        refine W.widen (k := 0) (n := 0) (Nat.le_of_ble_eq_true rfl) (Nat.le_of_ble_eq_true rfl) ?_
        exact ih (i + 1) (upd z (16 + i) (((x4_46 + (z ((16 + i) - 7))) + x5_65) + (z ((16 + i) - 16)))) H locs ls (by omega) (by omega) (sp_step hz (by rw [e_x4_46, e_x5_65, e_x2_17, e_x3_27]; rfl)) hP hS (lv_sub hl [0, 5] rfl)
  exact loop 49 0 f _ _ _ (by omega) (by omega) (fun j hj => rfl) hP hS (lv_sub hl [0, 1] rfl)
theorem mx_step {f g : Nat → Int32} {a b c d e f2v g2 h n1 n5 : Int32} {i : Nat} (hz : (a, b, c, d, e, f2v, g2, h) = rds (s8 f) g i) (h1 : n1 = rd1 e f2v g2 h (shK i) (g i) + bs0 a + mjx a b c) (h5 : n5 = d + rd1 e f2v g2 h (shK i) (g i)) : (n1, a, b, c, n5, e, f2v, g2) = rds (s8 f) g (i + 1) := by
  rw [rds_s, ← hz, h1, h5]
  rfl
set_option maxHeartbeats 4000000 in
set_option maxRecDepth 100000 in
theorem k_X1_mixBlock (l : Launch) (Γ : FG) (w : FW) (f g : Nat → Int32) (h7 : w.2 7 0 = some (oO 1 [.ref (w.1 8 0), .ref (w.1 9 0)])) (h8 : w.2 8 0 = some (aI 1 8 f)) (h9 : w.2 9 0 = some (aI 1 64 g)) : Met l yX1_mixBlock (ws_ yX1_mixBlock cX1_mixBlock 15 none) (rmD 1 0 0) (va_Pc [.ref (w.1 7 0)] (fI Γ w)) (va_Qv (fun w1 => ∃ z, w1 = fset w 8 0 (aI 1 8 z) ∧ ∀ j, j < 8 → z j = f j + at8 (rds (s8 f) g 64) j) (fI Γ) (fA Γ)) 0 0 (fA Γ) := by
  refine fw_met (by decide) (Nat.le_of_ble_eq_true rfl) ?_
  intro p e s m below meth c ls C hP hS hr hlk hin hl
  have C : fC p s m [.ref (w.1 7 0)].toArray c cX1_mixBlock 15 RX1 Γ := C
  have hx := C.1.1
  have hb := C.1.2.1
  have hl : lv_has ls 15 [(0, .ref (w.1 7 0))] := hl
  refine lv_aload_n hx hb dX1_mixBlock_0 rfl (lv_at hl 0 rfl) ?_
  refine gf_X1_9 C hP h7 rfl rfl dX1_mixBlock_1 ?_
  refine lv_iconst (v := nI 0) hx hb dX1_mixBlock_4 (by decide) ?_
  refine fw_iald C hP h8 rfl 0 rfl (by omega) (by decide) dX1_mixBlock_5 ?_
  refine lv_istore_n (lv' := [(1, .int (f 0)), (0, .ref (w.1 7 0))]) hx hb dX1_mixBlock_6 rfl hl (by decide) rfl (fun ls hl => ?_)
  refine lv_aload_n hx hb dX1_mixBlock_7 rfl (lv_at hl 1 rfl) ?_
  refine gf_X1_9 C hP h7 rfl rfl dX1_mixBlock_8 ?_
  refine lv_iconst (v := nI 1) hx hb dX1_mixBlock_11 (by decide) ?_
  refine fw_iald C hP h8 rfl 1 rfl (by omega) (by decide) dX1_mixBlock_12 ?_
  refine lv_istore_n (lv' := [(2, .int (f 1)), (1, .int (f 0)), (0, .ref (w.1 7 0))]) hx hb dX1_mixBlock_13 rfl hl (by decide) rfl (fun ls hl => ?_)
  refine lv_aload_n hx hb dX1_mixBlock_14 rfl (lv_at hl 2 rfl) ?_
  refine gf_X1_9 C hP h7 rfl rfl dX1_mixBlock_15 ?_
  refine lv_iconst (v := nI 2) hx hb dX1_mixBlock_18 (by decide) ?_
  refine fw_iald C hP h8 rfl 2 rfl (by omega) (by decide) dX1_mixBlock_19 ?_
  refine lv_istore_n (lv' := [(3, .int (f 2)), (2, .int (f 1)), (1, .int (f 0)), (0, .ref (w.1 7 0))]) hx hb dX1_mixBlock_20 rfl hl (by decide) rfl (fun ls hl => ?_)
  refine lv_aload_n hx hb dX1_mixBlock_21 rfl (lv_at hl 3 rfl) ?_
  refine gf_X1_9 C hP h7 rfl rfl dX1_mixBlock_22 ?_
  refine lv_iconst (v := nI 3) hx hb dX1_mixBlock_25 (by decide) ?_
  refine fw_iald C hP h8 rfl 3 rfl (by omega) (by decide) dX1_mixBlock_26 ?_
  refine lv_istore (lv' := [(4, .int (f 3)), (3, .int (f 2)), (2, .int (f 1)), (1, .int (f 0)), (0, .ref (w.1 7 0))]) hx hb dX1_mixBlock_27 hl (by decide) rfl (fun ls hl => ?_)
  refine lv_aload_n hx hb dX1_mixBlock_29 rfl (lv_at hl 4 rfl) ?_
  refine gf_X1_9 C hP h7 rfl rfl dX1_mixBlock_30 ?_
  refine lv_iconst (v := nI 4) hx hb dX1_mixBlock_33 (by decide) ?_
  refine fw_iald C hP h8 rfl 4 rfl (by omega) (by decide) dX1_mixBlock_34 ?_
  refine lv_istore (lv' := [(5, .int (f 4)), (4, .int (f 3)), (3, .int (f 2)), (2, .int (f 1)), (1, .int (f 0)), (0, .ref (w.1 7 0))]) hx hb dX1_mixBlock_35 hl (by decide) rfl (fun ls hl => ?_)
  refine lv_aload_n hx hb dX1_mixBlock_37 rfl (lv_at hl 5 rfl) ?_
  refine gf_X1_9 C hP h7 rfl rfl dX1_mixBlock_38 ?_
  refine lv_iconst (v := nI 5) hx hb dX1_mixBlock_41 (by decide) ?_
  refine fw_iald C hP h8 rfl 5 rfl (by omega) (by decide) dX1_mixBlock_42 ?_
  refine lv_istore (lv' := [(6, .int (f 5)), (5, .int (f 4)), (4, .int (f 3)), (3, .int (f 2)), (2, .int (f 1)), (1, .int (f 0)), (0, .ref (w.1 7 0))]) hx hb dX1_mixBlock_43 hl (by decide) rfl (fun ls hl => ?_)
  refine lv_aload_n hx hb dX1_mixBlock_45 rfl (lv_at hl 6 rfl) ?_
  refine gf_X1_9 C hP h7 rfl rfl dX1_mixBlock_46 ?_
  refine lv_bipush (v := nI 6) hx hb dX1_mixBlock_49 (by decide) ?_
  refine fw_iald C hP h8 rfl 6 rfl (by omega) (by decide) dX1_mixBlock_51 ?_
  refine lv_istore (lv' := [(7, .int (f 6)), (6, .int (f 5)), (5, .int (f 4)), (4, .int (f 3)), (3, .int (f 2)), (2, .int (f 1)), (1, .int (f 0)), (0, .ref (w.1 7 0))]) hx hb dX1_mixBlock_52 hl (by decide) rfl (fun ls hl => ?_)
  refine lv_aload_n hx hb dX1_mixBlock_54 rfl (lv_at hl 7 rfl) ?_
  refine gf_X1_9 C hP h7 rfl rfl dX1_mixBlock_55 ?_
  refine lv_bipush (v := nI 7) hx hb dX1_mixBlock_58 (by decide) ?_
  refine fw_iald C hP h8 rfl 7 rfl (by omega) (by decide) dX1_mixBlock_60 ?_
  refine lv_istore (lv' := [(8, .int (f 7)), (7, .int (f 6)), (6, .int (f 5)), (5, .int (f 4)), (4, .int (f 3)), (3, .int (f 2)), (2, .int (f 1)), (1, .int (f 0)), (0, .ref (w.1 7 0))]) hx hb dX1_mixBlock_61 hl (by decide) rfl (fun ls hl => ?_)
  refine lv_iconst (v := nI 0) hx hb dX1_mixBlock_63 (by decide) ?_
  refine lv_istore (lv' := [(9, .int (nI 0)), (8, .int (f 7)), (7, .int (f 6)), (6, .int (f 5)), (5, .int (f 4)), (4, .int (f 3)), (3, .int (f 2)), (2, .int (f 1)), (1, .int (f 0)), (0, .ref (w.1 7 0))]) hx hb dX1_mixBlock_64 hl (by decide) rfl (fun ls hl => ?_)
  refine W.widen (k := 0) (n := 0) (Nat.le_of_ble_eq_true rfl) (Nat.le_of_ble_eq_true rfl) ?_
  have loop : ∀ (fu : Nat) (i : Nat) (a b c2 d e2 f2v g2 h2 : Int32) (H : Heap) (locs : List Loc) (ls : Array Slot), 64 - i < fu → (i ≤ 64) → ((a, b, c2, d, e2, f2v, g2, h2) = rds (s8 f) g i) → fP Γ w H → va_S (fA Γ) s.heap H locs → lv_has ls 15 [(9, .int (nI i)), (1, .int a), (2, .int b), (3, .int c2), (4, .int d), (5, .int e2), (6, .int f2v), (7, .int g2), (8, .int h2), (0, .ref (w.1 7 0))] → W p l e (rmD 1 0 0) s m [.ref (w.1 7 0)].toArray below meth c H locs 0 0 (MQ below (va_Qv (fun w1 => ∃ z, w1 = fset w 8 0 (aI 1 8 z) ∧ ∀ j, j < 8 → z j = f j + at8 (rds (s8 f) g 64) j) (fI Γ) (fA Γ)) [.ref (w.1 7 0)].toArray s 0 0 (fA Γ)) (F0 m 66 ls []) := by
    intro fu
    induction fu with
    | zero =>
      intro i a b c2 d e2 f2v g2 h2 H locs ls hf
      exact absurd hf (Nat.not_lt_zero _)
    | succ fu ih =>
      intro i a b c2 d e2 f2v g2 h2 H locs ls hf hi hz hP hS hl
      refine lv_iload hx hb dX1_mixBlock_66 (lv_at hl 0 rfl) ?_
      refine lv_bipush (v := nI 64) hx hb dX1_mixBlock_68 (by decide) ?_
      refine fw_geN (tgt := 213) hx hb (by omega) (by omega) dX1_mixBlock_70 (by decide) (fun c_70 => ?_) (fun c_70 => ?_)
      · refine lv_aload_n hx hb dX1_mixBlock_213 rfl (lv_at hl 9 rfl) ?_
        refine gf_X1_9 C hP h7 rfl rfl dX1_mixBlock_214 ?_
        refine lv_iconst (v := nI 0) hx hb dX1_mixBlock_217 (by decide) ?_
        refine lv_dup2_11 hx hb dX1_mixBlock_218 rfl rfl ?_
        refine fw_iald C hP h8 rfl 0 rfl (by omega) (by decide) dX1_mixBlock_219 ?_
        refine fw_E (show f 0 = f 0 from rfl) ?_
        refine lv_iload_n hx hb dX1_mixBlock_220 rfl (lv_at hl 1 rfl) ?_
        refine lv_iadd hx hb dX1_mixBlock_221 ?_
        refine fw_iast C hP hS h8 rfl 0 rfl (by omega) (by decide) dX1_mixBlock_222 (fun H locs hP hS => ?_)
        have hP : fP Γ (fset w 8 0 (aI 1 8 (upd f 0 ((f 0) + a)))) H := hP
        refine lv_aload_n hx hb dX1_mixBlock_223 rfl (lv_at hl 9 rfl) ?_
        refine gf_X1_9 C hP ((fset_ne (by decide)).trans h7) rfl rfl dX1_mixBlock_224 ?_
        refine lv_iconst (v := nI 1) hx hb dX1_mixBlock_227 (by decide) ?_
        refine lv_dup2_11 hx hb dX1_mixBlock_228 rfl rfl ?_
        refine fw_iald C hP fset_at rfl 1 rfl (by omega) (by decide) dX1_mixBlock_229 ?_
        refine fw_E (show (upd f 0 ((f 0) + a)) 1 = f 1 from rfl) ?_
        refine lv_iload_n hx hb dX1_mixBlock_230 rfl (lv_at hl 2 rfl) ?_
        refine lv_iadd hx hb dX1_mixBlock_231 ?_
        refine fw_iast C hP hS fset_at rfl 1 rfl (by omega) (by decide) dX1_mixBlock_232 (fun H locs hP hS => ?_)
        have hP : fP Γ (fset (fset w 8 0 (aI 1 8 (upd f 0 ((f 0) + a)))) 8 0 (aI 1 8 (upd (upd f 0 ((f 0) + a)) 1 ((f 1) + b)))) H := hP
        rw [fset_s] at hP
        refine lv_aload_n hx hb dX1_mixBlock_233 rfl (lv_at hl 9 rfl) ?_
        refine gf_X1_9 C hP ((fset_ne (by decide)).trans h7) rfl rfl dX1_mixBlock_234 ?_
        refine lv_iconst (v := nI 2) hx hb dX1_mixBlock_237 (by decide) ?_
        refine lv_dup2_11 hx hb dX1_mixBlock_238 rfl rfl ?_
        refine fw_iald C hP fset_at rfl 2 rfl (by omega) (by decide) dX1_mixBlock_239 ?_
        refine fw_E (show (upd (upd f 0 ((f 0) + a)) 1 ((f 1) + b)) 2 = f 2 from rfl) ?_
        refine lv_iload_n hx hb dX1_mixBlock_240 rfl (lv_at hl 3 rfl) ?_
        refine lv_iadd hx hb dX1_mixBlock_241 ?_
        refine fw_iast C hP hS fset_at rfl 2 rfl (by omega) (by decide) dX1_mixBlock_242 (fun H locs hP hS => ?_)
        have hP : fP Γ (fset (fset w 8 0 (aI 1 8 (upd (upd f 0 ((f 0) + a)) 1 ((f 1) + b)))) 8 0 (aI 1 8 (upd (upd (upd f 0 ((f 0) + a)) 1 ((f 1) + b)) 2 ((f 2) + c2)))) H := hP
        rw [fset_s] at hP
        refine lv_aload_n hx hb dX1_mixBlock_243 rfl (lv_at hl 9 rfl) ?_
        refine gf_X1_9 C hP ((fset_ne (by decide)).trans h7) rfl rfl dX1_mixBlock_244 ?_
        refine lv_iconst (v := nI 3) hx hb dX1_mixBlock_247 (by decide) ?_
        refine lv_dup2_11 hx hb dX1_mixBlock_248 rfl rfl ?_
        refine fw_iald C hP fset_at rfl 3 rfl (by omega) (by decide) dX1_mixBlock_249 ?_
        refine fw_E (show (upd (upd (upd f 0 ((f 0) + a)) 1 ((f 1) + b)) 2 ((f 2) + c2)) 3 = f 3 from rfl) ?_
        refine lv_iload hx hb dX1_mixBlock_250 (lv_at hl 4 rfl) ?_
        refine lv_iadd hx hb dX1_mixBlock_252 ?_
        refine fw_iast C hP hS fset_at rfl 3 rfl (by omega) (by decide) dX1_mixBlock_253 (fun H locs hP hS => ?_)
        have hP : fP Γ (fset (fset w 8 0 (aI 1 8 (upd (upd (upd f 0 ((f 0) + a)) 1 ((f 1) + b)) 2 ((f 2) + c2)))) 8 0 (aI 1 8 (upd (upd (upd (upd f 0 ((f 0) + a)) 1 ((f 1) + b)) 2 ((f 2) + c2)) 3 ((f 3) + d)))) H := hP
        rw [fset_s] at hP
        refine lv_aload_n hx hb dX1_mixBlock_254 rfl (lv_at hl 9 rfl) ?_
        refine gf_X1_9 C hP ((fset_ne (by decide)).trans h7) rfl rfl dX1_mixBlock_255 ?_
        refine lv_iconst (v := nI 4) hx hb dX1_mixBlock_258 (by decide) ?_
        refine lv_dup2_11 hx hb dX1_mixBlock_259 rfl rfl ?_
        refine fw_iald C hP fset_at rfl 4 rfl (by omega) (by decide) dX1_mixBlock_260 ?_
        refine fw_E (show (upd (upd (upd (upd f 0 ((f 0) + a)) 1 ((f 1) + b)) 2 ((f 2) + c2)) 3 ((f 3) + d)) 4 = f 4 from rfl) ?_
        refine lv_iload hx hb dX1_mixBlock_261 (lv_at hl 5 rfl) ?_
        refine lv_iadd hx hb dX1_mixBlock_263 ?_
        refine fw_iast C hP hS fset_at rfl 4 rfl (by omega) (by decide) dX1_mixBlock_264 (fun H locs hP hS => ?_)
        have hP : fP Γ (fset (fset w 8 0 (aI 1 8 (upd (upd (upd (upd f 0 ((f 0) + a)) 1 ((f 1) + b)) 2 ((f 2) + c2)) 3 ((f 3) + d)))) 8 0 (aI 1 8 (upd (upd (upd (upd (upd f 0 ((f 0) + a)) 1 ((f 1) + b)) 2 ((f 2) + c2)) 3 ((f 3) + d)) 4 ((f 4) + e2)))) H := hP
        rw [fset_s] at hP
        refine lv_aload_n hx hb dX1_mixBlock_265 rfl (lv_at hl 9 rfl) ?_
        refine gf_X1_9 C hP ((fset_ne (by decide)).trans h7) rfl rfl dX1_mixBlock_266 ?_
        refine lv_iconst (v := nI 5) hx hb dX1_mixBlock_269 (by decide) ?_
        refine lv_dup2_11 hx hb dX1_mixBlock_270 rfl rfl ?_
        refine fw_iald C hP fset_at rfl 5 rfl (by omega) (by decide) dX1_mixBlock_271 ?_
        refine fw_E (show (upd (upd (upd (upd (upd f 0 ((f 0) + a)) 1 ((f 1) + b)) 2 ((f 2) + c2)) 3 ((f 3) + d)) 4 ((f 4) + e2)) 5 = f 5 from rfl) ?_
        refine lv_iload hx hb dX1_mixBlock_272 (lv_at hl 6 rfl) ?_
        refine lv_iadd hx hb dX1_mixBlock_274 ?_
        refine fw_iast C hP hS fset_at rfl 5 rfl (by omega) (by decide) dX1_mixBlock_275 (fun H locs hP hS => ?_)
        have hP : fP Γ (fset (fset w 8 0 (aI 1 8 (upd (upd (upd (upd (upd f 0 ((f 0) + a)) 1 ((f 1) + b)) 2 ((f 2) + c2)) 3 ((f 3) + d)) 4 ((f 4) + e2)))) 8 0 (aI 1 8 (upd (upd (upd (upd (upd (upd f 0 ((f 0) + a)) 1 ((f 1) + b)) 2 ((f 2) + c2)) 3 ((f 3) + d)) 4 ((f 4) + e2)) 5 ((f 5) + f2v)))) H := hP
        rw [fset_s] at hP
        refine lv_aload_n hx hb dX1_mixBlock_276 rfl (lv_at hl 9 rfl) ?_
        refine gf_X1_9 C hP ((fset_ne (by decide)).trans h7) rfl rfl dX1_mixBlock_277 ?_
        refine lv_bipush (v := nI 6) hx hb dX1_mixBlock_280 (by decide) ?_
        refine lv_dup2_11 hx hb dX1_mixBlock_282 rfl rfl ?_
        refine fw_iald C hP fset_at rfl 6 rfl (by omega) (by decide) dX1_mixBlock_283 ?_
        refine fw_E (show (upd (upd (upd (upd (upd (upd f 0 ((f 0) + a)) 1 ((f 1) + b)) 2 ((f 2) + c2)) 3 ((f 3) + d)) 4 ((f 4) + e2)) 5 ((f 5) + f2v)) 6 = f 6 from rfl) ?_
        refine lv_iload hx hb dX1_mixBlock_284 (lv_at hl 7 rfl) ?_
        refine lv_iadd hx hb dX1_mixBlock_286 ?_
        refine fw_iast C hP hS fset_at rfl 6 rfl (by omega) (by decide) dX1_mixBlock_287 (fun H locs hP hS => ?_)
        have hP : fP Γ (fset (fset w 8 0 (aI 1 8 (upd (upd (upd (upd (upd (upd f 0 ((f 0) + a)) 1 ((f 1) + b)) 2 ((f 2) + c2)) 3 ((f 3) + d)) 4 ((f 4) + e2)) 5 ((f 5) + f2v)))) 8 0 (aI 1 8 (upd (upd (upd (upd (upd (upd (upd f 0 ((f 0) + a)) 1 ((f 1) + b)) 2 ((f 2) + c2)) 3 ((f 3) + d)) 4 ((f 4) + e2)) 5 ((f 5) + f2v)) 6 ((f 6) + g2)))) H := hP
        rw [fset_s] at hP
        refine lv_aload_n hx hb dX1_mixBlock_288 rfl (lv_at hl 9 rfl) ?_
        refine gf_X1_9 C hP ((fset_ne (by decide)).trans h7) rfl rfl dX1_mixBlock_289 ?_
        refine lv_bipush (v := nI 7) hx hb dX1_mixBlock_292 (by decide) ?_
        refine lv_dup2_11 hx hb dX1_mixBlock_294 rfl rfl ?_
        refine fw_iald C hP fset_at rfl 7 rfl (by omega) (by decide) dX1_mixBlock_295 ?_
        refine fw_E (show (upd (upd (upd (upd (upd (upd (upd f 0 ((f 0) + a)) 1 ((f 1) + b)) 2 ((f 2) + c2)) 3 ((f 3) + d)) 4 ((f 4) + e2)) 5 ((f 5) + f2v)) 6 ((f 6) + g2)) 7 = f 7 from rfl) ?_
        refine lv_iload hx hb dX1_mixBlock_296 (lv_at hl 8 rfl) ?_
        refine lv_iadd hx hb dX1_mixBlock_298 ?_
        refine fw_iast C hP hS fset_at rfl 7 rfl (by omega) (by decide) dX1_mixBlock_299 (fun H locs hP hS => ?_)
        have hP : fP Γ (fset (fset w 8 0 (aI 1 8 (upd (upd (upd (upd (upd (upd (upd f 0 ((f 0) + a)) 1 ((f 1) + b)) 2 ((f 2) + c2)) 3 ((f 3) + d)) 4 ((f 4) + e2)) 5 ((f 5) + f2v)) 6 ((f 6) + g2)))) 8 0 (aI 1 8 (upd (upd (upd (upd (upd (upd (upd (upd f 0 ((f 0) + a)) 1 ((f 1) + b)) 2 ((f 2) + c2)) 3 ((f 3) + d)) 4 ((f 4) + e2)) 5 ((f 5) + f2v)) 6 ((f 6) + g2)) 7 ((f 7) + h2)))) H := hP
        rw [fset_s] at hP
        have e : i = 64 := by omega
        subst e
        refine fw_retv C hr hlk hP hS ⟨_, rfl, fun j hj => ?_⟩ (Nat.le_of_ble_eq_true rfl) (Nat.le_of_ble_eq_true rfl) dX1_mixBlock_300
        rw [← hz]
        match j, hj with
        | 0, _ => rfl
        | 1, _ => rfl
        | 2, _ => rfl
        | 3, _ => rfl
        | 4, _ => rfl
        | 5, _ => rfl
        | 6, _ => rfl
        | 7, _ => rfl
        | k + 8, hj => exact absurd hj (by omega)
      · refine lv_iload hx hb dX1_mixBlock_73 (lv_at hl 5 rfl) ?_
        refine lv_bipush (v := 6) hx hb dX1_mixBlock_75 (by decide) ?_
        refine fw_ci0 (w := w) hS (fw_rS (rest := []) (As := [.int e2, .int 6]) C hP hS wS_X1_39 (k_X1_turned l Γ w e2 6) (fRm_mk rfl rfl (Nat.le_of_ble_eq_true rfl) (Nat.le_of_ble_eq_true rfl) (Nat.le_of_ble_eq_true rfl) (Nat.le_of_ble_eq_true rfl) (Nat.le_of_ble_eq_true rfl)) rfl hl.1 rfl dX1_mixBlock_77) (fun H locs hP hS => ?_)
        refine lv_iload hx hb dX1_mixBlock_80 (lv_at hl 5 rfl) ?_
        refine lv_bipush (v := 11) hx hb dX1_mixBlock_82 (by decide) ?_
        refine fw_ci0 (w := w) hS (fw_rS (rest := [.int (trn e2 6)]) (As := [.int e2, .int 11]) C hP hS wS_X1_39 (k_X1_turned l Γ w e2 11) (fRm_mk rfl rfl (Nat.le_of_ble_eq_true rfl) (Nat.le_of_ble_eq_true rfl) (Nat.le_of_ble_eq_true rfl) (Nat.le_of_ble_eq_true rfl) (Nat.le_of_ble_eq_true rfl)) rfl hl.1 rfl dX1_mixBlock_84) (fun H locs hP hS => ?_)
        refine lv_ixor hx hb dX1_mixBlock_87 ?_
        refine lv_iload hx hb dX1_mixBlock_88 (lv_at hl 5 rfl) ?_
        refine lv_bipush (v := 25) hx hb dX1_mixBlock_90 (by decide) ?_
        refine fw_ci0 (w := w) hS (fw_rS (rest := [.int ((trn e2 6) ^^^ (trn e2 11))]) (As := [.int e2, .int 25]) C hP hS wS_X1_39 (k_X1_turned l Γ w e2 25) (fRm_mk rfl rfl (Nat.le_of_ble_eq_true rfl) (Nat.le_of_ble_eq_true rfl) (Nat.le_of_ble_eq_true rfl) (Nat.le_of_ble_eq_true rfl) (Nat.le_of_ble_eq_true rfl)) rfl hl.1 rfl dX1_mixBlock_92) (fun H locs hP hS => ?_)
        refine lv_ixor hx hb dX1_mixBlock_95 ?_
        refine lv_topi (fun x10_96 e_x10_96 => ?_)
        refine lv_istore (lv' := [(10, .int x10_96), (9, .int (nI i)), (1, .int a), (2, .int b), (3, .int c2), (4, .int d), (5, .int e2), (6, .int f2v), (7, .int g2), (8, .int h2), (0, .ref (w.1 7 0))]) hx hb dX1_mixBlock_96 hl (by decide) rfl (fun ls hl => ?_)
        refine lv_iload_n hx hb dX1_mixBlock_98 rfl (lv_at hl 2 rfl) ?_
        refine lv_iconst (v := 2) hx hb dX1_mixBlock_99 (by decide) ?_
        refine fw_ci0 (w := w) hS (fw_rS (rest := []) (As := [.int a, .int 2]) C hP hS wS_X1_39 (k_X1_turned l Γ w a 2) (fRm_mk rfl rfl (Nat.le_of_ble_eq_true rfl) (Nat.le_of_ble_eq_true rfl) (Nat.le_of_ble_eq_true rfl) (Nat.le_of_ble_eq_true rfl) (Nat.le_of_ble_eq_true rfl)) rfl hl.1 rfl dX1_mixBlock_100) (fun H locs hP hS => ?_)
        refine lv_iload_n hx hb dX1_mixBlock_103 rfl (lv_at hl 2 rfl) ?_
        refine lv_bipush (v := 13) hx hb dX1_mixBlock_104 (by decide) ?_
        refine fw_ci0 (w := w) hS (fw_rS (rest := [.int (trn a 2)]) (As := [.int a, .int 13]) C hP hS wS_X1_39 (k_X1_turned l Γ w a 13) (fRm_mk rfl rfl (Nat.le_of_ble_eq_true rfl) (Nat.le_of_ble_eq_true rfl) (Nat.le_of_ble_eq_true rfl) (Nat.le_of_ble_eq_true rfl) (Nat.le_of_ble_eq_true rfl)) rfl hl.1 rfl dX1_mixBlock_106) (fun H locs hP hS => ?_)
        refine lv_ixor hx hb dX1_mixBlock_109 ?_
        refine lv_iload_n hx hb dX1_mixBlock_110 rfl (lv_at hl 2 rfl) ?_
        refine lv_bipush (v := 22) hx hb dX1_mixBlock_111 (by decide) ?_
        refine fw_ci0 (w := w) hS (fw_rS (rest := [.int ((trn a 2) ^^^ (trn a 13))]) (As := [.int a, .int 22]) C hP hS wS_X1_39 (k_X1_turned l Γ w a 22) (fRm_mk rfl rfl (Nat.le_of_ble_eq_true rfl) (Nat.le_of_ble_eq_true rfl) (Nat.le_of_ble_eq_true rfl) (Nat.le_of_ble_eq_true rfl) (Nat.le_of_ble_eq_true rfl)) rfl hl.1 rfl dX1_mixBlock_113) (fun H locs hP hS => ?_)
        refine lv_ixor hx hb dX1_mixBlock_116 ?_
        refine lv_topi (fun x11_117 e_x11_117 => ?_)
        refine lv_istore (lv' := [(11, .int x11_117), (10, .int x10_96), (9, .int (nI i)), (1, .int a), (2, .int b), (3, .int c2), (4, .int d), (5, .int e2), (6, .int f2v), (7, .int g2), (8, .int h2), (0, .ref (w.1 7 0))]) hx hb dX1_mixBlock_117 hl (by decide) rfl (fun ls hl => ?_)
        refine lv_iload hx hb dX1_mixBlock_119 (lv_at hl 7 rfl) ?_
        refine lv_iload hx hb dX1_mixBlock_121 (lv_at hl 8 rfl) ?_
        refine lv_iand hx hb dX1_mixBlock_123 ?_
        refine lv_iload hx hb dX1_mixBlock_124 (lv_at hl 7 rfl) ?_
        refine lv_iconst (v := (-1)) hx hb dX1_mixBlock_126 (by decide) ?_
        refine lv_ixor hx hb dX1_mixBlock_127 ?_
        refine lv_iload hx hb dX1_mixBlock_128 (lv_at hl 9 rfl) ?_
        refine lv_iand hx hb dX1_mixBlock_130 ?_
        refine lv_ixor hx hb dX1_mixBlock_131 ?_
        refine lv_topi (fun x12_132 e_x12_132 => ?_)
        refine lv_istore (lv' := [(12, .int x12_132), (11, .int x11_117), (10, .int x10_96), (9, .int (nI i)), (1, .int a), (2, .int b), (3, .int c2), (4, .int d), (5, .int e2), (6, .int f2v), (7, .int g2), (8, .int h2), (0, .ref (w.1 7 0))]) hx hb dX1_mixBlock_132 hl (by decide) rfl (fun ls hl => ?_)
        refine lv_iload_n hx hb dX1_mixBlock_134 rfl (lv_at hl 4 rfl) ?_
        refine lv_iload_n hx hb dX1_mixBlock_135 rfl (lv_at hl 5 rfl) ?_
        refine lv_iand hx hb dX1_mixBlock_136 ?_
        refine lv_iload_n hx hb dX1_mixBlock_137 rfl (lv_at hl 4 rfl) ?_
        refine lv_iload_n hx hb dX1_mixBlock_138 rfl (lv_at hl 6 rfl) ?_
        refine lv_iand hx hb dX1_mixBlock_139 ?_
        refine lv_ixor hx hb dX1_mixBlock_140 ?_
        refine lv_iload_n hx hb dX1_mixBlock_141 rfl (lv_at hl 5 rfl) ?_
        refine lv_iload_n hx hb dX1_mixBlock_142 rfl (lv_at hl 6 rfl) ?_
        refine lv_iand hx hb dX1_mixBlock_143 ?_
        refine lv_ixor hx hb dX1_mixBlock_144 ?_
        refine lv_topi (fun x13_145 e_x13_145 => ?_)
        refine lv_istore (lv' := [(13, .int x13_145), (12, .int x12_132), (11, .int x11_117), (10, .int x10_96), (9, .int (nI i)), (1, .int a), (2, .int b), (3, .int c2), (4, .int d), (5, .int e2), (6, .int f2v), (7, .int g2), (8, .int h2), (0, .ref (w.1 7 0))]) hx hb dX1_mixBlock_145 hl (by decide) rfl (fun ls hl => ?_)
        refine lv_iload hx hb dX1_mixBlock_147 (lv_at hl 12 rfl) ?_
        refine lv_iload hx hb dX1_mixBlock_149 (lv_at hl 3 rfl) ?_
        refine lv_iadd hx hb dX1_mixBlock_151 ?_
        refine lv_iload hx hb dX1_mixBlock_152 (lv_at hl 1 rfl) ?_
        refine lv_iadd hx hb dX1_mixBlock_154 ?_
        refine fw_gets C hS C.2.2.1.2.1.1 qf_X1_43 dX1_mixBlock_155 ?_
        refine lv_iload hx hb dX1_mixBlock_158 (lv_at hl 4 rfl) ?_
        refine fw_tald C hS C.2.2.1.2.1.2 i rfl (by omega) (by decide) dX1_mixBlock_160 ?_
        refine lv_iadd hx hb dX1_mixBlock_161 ?_
        refine lv_aload_n hx hb dX1_mixBlock_162 rfl (lv_at hl 13 rfl) ?_
        refine gf_X1_15 C hP h7 rfl rfl dX1_mixBlock_163 ?_
        refine lv_iload hx hb dX1_mixBlock_166 (lv_at hl 4 rfl) ?_
        refine fw_iald C hP h9 rfl i rfl (by omega) (by decide) dX1_mixBlock_168 ?_
        refine lv_iadd hx hb dX1_mixBlock_169 ?_
        refine lv_topi (fun x14_170 e_x14_170 => ?_)
        refine lv_istore (lv' := [(14, .int x14_170), (13, .int x13_145), (12, .int x12_132), (11, .int x11_117), (10, .int x10_96), (9, .int (nI i)), (1, .int a), (2, .int b), (3, .int c2), (4, .int d), (5, .int e2), (6, .int f2v), (7, .int g2), (8, .int h2), (0, .ref (w.1 7 0))]) hx hb dX1_mixBlock_170 hl (by decide) rfl (fun ls hl => ?_)
        refine lv_iload hx hb dX1_mixBlock_172 (lv_at hl 12 rfl) ?_
        refine lv_istore (lv' := [(8, .int g2), (14, .int x14_170), (13, .int x13_145), (12, .int x12_132), (11, .int x11_117), (10, .int x10_96), (9, .int (nI i)), (1, .int a), (2, .int b), (3, .int c2), (4, .int d), (5, .int e2), (6, .int f2v), (7, .int g2), (0, .ref (w.1 7 0))]) hx hb dX1_mixBlock_174 hl (by decide) rfl (fun ls hl => ?_)
        refine lv_iload hx hb dX1_mixBlock_176 (lv_at hl 12 rfl) ?_
        refine lv_istore (lv' := [(7, .int f2v), (8, .int g2), (14, .int x14_170), (13, .int x13_145), (12, .int x12_132), (11, .int x11_117), (10, .int x10_96), (9, .int (nI i)), (1, .int a), (2, .int b), (3, .int c2), (4, .int d), (5, .int e2), (6, .int f2v), (0, .ref (w.1 7 0))]) hx hb dX1_mixBlock_178 hl (by decide) rfl (fun ls hl => ?_)
        refine lv_iload hx hb dX1_mixBlock_180 (lv_at hl 12 rfl) ?_
        refine lv_istore (lv' := [(6, .int e2), (7, .int f2v), (8, .int g2), (14, .int x14_170), (13, .int x13_145), (12, .int x12_132), (11, .int x11_117), (10, .int x10_96), (9, .int (nI i)), (1, .int a), (2, .int b), (3, .int c2), (4, .int d), (5, .int e2), (0, .ref (w.1 7 0))]) hx hb dX1_mixBlock_182 hl (by decide) rfl (fun ls hl => ?_)
        refine lv_iload hx hb dX1_mixBlock_184 (lv_at hl 12 rfl) ?_
        refine lv_iload hx hb dX1_mixBlock_186 (lv_at hl 3 rfl) ?_
        refine lv_iadd hx hb dX1_mixBlock_188 ?_
        refine lv_topi (fun x5_189 e_x5_189 => ?_)
        refine lv_istore (lv' := [(5, .int x5_189), (6, .int e2), (7, .int f2v), (8, .int g2), (14, .int x14_170), (13, .int x13_145), (12, .int x12_132), (11, .int x11_117), (10, .int x10_96), (9, .int (nI i)), (1, .int a), (2, .int b), (3, .int c2), (4, .int d), (0, .ref (w.1 7 0))]) hx hb dX1_mixBlock_189 hl (by decide) rfl (fun ls hl => ?_)
        refine lv_iload_n hx hb dX1_mixBlock_191 rfl (lv_at hl 12 rfl) ?_
        refine lv_istore (lv' := [(4, .int c2), (5, .int x5_189), (6, .int e2), (7, .int f2v), (8, .int g2), (14, .int x14_170), (13, .int x13_145), (12, .int x12_132), (11, .int x11_117), (10, .int x10_96), (9, .int (nI i)), (1, .int a), (2, .int b), (3, .int c2), (0, .ref (w.1 7 0))]) hx hb dX1_mixBlock_192 hl (by decide) rfl (fun ls hl => ?_)
        refine lv_iload_n hx hb dX1_mixBlock_194 rfl (lv_at hl 12 rfl) ?_
        refine lv_istore_n (lv' := [(3, .int b), (4, .int c2), (5, .int x5_189), (6, .int e2), (7, .int f2v), (8, .int g2), (14, .int x14_170), (13, .int x13_145), (12, .int x12_132), (11, .int x11_117), (10, .int x10_96), (9, .int (nI i)), (1, .int a), (2, .int b), (0, .ref (w.1 7 0))]) hx hb dX1_mixBlock_195 rfl hl (by decide) rfl (fun ls hl => ?_)
        refine lv_iload_n hx hb dX1_mixBlock_196 rfl (lv_at hl 12 rfl) ?_
        refine lv_istore_n (lv' := [(2, .int a), (3, .int b), (4, .int c2), (5, .int x5_189), (6, .int e2), (7, .int f2v), (8, .int g2), (14, .int x14_170), (13, .int x13_145), (12, .int x12_132), (11, .int x11_117), (10, .int x10_96), (9, .int (nI i)), (1, .int a), (0, .ref (w.1 7 0))]) hx hb dX1_mixBlock_197 rfl hl (by decide) rfl (fun ls hl => ?_)
        refine lv_iload hx hb dX1_mixBlock_198 (lv_at hl 7 rfl) ?_
        refine lv_iload hx hb dX1_mixBlock_200 (lv_at hl 10 rfl) ?_
        refine lv_iadd hx hb dX1_mixBlock_202 ?_
        refine lv_iload hx hb dX1_mixBlock_203 (lv_at hl 8 rfl) ?_
        refine lv_iadd hx hb dX1_mixBlock_205 ?_
        refine lv_topi (fun x1_206 e_x1_206 => ?_)
        refine lv_istore_n (lv' := [(1, .int x1_206), (2, .int a), (3, .int b), (4, .int c2), (5, .int x5_189), (6, .int e2), (7, .int f2v), (8, .int g2), (14, .int x14_170), (13, .int x13_145), (12, .int x12_132), (11, .int x11_117), (10, .int x10_96), (9, .int (nI i)), (0, .ref (w.1 7 0))]) hx hb dX1_mixBlock_206 rfl hl (by decide) rfl (fun ls hl => ?_)
        refine lv_iinc (v := nI (i + 1)) (lv' := [(9, .int (nI (i + 1))), (1, .int x1_206), (2, .int a), (3, .int b), (4, .int c2), (5, .int x5_189), (6, .int e2), (7, .int f2v), (8, .int g2), (14, .int x14_170), (13, .int x13_145), (12, .int x12_132), (11, .int x11_117), (10, .int x10_96), (0, .ref (w.1 7 0))]) hx hb dX1_mixBlock_207 hl (k := 13) rfl (by rw [show Int32.ofInt 1 = nI 1 from rfl, nI_add]) (by decide) rfl (fun ls hl => ?_)
        refine lv_goto (tgt := 66) hx hb dX1_mixBlock_210 (by decide) ?_
        refine W.widen (k := 0) (n := 0) (Nat.le_of_ble_eq_true rfl) (Nat.le_of_ble_eq_true rfl) ?_
        exact ih (i + 1) x1_206 a b c2 x5_189 e2 f2v g2 H locs ls (by omega) (by omega) (mx_step hz (by rw [e_x1_206, e_x14_170, e_x11_117, e_x13_145, e_x10_96, e_x12_132]; rfl) (by rw [e_x5_189, e_x14_170, e_x10_96, e_x12_132]; rfl)) hP hS (lv_sub hl [0, 1, 2, 3, 4, 5, 6, 7, 8, 14] rfl)
  exact loop 65 0 (f 0) (f 1) (f 2) (f 3) (f 4) (f 5) (f 6) (f 7) _ _ _ (by omega) (by omega) rfl hP hS (lv_sub hl [0, 8, 7, 6, 5, 4, 3, 2, 1, 9] rfl)
theorem hb_step {y : Nat → Nat} {n k : Nat} {z z3 z4 z5 : Nat → Int32} (hz : ∀ j, j < 8 → z j = shB y n k j) (h3 : ∀ j, j < 16 → z3 j = shW y n k j) (h5 : ∀ j, j < 64 → z5 j = shSf z3 48 j) (h4 : ∀ j, j < 8 → z4 j = z j + at8 (rds (s8 z) z5 64) j) : ∀ j, j < 8 → z4 j = shB y n (k + 1) j := by
  intro j hj
  have e1 : s8 z = s8 (shB y n k) := s8_congr hz
  have e2 : rds (s8 (shB y n k)) z5 64 = rds (s8 (shB y n k)) (shSf (shW y n k) 48) 64 := rds_at 64 (fun t ht => by rw [h5 t ht]; exact shSf_at 48 h3 t (by omega))
  rw [h4 j hj, hz j hj, e1, e2]
  rfl
set_option maxHeartbeats 4000000 in
set_option maxRecDepth 100000 in
theorem k_X1_hashBytes (l : Launch) (Γ : FG) (w : FW) (t n : Nat) (b : Nat → Int32) (y : Nat → Nat) (hn : n ≤ 1000) (hy : ∀ j, j < n → b j &&& 255 = nI (y j)) (h12 : w.2 12 t = some (aI 0 1000 b)) (h7 : w.2 7 0 = some (oO 1 [.ref (w.1 8 0), .ref (w.1 9 0)])) (g8 g9 : Nat → Int32) (h8 : w.2 8 0 = some (aI 1 8 g8)) (h9 : w.2 9 0 = some (aI 1 64 g9)) : Met l yX1_hashBytes (ws_ yX1_hashBytes cX1_hashBytes 5 none) (rmD 2 0 0) (va_Pc [.ref (w.1 7 0), .ref (w.1 12 t), .int (nI n)] (fI Γ w)) (va_Qv (fun w1 => ∃ z z2, w1 = fset (fset w 8 0 (aI 1 8 z)) 9 0 (aI 1 64 z2) ∧ ∀ j, j < 8 → z j = shD y n j) (fI Γ) (fA Γ)) 0 0 (fA Γ) := by
  refine fw_met (by decide) (Nat.le_of_ble_eq_true rfl) ?_
  intro p e s m below meth c ls C hP hS hr hlk hin hl
  have C : fC p s m [.ref (w.1 7 0), .ref (w.1 12 t), .int (nI n)].toArray c cX1_hashBytes 5 RX1 Γ := C
  have hx := C.1.1
  have hb := C.1.2.1
  have hl : lv_has ls 5 [(0, .ref (w.1 7 0)), (1, .ref (w.1 12 t)), (2, .int (nI n))] := hl
  refine fw_gets C hS C.2.2.1.1.1 qf_X1_18 dX1_hashBytes_0 ?_
  refine lv_aload_n hx hb dX1_hashBytes_3 rfl (lv_at hl 0 rfl) ?_
  refine gf_X1_9 C hP h7 rfl rfl dX1_hashBytes_4 ?_
  refine fw_cv hS (fw_rSN (n := 2) (rest := []) (As := [.ref Γ.2.2.2.1, .ref (w.1 8 0)]) C hP hS C.2.1.2.2.1 qs_X4_copyWords qn_X4 qc_X4_copyWords (by decide +kernel) (by decide +kernel) (k_X4_copyWordsT l Γ w 8 0 g8 h8) (fRm_mk rfl rfl (Nat.le_of_ble_eq_true rfl) (Nat.le_of_ble_eq_true rfl) (Nat.le_of_ble_eq_true rfl) (Nat.le_of_ble_eq_true rfl) (Nat.le_of_ble_eq_true rfl)) rfl hl.1 rfl dX1_hashBytes_7) (fun w1 H locs hp hP hS => ?_)
  obtain ⟨z0, rfl, hz0⟩ := hp
  refine lv_iload_n hx hb dX1_hashBytes_10 rfl (lv_at hl 2 rfl) ?_
  refine lv_bipush (v := nI 8) hx hb dX1_hashBytes_11 (by decide) ?_
  refine fw_addN hx hb dX1_hashBytes_13 ?_
  refine lv_bipush (v := nI 64) hx hb dX1_hashBytes_14 (by decide) ?_
  refine fw_divN hx hb (by omega) (by omega) (by omega) dX1_hashBytes_16 ?_
  refine lv_iconst (v := nI 1) hx hb dX1_hashBytes_17 (by decide) ?_
  refine fw_addN hx hb dX1_hashBytes_18 ?_
  refine lv_istore_n (lv' := [(3, .int (nI ((n + 8) / 64 + 1))), (0, .ref (w.1 7 0)), (1, .ref (w.1 12 t)), (2, .int (nI n))]) hx hb dX1_hashBytes_19 rfl hl (by decide) rfl (fun ls hl => ?_)
  refine lv_iconst (v := nI 0) hx hb dX1_hashBytes_20 (by decide) ?_
  refine lv_istore (lv' := [(4, .int (nI 0)), (3, .int (nI ((n + 8) / 64 + 1))), (0, .ref (w.1 7 0)), (1, .ref (w.1 12 t)), (2, .int (nI n))]) hx hb dX1_hashBytes_21 hl (by decide) rfl (fun ls hl => ?_)
  have hP : fP Γ (fset (fset w 8 0 (aI 1 8 z0)) 9 0 (aI 1 64 g9)) H := by rw [fset_id ((fset_ne (by decide)).trans h9)]; exact hP
  refine W.widen (k := 0) (n := 0) (Nat.le_of_ble_eq_true rfl) (Nat.le_of_ble_eq_true rfl) ?_
  have loop : ∀ (fu : Nat) (k : Nat) (z z2 : Nat → Int32) (H : Heap) (locs : List Loc) (ls : Array Slot), (n + 8) / 64 + 1 - k < fu → (k ≤ (n + 8) / 64 + 1) → (∀ j, j < 8 → z j = shB y n k j) → fP Γ (fset (fset w 8 0 (aI 1 8 z)) 9 0 (aI 1 64 z2)) H → va_S (fA Γ) s.heap H locs → lv_has ls 5 [(4, .int (nI k)), (3, .int (nI ((n + 8) / 64 + 1))), (0, .ref (w.1 7 0)), (1, .ref (w.1 12 t)), (2, .int (nI n))] → W p l e (rmD 2 0 0) s m [.ref (w.1 7 0), .ref (w.1 12 t), .int (nI n)].toArray below meth c H locs 0 0 (MQ below (va_Qv (fun w1 => ∃ z z2, w1 = fset (fset w 8 0 (aI 1 8 z)) 9 0 (aI 1 64 z2) ∧ ∀ j, j < 8 → z j = shD y n j) (fI Γ) (fA Γ)) [.ref (w.1 7 0), .ref (w.1 12 t), .int (nI n)].toArray s 0 0 (fA Γ)) (F0 m 23 ls []) := by
    intro fu
    induction fu with
    | zero =>
      intro k z z2 H locs ls hf
      exact absurd hf (Nat.not_lt_zero _)
    | succ fu ih =>
      intro k z z2 H locs ls hf hi hz hP hS hl
      refine lv_iload hx hb dX1_hashBytes_23 (lv_at hl 0 rfl) ?_
      refine lv_iload_n hx hb dX1_hashBytes_25 rfl (lv_at hl 1 rfl) ?_
      refine fw_geN (tgt := 52) hx hb (by omega) (by omega) dX1_hashBytes_26 (by decide) (fun c_26 => ?_) (fun c_26 => ?_)
      · exact fw_retv C hr hlk hP hS (⟨z, z2, rfl, fun j hj => by rw [hz j hj, shD, (by omega : k = (n + 8) / 64 + 1)]⟩) (Nat.le_of_ble_eq_true rfl) (Nat.le_of_ble_eq_true rfl) dX1_hashBytes_52
      · refine lv_aload_n hx hb dX1_hashBytes_29 rfl (lv_at hl 2 rfl) ?_
        refine lv_aload_n hx hb dX1_hashBytes_30 rfl (lv_at hl 3 rfl) ?_
        refine lv_iload_n hx hb dX1_hashBytes_31 rfl (lv_at hl 4 rfl) ?_
        refine lv_iload hx hb dX1_hashBytes_32 (lv_at hl 0 rfl) ?_
        refine lv_iload_n hx hb dX1_hashBytes_34 rfl (lv_at hl 1 rfl) ?_
        refine fw_cv hS (fw_rV (rest := []) (As := [.ref (w.1 12 t), .int (nI n), .int (nI k), .int (nI ((n + 8) / 64 + 1))]) C hP hS wV_X1_25 (k_X1_loadBlock l Γ (fset (fset w 8 0 (aI 1 8 z)) 9 0 (aI 1 64 z2)) t n b y hn hy ((fset_ne (by decide)).trans ((fset_ne (by decide)).trans h12)) ((fset_ne (by decide)).trans ((fset_ne (by decide)).trans h7)) k (by omega) z2 fset_at) ((fset_ne (by decide)).trans ((fset_ne (by decide)).trans h7)) rfl rfl (fRm_mk rfl rfl (Nat.le_of_ble_eq_true rfl) (Nat.le_of_ble_eq_true rfl) (Nat.le_of_ble_eq_true rfl) (Nat.le_of_ble_eq_true rfl) (Nat.le_of_ble_eq_true rfl)) rfl hl.1 rfl dX1_hashBytes_35) (fun w1 H locs hp hP hS => ?_)
        obtain ⟨z3, rfl, hz3⟩ := hp
        rw [fset_s] at hP
        refine lv_aload_n hx hb dX1_hashBytes_38 rfl (lv_at hl 2 rfl) ?_
        refine fw_cv hS (fw_rV (rest := []) (As := []) C hP hS wV_X1_29 (k_X1_spreadBlock l Γ (fset (fset w 8 0 (aI 1 8 z)) 9 0 (aI 1 64 z3)) z3 ((fset_ne (by decide)).trans ((fset_ne (by decide)).trans h7)) fset_at) ((fset_ne (by decide)).trans ((fset_ne (by decide)).trans h7)) rfl rfl (fRm_mk rfl rfl (Nat.le_of_ble_eq_true rfl) (Nat.le_of_ble_eq_true rfl) (Nat.le_of_ble_eq_true rfl) (Nat.le_of_ble_eq_true rfl) (Nat.le_of_ble_eq_true rfl)) rfl hl.1 rfl dX1_hashBytes_39) (fun w1 H locs hp hP hS => ?_)
        obtain ⟨z5, rfl, hz5⟩ := hp
        rw [fset_s] at hP
        refine lv_aload_n hx hb dX1_hashBytes_42 rfl (lv_at hl 2 rfl) ?_
        refine fw_cv hS (fw_rV (rest := []) (As := []) C hP hS wV_X1_32 (k_X1_mixBlock l Γ (fset (fset w 8 0 (aI 1 8 z)) 9 0 (aI 1 64 z5)) z z5 ((fset_ne (by decide)).trans ((fset_ne (by decide)).trans h7)) ((fset_ne (by decide)).trans fset_at) fset_at) ((fset_ne (by decide)).trans ((fset_ne (by decide)).trans h7)) rfl rfl (fRm_mk rfl rfl (Nat.le_of_ble_eq_true rfl) (Nat.le_of_ble_eq_true rfl) (Nat.le_of_ble_eq_true rfl) (Nat.le_of_ble_eq_true rfl) (Nat.le_of_ble_eq_true rfl)) rfl hl.1 rfl dX1_hashBytes_43) (fun w1 H locs hp hP hS => ?_)
        obtain ⟨z4, rfl, hz4⟩ := hp
        rw [fset_3 (by decide)] at hP
        refine lv_iinc (v := nI (k + 1)) (lv' := [(4, .int (nI (k + 1))), (3, .int (nI ((n + 8) / 64 + 1))), (0, .ref (w.1 7 0)), (1, .ref (w.1 12 t)), (2, .int (nI n))]) hx hb dX1_hashBytes_46 hl (k := 0) rfl (by rw [show Int32.ofInt 1 = nI 1 from rfl, nI_add]) (by decide) rfl (fun ls hl => ?_)
        refine lv_goto (tgt := 23) hx hb dX1_hashBytes_49 (by decide) ?_
        refine W.widen (k := 0) (n := 0) (Nat.le_of_ble_eq_true rfl) (Nat.le_of_ble_eq_true rfl) ?_
        exact ih (k + 1) z4 z5 H locs ls (by omega) (by omega) (hb_step hz hz3 hz5 hz4) hP hS (lv_sub hl [0, 1, 2, 3, 4] rfl)
  exact loop ((n + 8) / 64 + 2) 0 z0 g9 _ _ _ (by omega) (by omega) hz0 hP hS (lv_sub hl [0, 1, 2, 3, 4] rfl)
