set_option maxHeartbeats 16000000 in
set_option maxRecDepth 100000 in
theorem k_X5_reckon (l : Launch) (Γ : FG) (w : FW) (σ : St) (th : Int32) (z : Bool) (tt nb : Nat) (bf : Nat → Nat) (f38 f40 : Nat → Int32) (ht : tt < 16) (hnb : nb ≤ 1000) (g38 : w.2 38 0 = some (aI 1 16 f38)) (v38 : f38 tt = nI nb) (g40 : w.2 40 0 = some (aI 1 16000 f40)) (v40 : ∀ j, j < nb → f40 (1000 * tt + j) = nI (bf j)) (f39 : Nat → Int32) (g39 : w.2 39 0 = some (aI 1 128 f39)) (h20 : w.2 20 0 = some (oMo σ w th z)) (mH : RmH z w) : Met l yX5_reckon (ws_ yX5_reckon cX5_reckon 7 none) (rmD 3 0 0) (va_Pc [.ref (w.1 20 0), .int (nI tt)] (fI Γ w)) (va_Qv (fun w1 => w1.1 = w.1 ∧ (∀ k i, ¬ (k = 39 ∨ k = 20 ∨ (57 ≤ k ∧ k ≤ 61)) → w1.2 k i = w.2 k i) ∧ w1.2 20 0 = some (oMo σ w th true) ∧ RmH true w1 ∧ ∃ d, w1.2 39 0 = some (aI 1 128 d) ∧ (∀ j, j < 8 → d (8 * tt + j) = shD bf nb j) ∧ ∀ i, ¬ (8 * tt ≤ i ∧ i < 8 * tt + 8) → d i = f39 i) (fI Γ) (fA Γ)) 0 0 (fA Γ) := by
  refine fw_met (by decide) (Nat.le_of_ble_eq_true rfl) ?_
  intro p e s m below meth c ls C hP hS hr hlk hin hl
  have C : fC p s m [.ref (w.1 20 0), .int (nI tt)].toArray c cX5_reckon 7 RX5 Γ := C
  have hx := C.1.1
  have hb := C.1.2.1
  have hl : lv_has ls 7 [(0, .ref (w.1 20 0)), (1, .int (nI tt))] := hl
  obtain ⟨⟨f57, g57, v57⟩, ⟨f58, g58, v58⟩, ⟨f59, g59⟩, ⟨f60, g60⟩, ⟨f61, g61⟩⟩ := id mH
  refine W.widen (k := 0) (n := 0) (Nat.le_of_ble_eq_true rfl) (Nat.le_of_ble_eq_true rfl) ?_
  have join : ∀ (u : Nat → Nat → Option FE) (kf ff : Nat → Int32) (H : Heap) (locs : List Loc) (ls : Array Slot), (u 20 0 = some (oMo σ w th true)) → (u 57 0 = some (aI 1 64 kf)) → (u 58 0 = some (aI 1 8 ff)) → (∀ k i, ¬ (k = 57 ∨ k = 58 ∨ k = 20) → u k i = w.2 k i) → (∀ j, j < 64 → kf j = shK j) → (∀ j, j < 8 → ff j = shH j) → fP Γ (w.1, u) H → va_S (fA Γ) s.heap H locs → lv_has ls 7 [(0, .ref (w.1 20 0)), (1, .int (nI tt))] → W p l e (rmD 3 0 0) s m [.ref (w.1 20 0), .int (nI tt)].toArray below meth c H locs 0 0 (MQ below (va_Qv (fun w1 => w1.1 = w.1 ∧ (∀ k i, ¬ (k = 39 ∨ k = 20 ∨ (57 ≤ k ∧ k ≤ 61)) → w1.2 k i = w.2 k i) ∧ w1.2 20 0 = some (oMo σ w th true) ∧ RmH true w1 ∧ ∃ d, w1.2 39 0 = some (aI 1 128 d) ∧ (∀ j, j < 8 → d (8 * tt + j) = shD bf nb j) ∧ ∀ i, ¬ (8 * tt ≤ i ∧ i < 8 * tt + 8) → d i = f39 i) (fI Γ) (fA Γ)) [.ref (w.1 20 0), .int (nI tt)].toArray s 0 0 (fA Γ)) (F0 m 11 ls []) := by
    intro u kf ff H locs ls hu20 hu57 hu58 hufr hkf hff hP hS hl
    refine lv_aload_n hx hb dX5_reckon_11 rfl (lv_at hl 0 rfl) ?_
    refine gf_X5_26 C hP hu20 rfl rfl dX5_reckon_12 ?_
    refine lv_iload_n hx hb dX5_reckon_15 rfl (lv_at hl 1 rfl) ?_
    refine fw_iald C hP ((hufr 38 0 (by omega)).trans g38) rfl tt rfl (by omega) (by decide) dX5_reckon_16 ?_
    refine fw_E (show f38 tt = nI nb from v38) ?_
    refine lv_bipush (v := nI 9) hx hb dX5_reckon_17 (by decide) ?_
    refine fw_addN hx hb dX5_reckon_19 ?_
    refine lv_bipush (v := nI 63) hx hb dX5_reckon_20 (by decide) ?_
    refine fw_addN hx hb dX5_reckon_22 ?_
    refine lv_bipush (v := nI 64) hx hb dX5_reckon_23 (by decide) ?_
    refine fw_divN hx hb (by omega) (by omega) (by omega) dX5_reckon_25 ?_
    refine lv_bipush (v := nI 64) hx hb dX5_reckon_26 (by decide) ?_
    refine fw_mulN hx hb dX5_reckon_28 ?_
    refine lv_istore_n (lv' := [(2, .int (nI (((nb + 9 + 63) / 64) * 64))), (0, .ref (w.1 20 0)), (1, .int (nI tt))]) hx hb dX5_reckon_29 rfl hl (by decide) rfl (fun ls hl => ?_)
    refine lv_aload_n hx hb dX5_reckon_30 rfl (lv_at hl 1 rfl) ?_
    refine gf_X5_72 C hP hu20 rfl rfl dX5_reckon_31 ?_
    refine lv_iconst (v := nI 0) hx hb dX5_reckon_34 (by decide) ?_
    refine lv_aload_n hx hb dX5_reckon_35 rfl (lv_at hl 1 rfl) ?_
    refine gf_X5_78 C hP hu20 rfl rfl dX5_reckon_36 ?_
    refine lv_iconst (v := nI 0) hx hb dX5_reckon_39 (by decide) ?_
    refine lv_bipush (v := nI 8) hx hb dX5_reckon_40 (by decide) ?_
    refine fw_copy C hP hS qm_X5_131 hl.1 hu58 rfl ((hufr 60 0 (by omega)).trans g60) rfl 0 0 8 rfl rfl rfl (by omega) (by omega) (by decide) (by decide) ⟨(Nat.le_of_ble_eq_true rfl), (Nat.le_of_ble_eq_true rfl)⟩ dX5_reckon_42 (fun H locs hP hS => ?_)
    have hP : fP Γ (fset (w.1, u) 60 0 (aI 1 8 (va_cpy ff f60 0 0 8))) H := hP
    refine lv_iconst (v := nI 0) hx hb dX5_reckon_45 (by decide) ?_
    refine lv_istore_n (lv' := [(3, .int (nI 0)), (2, .int (nI (((nb + 9 + 63) / 64) * 64))), (0, .ref (w.1 20 0)), (1, .int (nI tt))]) hx hb dX5_reckon_46 rfl hl (by decide) rfl (fun ls hl => ?_)
    obtain ⟨u0, hu0⟩ : ∃ z9, z9 = ((fset (w.1, u) 60 0 (aI 1 8 (va_cpy ff f60 0 0 8)))).2 := ⟨_, rfl⟩
    have hw0 : (fset (w.1, u) 60 0 (aI 1 8 (va_cpy ff f60 0 0 8))) = (w.1, u0) := by rw [hu0]; rfl
    rw [hw0] at hP
    have y60 : u0 60 0 = some (aI 1 8 (va_cpy ff f60 0 0 8)) := by rw [hu0]; exact fset_at
    have yfr : ∀ k i, k ≠ 60 → u0 k i = u k i := fun k i q => by rw [hu0]; exact fset_ne q
    clear hw0 hu0
    refine W.widen (k := 0) (n := 0) (Nat.le_of_ble_eq_true rfl) (Nat.le_of_ble_eq_true rfl) ?_
    have loopA : ∀ (fuA : Nat) (bk fo : Nat) (x : Nat → Nat → Option FE) (zh zw zn : Nat → Int32) (H : Heap) (locs : List Loc) (ls : Array Slot), (nb + 8) / 64 + 1 - bk < fuA → (bk ≤ (nb + 8) / 64 + 1) → (fo = 64 * bk) → (x 60 0 = some (aI 1 8 zh)) → (x 59 0 = some (aI 1 64 zw)) → (x 61 0 = some (aI 1 8 zn)) → (∀ k i, ¬ (k = 59 ∨ k = 60 ∨ k = 61) → x k i = u k i) → (∀ j, j < 8 → zh j = shB bf nb bk j) → fP Γ (w.1, x) H → va_S (fA Γ) s.heap H locs → lv_has ls 7 [(3, .int (nI fo)), (2, .int (nI ((nb + 9 + 63) / 64 * 64))), (0, .ref (w.1 20 0)), (1, .int (nI tt))] → W p l e (rmD 3 0 0) s m [.ref (w.1 20 0), .int (nI tt)].toArray below meth c H locs 0 0 (MQ below (va_Qv (fun w1 => w1.1 = w.1 ∧ (∀ k i, ¬ (k = 39 ∨ k = 20 ∨ (57 ≤ k ∧ k ≤ 61)) → w1.2 k i = w.2 k i) ∧ w1.2 20 0 = some (oMo σ w th true) ∧ RmH true w1 ∧ ∃ d, w1.2 39 0 = some (aI 1 128 d) ∧ (∀ j, j < 8 → d (8 * tt + j) = shD bf nb j) ∧ ∀ i, ¬ (8 * tt ≤ i ∧ i < 8 * tt + 8) → d i = f39 i) (fI Γ) (fA Γ)) [.ref (w.1 20 0), .int (nI tt)].toArray s 0 0 (fA Γ)) (F0 m 47 ls []) := by
      intro fuA
      induction fuA with
      | zero =>
        intro bk fo x zh zw zn H locs ls hf
        exact absurd hf (Nat.not_lt_zero _)
      | succ fuA ihA =>
        intro bk fo x zh zw zn H locs ls hf hbk hfo hx60 hx59 hx61 hxfr hz hP hS hl
        refine lv_iload_n hx hb dX5_reckon_47 rfl (lv_at hl 0 rfl) ?_
        refine lv_iload_n hx hb dX5_reckon_48 rfl (lv_at hl 1 rfl) ?_
        refine fw_geN (tgt := 254) hx hb (by omega) (by omega) dX5_reckon_49 (by decide) (fun c_49 => ?_) (fun c_49 => ?_)
        · refine lv_aload_n hx hb dX5_reckon_254 rfl (lv_at hl 2 rfl) ?_
          refine gf_X5_78 C hP ((hxfr 20 0 (by omega)).trans hu20) rfl rfl dX5_reckon_255 ?_
          refine lv_iconst (v := nI 0) hx hb dX5_reckon_258 (by decide) ?_
          refine lv_aload_n hx hb dX5_reckon_259 rfl (lv_at hl 2 rfl) ?_
          refine gf_X5_29 C hP ((hxfr 20 0 (by omega)).trans hu20) rfl rfl dX5_reckon_260 ?_
          refine lv_bipush (v := nI 8) hx hb dX5_reckon_263 (by decide) ?_
          refine lv_iload_n hx hb dX5_reckon_265 rfl (lv_at hl 3 rfl) ?_
          refine fw_mulN hx hb dX5_reckon_266 ?_
          refine lv_bipush (v := nI 8) hx hb dX5_reckon_267 (by decide) ?_
          refine fw_copy C hP hS qm_X5_131 hl.1 hx60 rfl ((hxfr 39 0 (by omega)).trans ((hufr 39 0 (by omega)).trans g39)) rfl 0 (8 * tt) 8 rfl rfl rfl (by omega) (by omega) (by decide) (by decide) ⟨(Nat.le_of_ble_eq_true rfl), (Nat.le_of_ble_eq_true rfl)⟩ dX5_reckon_269 (fun H locs hP hS => ?_)
          have hP : fP Γ (fset (w.1, x) 39 0 (aI 1 128 (va_cpy zh f39 0 (8 * tt) 8))) H := hP
          have hb9 : bk = (nb + 8) / 64 + 1 := by omega
          have hz9 : ∀ j, j < 8 → zh j = shD bf nb j := fun j hj => by rw [hz j hj, hb9]; rfl
          exact fw_retv C hr hlk hP hS (⟨rfl, fun k i q => ((fset_ne (by omega)).trans ((hxfr k i (by omega)).trans (hufr k i (by omega)))), ((fset_ne (by decide)).trans ((hxfr 20 0 (by omega)).trans hu20)), ⟨⟨_, ((fset_ne (by decide)).trans ((hxfr 57 0 (by omega)).trans hu57)), fun _ => hkf⟩, ⟨_, ((fset_ne (by decide)).trans ((hxfr 58 0 (by omega)).trans hu58)), fun _ => hff⟩, ⟨_, ((fset_ne (by decide)).trans hx59)⟩, ⟨_, ((fset_ne (by decide)).trans hx60)⟩, ⟨_, ((fset_ne (by decide)).trans hx61)⟩⟩, _, fset_at, fun j hj => by rw [cpy_in hj, Nat.zero_add]; exact hz9 j hj, fun i q => cpy_out (by omega)⟩) (Nat.le_of_ble_eq_true rfl) (Nat.le_of_ble_eq_true rfl) dX5_reckon_272
        · refine lv_iconst (v := nI 0) hx hb dX5_reckon_52 (by decide) ?_
          refine lv_istore (lv' := [(4, .int (nI 0)), (3, .int (nI fo)), (2, .int (nI ((nb + 9 + 63) / 64 * 64))), (0, .ref (w.1 20 0)), (1, .int (nI tt))]) hx hb dX5_reckon_53 hl (by decide) rfl (fun ls hl => ?_)
          have hbk9 : bk < (nb + 8) / 64 + 1 := by omega
          have hP : fP Γ (fset (w.1, x) 59 0 (aI 1 64 zw)) H := by rw [fset_id hx59]; exact hP
          refine W.widen (k := 0) (n := 0) (Nat.le_of_ble_eq_true rfl) (Nat.le_of_ble_eq_true rfl) ?_
          have loopB : ∀ (fuB : Nat) (k : Nat) (z1 : Nat → Int32) (H : Heap) (locs : List Loc) (ls : Array Slot), 16 - k < fuB → (k ≤ 16) → (∀ j, j < k → z1 j = shW bf nb bk j) → fP Γ (fset (w.1, x) 59 0 (aI 1 64 z1)) H → va_S (fA Γ) s.heap H locs → lv_has ls 7 [(4, .int (nI k)), (3, .int (nI fo)), (2, .int (nI ((nb + 9 + 63) / 64 * 64))), (0, .ref (w.1 20 0)), (1, .int (nI tt))] → W p l e (rmD 3 0 0) s m [.ref (w.1 20 0), .int (nI tt)].toArray below meth c H locs 0 0 (MQ below (va_Qv (fun w1 => w1.1 = w.1 ∧ (∀ k i, ¬ (k = 39 ∨ k = 20 ∨ (57 ≤ k ∧ k ≤ 61)) → w1.2 k i = w.2 k i) ∧ w1.2 20 0 = some (oMo σ w th true) ∧ RmH true w1 ∧ ∃ d, w1.2 39 0 = some (aI 1 128 d) ∧ (∀ j, j < 8 → d (8 * tt + j) = shD bf nb j) ∧ ∀ i, ¬ (8 * tt ≤ i ∧ i < 8 * tt + 8) → d i = f39 i) (fI Γ) (fA Γ)) [.ref (w.1 20 0), .int (nI tt)].toArray s 0 0 (fA Γ)) (F0 m 55 ls []) := by
            intro fuB
            induction fuB with
            | zero =>
              intro k z1 H locs ls hf
              exact absurd hf (Nat.not_lt_zero _)
            | succ fuB ihB =>
              intro k z1 H locs ls hf hk hz1 hP hS hl
              refine lv_iload hx hb dX5_reckon_55 (lv_at hl 0 rfl) ?_
              refine lv_bipush (v := nI 16) hx hb dX5_reckon_57 (by decide) ?_
              refine fw_geN (tgt := 133) hx hb (by omega) (by omega) dX5_reckon_59 (by decide) (fun c_59 => ?_) (fun c_59 => ?_)
              · refine lv_bipush (v := nI 16) hx hb dX5_reckon_133 (by decide) ?_
                refine lv_istore (lv' := [(4, .int (nI 16)), (3, .int (nI fo)), (2, .int (nI ((nb + 9 + 63) / 64 * 64))), (0, .ref (w.1 20 0)), (1, .int (nI tt))]) hx hb dX5_reckon_135 hl (by decide) rfl (fun ls hl => ?_)
                refine W.widen (k := 0) (n := 0) (Nat.le_of_ble_eq_true rfl) (Nat.le_of_ble_eq_true rfl) ?_
                have loopC : ∀ (fuC : Nat) (i : Nat) (z2 : Nat → Int32) (H : Heap) (locs : List Loc) (ls : Array Slot), 48 - i < fuC → (i ≤ 48) → (∀ j, j < 16 + i → z2 j = shSf (shW bf nb bk) i j) → fP Γ (fset (w.1, x) 59 0 (aI 1 64 z2)) H → va_S (fA Γ) s.heap H locs → lv_has ls 7 [(4, .int (nI (16 + i))), (3, .int (nI fo)), (2, .int (nI ((nb + 9 + 63) / 64 * 64))), (0, .ref (w.1 20 0)), (1, .int (nI tt))] → W p l e (rmD 3 0 0) s m [.ref (w.1 20 0), .int (nI tt)].toArray below meth c H locs 0 0 (MQ below (va_Qv (fun w1 => w1.1 = w.1 ∧ (∀ k i, ¬ (k = 39 ∨ k = 20 ∨ (57 ≤ k ∧ k ≤ 61)) → w1.2 k i = w.2 k i) ∧ w1.2 20 0 = some (oMo σ w th true) ∧ RmH true w1 ∧ ∃ d, w1.2 39 0 = some (aI 1 128 d) ∧ (∀ j, j < 8 → d (8 * tt + j) = shD bf nb j) ∧ ∀ i, ¬ (8 * tt ≤ i ∧ i < 8 * tt + 8) → d i = f39 i) (fI Γ) (fA Γ)) [.ref (w.1 20 0), .int (nI tt)].toArray s 0 0 (fA Γ)) (F0 m 137 ls []) := by
                  intro fuC
                  induction fuC with
                  | zero =>
                    intro i z2 H locs ls hf
                    exact absurd hf (Nat.not_lt_zero _)
                  | succ fuC ihC =>
                    intro i z2 H locs ls hf hi hz2 hP hS hl
                    refine lv_iload hx hb dX5_reckon_137 (lv_at hl 0 rfl) ?_
                    refine lv_bipush (v := nI 64) hx hb dX5_reckon_139 (by decide) ?_
                    refine fw_geN (tgt := 244) hx hb (by omega) (by omega) dX5_reckon_141 (by decide) (fun c_141 => ?_) (fun c_141 => ?_)
                    · have hi9 : i = 48 := by omega
                      have hz3 : ∀ j, j < 64 → z2 j = shSf (shW bf nb bk) 48 j := fun j hj => by rw [hz2 j (by omega), hi9]
                      obtain ⟨z3, ez3⟩ : ∃ z9, z9 = z2 := ⟨_, rfl⟩
                      rw [← ez3] at hP hz3
                      clear ez3
                      refine lv_aload_n hx hb dX5_reckon_244 rfl (lv_at hl 3 rfl) ?_
                      refine fw_cv hS (fw_rV (rest := []) (As := []) C hP hS wV_X5_168 (k_X5_block l Γ (fset (w.1, x) 59 0 (aI 1 64 z3)) σ th true kf z3 zh zn ((fset_ne (by decide)).trans ((hxfr 20 0 (by omega)).trans hu20)) ((fset_ne (by decide)).trans ((hxfr 57 0 (by omega)).trans hu57)) hkf fset_at ((fset_ne (by decide)).trans hx60) ((fset_ne (by decide)).trans hx61)) ((fset_ne (by decide)).trans ((hxfr 20 0 (by omega)).trans hu20)) rfl rfl (fRm_mk rfl rfl (Nat.le_of_ble_eq_true rfl) (Nat.le_of_ble_eq_true rfl) (Nat.le_of_ble_eq_true rfl) (Nat.le_of_ble_eq_true rfl) (Nat.le_of_ble_eq_true rfl)) rfl hl.1 rfl dX5_reckon_245) (fun w1 H locs hp hP hS => ?_)
                      obtain ⟨zb, zn2, rfl, hzb⟩ := hp
                      refine lv_iinc (v := nI (fo + 64)) (lv' := [(3, .int (nI (fo + 64))), (4, .int (nI (16 + i))), (2, .int (nI ((nb + 9 + 63) / 64 * 64))), (0, .ref (w.1 20 0)), (1, .int (nI tt))]) hx hb dX5_reckon_248 hl (k := 1) rfl (by rw [show Int32.ofInt 64 = nI 64 from rfl, nI_add]) (by decide) rfl (fun ls hl => ?_)
                      refine lv_goto (tgt := 47) hx hb dX5_reckon_251 (by decide) ?_
                      refine W.widen (k := 0) (n := 0) (Nat.le_of_ble_eq_true rfl) (Nat.le_of_ble_eq_true rfl) ?_
                      exact ihA (bk + 1) (fo + 64) (((fset (fset (fset (w.1, x) 59 0 (aI 1 64 z3)) 61 0 (aI 1 8 zn2)) 60 0 (aI 1 8 zb))).2) zb z3 zn2 H locs ls (by omega) (by omega) (by omega) fset_at ((fset_ne (by decide)).trans ((fset_ne (by decide)).trans fset_at)) ((fset_ne (by decide)).trans fset_at) (fun k i q => ((fset_ne (by omega)).trans ((fset_ne (by omega)).trans ((fset_ne (by omega)).trans (hxfr k i q))))) (hb_step (z3 := shW bf nb bk) hz (fun _ _ => rfl) hz3 hzb) hP hS (lv_sub hl [0, 2, 3, 4] rfl)
                    · refine lv_aload_n hx hb dX5_reckon_144 rfl (lv_at hl 3 rfl) ?_
                      refine gf_X5_75 C hP ((fset_ne (by decide)).trans ((hxfr 20 0 (by omega)).trans hu20)) rfl rfl dX5_reckon_145 ?_
                      refine lv_iload hx hb dX5_reckon_148 (lv_at hl 0 rfl) ?_
                      refine lv_bipush (v := nI 15) hx hb dX5_reckon_150 (by decide) ?_
                      refine fw_subN hx hb (by omega) dX5_reckon_152 ?_
                      refine fw_iald C hP fset_at rfl ((16 + i) - 15) rfl (by omega) (by decide) dX5_reckon_153 ?_
                      refine lv_topi (fun x5_154 e_x5_154 => ?_)
                      refine lv_istore (lv' := [(5, .int x5_154), (4, .int (nI (16 + i))), (3, .int (nI fo)), (2, .int (nI ((nb + 9 + 63) / 64 * 64))), (0, .ref (w.1 20 0)), (1, .int (nI tt))]) hx hb dX5_reckon_154 hl (by decide) rfl (fun ls hl => ?_)
                      refine lv_aload_n hx hb dX5_reckon_156 rfl (lv_at hl 4 rfl) ?_
                      refine gf_X5_75 C hP ((fset_ne (by decide)).trans ((hxfr 20 0 (by omega)).trans hu20)) rfl rfl dX5_reckon_157 ?_
                      refine lv_iload hx hb dX5_reckon_160 (lv_at hl 1 rfl) ?_
                      refine lv_iconst (v := nI 2) hx hb dX5_reckon_162 (by decide) ?_
                      refine fw_subN hx hb (by omega) dX5_reckon_163 ?_
                      refine fw_iald C hP fset_at rfl ((16 + i) - 2) rfl (by omega) (by decide) dX5_reckon_164 ?_
                      refine lv_topi (fun x6_165 e_x6_165 => ?_)
                      refine lv_istore (lv' := [(6, .int x6_165), (5, .int x5_154), (4, .int (nI (16 + i))), (3, .int (nI fo)), (2, .int (nI ((nb + 9 + 63) / 64 * 64))), (0, .ref (w.1 20 0)), (1, .int (nI tt))]) hx hb dX5_reckon_165 hl (by decide) rfl (fun ls hl => ?_)
                      refine lv_aload_n hx hb dX5_reckon_167 rfl (lv_at hl 5 rfl) ?_
                      refine gf_X5_75 C hP ((fset_ne (by decide)).trans ((hxfr 20 0 (by omega)).trans hu20)) rfl rfl dX5_reckon_168 ?_
                      refine lv_iload hx hb dX5_reckon_171 (lv_at hl 2 rfl) ?_
                      refine lv_aload_n hx hb dX5_reckon_173 rfl (lv_at hl 5 rfl) ?_
                      refine gf_X5_75 C hP ((fset_ne (by decide)).trans ((hxfr 20 0 (by omega)).trans hu20)) rfl rfl dX5_reckon_174 ?_
                      refine lv_iload hx hb dX5_reckon_177 (lv_at hl 2 rfl) ?_
                      refine lv_bipush (v := nI 16) hx hb dX5_reckon_179 (by decide) ?_
                      refine fw_subN hx hb (by omega) dX5_reckon_181 ?_
                      refine fw_iald C hP fset_at rfl ((16 + i) - 16) rfl (by omega) (by decide) dX5_reckon_182 ?_
                      refine lv_aload_n hx hb dX5_reckon_183 rfl (lv_at hl 5 rfl) ?_
                      refine gf_X5_75 C hP ((fset_ne (by decide)).trans ((hxfr 20 0 (by omega)).trans hu20)) rfl rfl dX5_reckon_184 ?_
                      refine lv_iload hx hb dX5_reckon_187 (lv_at hl 2 rfl) ?_
                      refine lv_bipush (v := nI 7) hx hb dX5_reckon_189 (by decide) ?_
                      refine fw_subN hx hb (by omega) dX5_reckon_191 ?_
                      refine fw_iald C hP fset_at rfl ((16 + i) - 7) rfl (by omega) (by decide) dX5_reckon_192 ?_
                      refine lv_iadd hx hb dX5_reckon_193 ?_
                      refine lv_iload hx hb dX5_reckon_194 (lv_at hl 1 rfl) ?_
                      refine lv_bipush (v := 7) hx hb dX5_reckon_196 (by decide) ?_
                      refine fw_ci0 (w := (fset (w.1, x) 59 0 (aI 1 64 z2))) hS (fw_rS (rest := [.int ((z2 ((16 + i) - 16)) + (z2 ((16 + i) - 7))), .int (nI (16 + i)), .ref (w.1 59 0)]) (As := [.int x5_154, .int 7]) C hP hS wS_X5_164 (k_X5_turn l Γ (fset (w.1, x) 59 0 (aI 1 64 z2)) x5_154 7) (fRm_mk rfl rfl (Nat.le_of_ble_eq_true rfl) (Nat.le_of_ble_eq_true rfl) (Nat.le_of_ble_eq_true rfl) (Nat.le_of_ble_eq_true rfl) (Nat.le_of_ble_eq_true rfl)) rfl hl.1 rfl dX5_reckon_198) (fun H locs hP hS => ?_)
                      refine lv_iload hx hb dX5_reckon_201 (lv_at hl 1 rfl) ?_
                      refine lv_bipush (v := 18) hx hb dX5_reckon_203 (by decide) ?_
                      refine fw_ci0 (w := (fset (w.1, x) 59 0 (aI 1 64 z2))) hS (fw_rS (rest := [.int (trn x5_154 7), .int ((z2 ((16 + i) - 16)) + (z2 ((16 + i) - 7))), .int (nI (16 + i)), .ref (w.1 59 0)]) (As := [.int x5_154, .int 18]) C hP hS wS_X5_164 (k_X5_turn l Γ (fset (w.1, x) 59 0 (aI 1 64 z2)) x5_154 18) (fRm_mk rfl rfl (Nat.le_of_ble_eq_true rfl) (Nat.le_of_ble_eq_true rfl) (Nat.le_of_ble_eq_true rfl) (Nat.le_of_ble_eq_true rfl) (Nat.le_of_ble_eq_true rfl)) rfl hl.1 rfl dX5_reckon_205) (fun H locs hP hS => ?_)
                      refine lv_ixor hx hb dX5_reckon_208 ?_
                      refine lv_iload hx hb dX5_reckon_209 (lv_at hl 1 rfl) ?_
                      refine lv_iconst (v := 3) hx hb dX5_reckon_211 (by decide) ?_
                      refine lv_iushr (v := ush x5_154 3) hx hb dX5_reckon_212 rfl ?_
                      refine lv_ixor hx hb dX5_reckon_213 ?_
                      refine lv_iadd hx hb dX5_reckon_214 ?_
                      refine lv_iload hx hb dX5_reckon_215 (lv_at hl 0 rfl) ?_
                      refine lv_bipush (v := 17) hx hb dX5_reckon_217 (by decide) ?_
                      refine fw_ci0 (w := (fset (w.1, x) 59 0 (aI 1 64 z2))) hS (fw_rS (rest := [.int (((z2 ((16 + i) - 16)) + (z2 ((16 + i) - 7))) + (((trn x5_154 7) ^^^ (trn x5_154 18)) ^^^ (ush x5_154 3))), .int (nI (16 + i)), .ref (w.1 59 0)]) (As := [.int x6_165, .int 17]) C hP hS wS_X5_164 (k_X5_turn l Γ (fset (w.1, x) 59 0 (aI 1 64 z2)) x6_165 17) (fRm_mk rfl rfl (Nat.le_of_ble_eq_true rfl) (Nat.le_of_ble_eq_true rfl) (Nat.le_of_ble_eq_true rfl) (Nat.le_of_ble_eq_true rfl) (Nat.le_of_ble_eq_true rfl)) rfl hl.1 rfl dX5_reckon_219) (fun H locs hP hS => ?_)
                      refine lv_iload hx hb dX5_reckon_222 (lv_at hl 0 rfl) ?_
                      refine lv_bipush (v := 19) hx hb dX5_reckon_224 (by decide) ?_
                      refine fw_ci0 (w := (fset (w.1, x) 59 0 (aI 1 64 z2))) hS (fw_rS (rest := [.int (trn x6_165 17), .int (((z2 ((16 + i) - 16)) + (z2 ((16 + i) - 7))) + (((trn x5_154 7) ^^^ (trn x5_154 18)) ^^^ (ush x5_154 3))), .int (nI (16 + i)), .ref (w.1 59 0)]) (As := [.int x6_165, .int 19]) C hP hS wS_X5_164 (k_X5_turn l Γ (fset (w.1, x) 59 0 (aI 1 64 z2)) x6_165 19) (fRm_mk rfl rfl (Nat.le_of_ble_eq_true rfl) (Nat.le_of_ble_eq_true rfl) (Nat.le_of_ble_eq_true rfl) (Nat.le_of_ble_eq_true rfl) (Nat.le_of_ble_eq_true rfl)) rfl hl.1 rfl dX5_reckon_226) (fun H locs hP hS => ?_)
                      refine lv_ixor hx hb dX5_reckon_229 ?_
                      refine lv_iload hx hb dX5_reckon_230 (lv_at hl 0 rfl) ?_
                      refine lv_bipush (v := 10) hx hb dX5_reckon_232 (by decide) ?_
                      refine lv_iushr (v := ush x6_165 10) hx hb dX5_reckon_234 rfl ?_
                      refine lv_ixor hx hb dX5_reckon_235 ?_
                      refine lv_iadd hx hb dX5_reckon_236 ?_
                      refine fw_iast C hP hS fset_at rfl (16 + i) rfl (by omega) (by decide) dX5_reckon_237 (fun H locs hP hS => ?_)
                      have hP : fP Γ (fset (fset (w.1, x) 59 0 (aI 1 64 z2)) 59 0 (aI 1 64 (upd z2 (16 + i) ((((z2 ((16 + i) - 16)) + (z2 ((16 + i) - 7))) + (((trn x5_154 7) ^^^ (trn x5_154 18)) ^^^ (ush x5_154 3))) + (((trn x6_165 17) ^^^ (trn x6_165 19)) ^^^ (ush x6_165 10)))))) H := hP
                      rw [fset_s] at hP
                      refine lv_iinc (v := nI (16 + i + 1)) (lv' := [(4, .int (nI (16 + i + 1))), (6, .int x6_165), (5, .int x5_154), (3, .int (nI fo)), (2, .int (nI ((nb + 9 + 63) / 64 * 64))), (0, .ref (w.1 20 0)), (1, .int (nI tt))]) hx hb dX5_reckon_238 hl (k := 2) rfl (by rw [show Int32.ofInt 1 = nI 1 from rfl, nI_add]) (by decide) rfl (fun ls hl => ?_)
                      refine lv_goto (tgt := 137) hx hb dX5_reckon_241 (by decide) ?_
                      refine W.widen (k := 0) (n := 0) (Nat.le_of_ble_eq_true rfl) (Nat.le_of_ble_eq_true rfl) ?_
                      exact ihC (i + 1) (upd z2 (16 + i) ((((z2 ((16 + i) - 16)) + (z2 ((16 + i) - 7))) + (((trn x5_154 7) ^^^ (trn x5_154 18)) ^^^ (ush x5_154 3))) + (((trn x6_165 17) ^^^ (trn x6_165 19)) ^^^ (ush x6_165 10)))) H locs ls (by omega) (by omega) (sp_step hz2 (by rw [e_x5_154, e_x6_165]; exact add4 _ _ _ _)) hP hS (lv_sub hl [0, 3, 4, 5, 6] rfl)
                exact loopC 49 0 z1 _ _ _ (by omega) (by omega) (fun j hj => hz1 j (by omega)) hP hS (lv_sub hl [0, 1, 2, 3, 4] rfl)
              · refine lv_iload_n hx hb dX5_reckon_62 rfl (lv_at hl 1 rfl) ?_
                refine lv_iconst (v := nI 4) hx hb dX5_reckon_63 (by decide) ?_
                refine lv_iload hx hb dX5_reckon_64 (lv_at hl 0 rfl) ?_
                refine fw_mulN hx hb dX5_reckon_66 ?_
                refine fw_addN hx hb dX5_reckon_67 ?_
                refine lv_istore (lv' := [(5, .int (nI (fo + (4 * k)))), (4, .int (nI k)), (3, .int (nI fo)), (2, .int (nI ((nb + 9 + 63) / 64 * 64))), (0, .ref (w.1 20 0)), (1, .int (nI tt))]) hx hb dX5_reckon_68 hl (by decide) rfl (fun ls hl => ?_)
                refine lv_aload_n hx hb dX5_reckon_70 rfl (lv_at hl 4 rfl) ?_
                refine gf_X5_75 C hP ((fset_ne (by decide)).trans ((hxfr 20 0 (by omega)).trans hu20)) rfl rfl dX5_reckon_71 ?_
                refine lv_iload hx hb dX5_reckon_74 (lv_at hl 1 rfl) ?_
                refine lv_aload_n hx hb dX5_reckon_76 rfl (lv_at hl 4 rfl) ?_
                refine lv_iload_n hx hb dX5_reckon_77 rfl (lv_at hl 5 rfl) ?_
                refine lv_iload hx hb dX5_reckon_78 (lv_at hl 0 rfl) ?_
                refine lv_iload_n hx hb dX5_reckon_80 rfl (lv_at hl 3 rfl) ?_
                refine fw_ci0 (w := (fset (w.1, x) 59 0 (aI 1 64 z1))) hS (fw_rV (rest := [.int (nI k), .ref (w.1 59 0)]) (As := [.int (nI tt), .int (nI (fo + (4 * k))), .int (nI ((nb + 9 + 63) / 64 * 64))]) C hP hS wV_X5_160 (k_X5_padded l Γ (fset (w.1, x) 59 0 (aI 1 64 z1)) σ th true tt nb bf f38 f40 ht hnb ((fset_ne (by decide)).trans ((hxfr 38 0 (by omega)).trans ((hufr 38 0 (by omega)).trans g38))) v38 ((fset_ne (by decide)).trans ((hxfr 40 0 (by omega)).trans ((hufr 40 0 (by omega)).trans g40))) v40 (fo + (4 * k)) ((nb + 9 + 63) / 64 * 64) (by omega) (by omega) ((fset_ne (by decide)).trans ((hxfr 20 0 (by omega)).trans hu20))) ((fset_ne (by decide)).trans ((hxfr 20 0 (by omega)).trans hu20)) rfl rfl (fRm_mk rfl rfl (Nat.le_of_ble_eq_true rfl) (Nat.le_of_ble_eq_true rfl) (Nat.le_of_ble_eq_true rfl) (Nat.le_of_ble_eq_true rfl) (Nat.le_of_ble_eq_true rfl)) rfl hl.1 rfl dX5_reckon_81) (fun H locs hP hS => ?_)
                refine lv_bipush (v := 24) hx hb dX5_reckon_84 (by decide) ?_
                refine lv_ishl hx hb dX5_reckon_86 ?_
                refine lv_aload_n hx hb dX5_reckon_87 rfl (lv_at hl 4 rfl) ?_
                refine lv_iload_n hx hb dX5_reckon_88 rfl (lv_at hl 5 rfl) ?_
                refine lv_iload hx hb dX5_reckon_89 (lv_at hl 0 rfl) ?_
                refine lv_iconst (v := nI 1) hx hb dX5_reckon_91 (by decide) ?_
                refine fw_addN hx hb dX5_reckon_92 ?_
                refine lv_iload_n hx hb dX5_reckon_93 rfl (lv_at hl 3 rfl) ?_
                refine fw_ci0 (w := (fset (w.1, x) 59 0 (aI 1 64 z1))) hS (fw_rV (rest := [.int ((mp bf nb ((nb + 9 + 63) / 64 * 64) (fo + (4 * k))) <<< (24 &&& 31)), .int (nI k), .ref (w.1 59 0)]) (As := [.int (nI tt), .int (nI (fo + (4 * k) + 1)), .int (nI ((nb + 9 + 63) / 64 * 64))]) C hP hS wV_X5_160 (k_X5_padded l Γ (fset (w.1, x) 59 0 (aI 1 64 z1)) σ th true tt nb bf f38 f40 ht hnb ((fset_ne (by decide)).trans ((hxfr 38 0 (by omega)).trans ((hufr 38 0 (by omega)).trans g38))) v38 ((fset_ne (by decide)).trans ((hxfr 40 0 (by omega)).trans ((hufr 40 0 (by omega)).trans g40))) v40 (fo + (4 * k) + 1) ((nb + 9 + 63) / 64 * 64) (by omega) (by omega) ((fset_ne (by decide)).trans ((hxfr 20 0 (by omega)).trans hu20))) ((fset_ne (by decide)).trans ((hxfr 20 0 (by omega)).trans hu20)) rfl rfl (fRm_mk rfl rfl (Nat.le_of_ble_eq_true rfl) (Nat.le_of_ble_eq_true rfl) (Nat.le_of_ble_eq_true rfl) (Nat.le_of_ble_eq_true rfl) (Nat.le_of_ble_eq_true rfl)) rfl hl.1 rfl dX5_reckon_94) (fun H locs hP hS => ?_)
                refine lv_bipush (v := 16) hx hb dX5_reckon_97 (by decide) ?_
                refine lv_ishl hx hb dX5_reckon_99 ?_
                refine lv_ior hx hb dX5_reckon_100 ?_
                refine lv_aload_n hx hb dX5_reckon_101 rfl (lv_at hl 4 rfl) ?_
                refine lv_iload_n hx hb dX5_reckon_102 rfl (lv_at hl 5 rfl) ?_
                refine lv_iload hx hb dX5_reckon_103 (lv_at hl 0 rfl) ?_
                refine lv_iconst (v := nI 2) hx hb dX5_reckon_105 (by decide) ?_
                refine fw_addN hx hb dX5_reckon_106 ?_
                refine lv_iload_n hx hb dX5_reckon_107 rfl (lv_at hl 3 rfl) ?_
                refine fw_ci0 (w := (fset (w.1, x) 59 0 (aI 1 64 z1))) hS (fw_rV (rest := [.int (((mp bf nb ((nb + 9 + 63) / 64 * 64) (fo + (4 * k))) <<< (24 &&& 31)) ||| ((mp bf nb ((nb + 9 + 63) / 64 * 64) (fo + (4 * k) + 1)) <<< (16 &&& 31))), .int (nI k), .ref (w.1 59 0)]) (As := [.int (nI tt), .int (nI (fo + (4 * k) + 2)), .int (nI ((nb + 9 + 63) / 64 * 64))]) C hP hS wV_X5_160 (k_X5_padded l Γ (fset (w.1, x) 59 0 (aI 1 64 z1)) σ th true tt nb bf f38 f40 ht hnb ((fset_ne (by decide)).trans ((hxfr 38 0 (by omega)).trans ((hufr 38 0 (by omega)).trans g38))) v38 ((fset_ne (by decide)).trans ((hxfr 40 0 (by omega)).trans ((hufr 40 0 (by omega)).trans g40))) v40 (fo + (4 * k) + 2) ((nb + 9 + 63) / 64 * 64) (by omega) (by omega) ((fset_ne (by decide)).trans ((hxfr 20 0 (by omega)).trans hu20))) ((fset_ne (by decide)).trans ((hxfr 20 0 (by omega)).trans hu20)) rfl rfl (fRm_mk rfl rfl (Nat.le_of_ble_eq_true rfl) (Nat.le_of_ble_eq_true rfl) (Nat.le_of_ble_eq_true rfl) (Nat.le_of_ble_eq_true rfl) (Nat.le_of_ble_eq_true rfl)) rfl hl.1 rfl dX5_reckon_108) (fun H locs hP hS => ?_)
                refine lv_bipush (v := 8) hx hb dX5_reckon_111 (by decide) ?_
                refine lv_ishl hx hb dX5_reckon_113 ?_
                refine lv_ior hx hb dX5_reckon_114 ?_
                refine lv_aload_n hx hb dX5_reckon_115 rfl (lv_at hl 4 rfl) ?_
                refine lv_iload_n hx hb dX5_reckon_116 rfl (lv_at hl 5 rfl) ?_
                refine lv_iload hx hb dX5_reckon_117 (lv_at hl 0 rfl) ?_
                refine lv_iconst (v := nI 3) hx hb dX5_reckon_119 (by decide) ?_
                refine fw_addN hx hb dX5_reckon_120 ?_
                refine lv_iload_n hx hb dX5_reckon_121 rfl (lv_at hl 3 rfl) ?_
                refine fw_ci0 (w := (fset (w.1, x) 59 0 (aI 1 64 z1))) hS (fw_rV (rest := [.int ((((mp bf nb ((nb + 9 + 63) / 64 * 64) (fo + (4 * k))) <<< (24 &&& 31)) ||| ((mp bf nb ((nb + 9 + 63) / 64 * 64) (fo + (4 * k) + 1)) <<< (16 &&& 31))) ||| ((mp bf nb ((nb + 9 + 63) / 64 * 64) (fo + (4 * k) + 2)) <<< (8 &&& 31))), .int (nI k), .ref (w.1 59 0)]) (As := [.int (nI tt), .int (nI (fo + (4 * k) + 3)), .int (nI ((nb + 9 + 63) / 64 * 64))]) C hP hS wV_X5_160 (k_X5_padded l Γ (fset (w.1, x) 59 0 (aI 1 64 z1)) σ th true tt nb bf f38 f40 ht hnb ((fset_ne (by decide)).trans ((hxfr 38 0 (by omega)).trans ((hufr 38 0 (by omega)).trans g38))) v38 ((fset_ne (by decide)).trans ((hxfr 40 0 (by omega)).trans ((hufr 40 0 (by omega)).trans g40))) v40 (fo + (4 * k) + 3) ((nb + 9 + 63) / 64 * 64) (by omega) (by omega) ((fset_ne (by decide)).trans ((hxfr 20 0 (by omega)).trans hu20))) ((fset_ne (by decide)).trans ((hxfr 20 0 (by omega)).trans hu20)) rfl rfl (fRm_mk rfl rfl (Nat.le_of_ble_eq_true rfl) (Nat.le_of_ble_eq_true rfl) (Nat.le_of_ble_eq_true rfl) (Nat.le_of_ble_eq_true rfl) (Nat.le_of_ble_eq_true rfl)) rfl hl.1 rfl dX5_reckon_122) (fun H locs hP hS => ?_)
                refine lv_ior hx hb dX5_reckon_125 ?_
                refine fw_iast C hP hS fset_at rfl k rfl (by omega) (by decide) dX5_reckon_126 (fun H locs hP hS => ?_)
                have hP : fP Γ (fset (fset (w.1, x) 59 0 (aI 1 64 z1)) 59 0 (aI 1 64 (upd z1 k (((((mp bf nb ((nb + 9 + 63) / 64 * 64) (fo + (4 * k))) <<< (24 &&& 31)) ||| ((mp bf nb ((nb + 9 + 63) / 64 * 64) (fo + (4 * k) + 1)) <<< (16 &&& 31))) ||| ((mp bf nb ((nb + 9 + 63) / 64 * 64) (fo + (4 * k) + 2)) <<< (8 &&& 31))) ||| (mp bf nb ((nb + 9 + 63) / 64 * 64) (fo + (4 * k) + 3)))))) H := hP
                rw [fset_s] at hP
                refine lv_iinc (v := nI (k + 1)) (lv' := [(4, .int (nI (k + 1))), (5, .int (nI (fo + (4 * k)))), (3, .int (nI fo)), (2, .int (nI ((nb + 9 + 63) / 64 * 64))), (0, .ref (w.1 20 0)), (1, .int (nI tt))]) hx hb dX5_reckon_127 hl (k := 1) rfl (by rw [show Int32.ofInt 1 = nI 1 from rfl, nI_add]) (by decide) rfl (fun ls hl => ?_)
                refine lv_goto (tgt := 55) hx hb dX5_reckon_130 (by decide) ?_
                refine W.widen (k := 0) (n := 0) (Nat.le_of_ble_eq_true rfl) (Nat.le_of_ble_eq_true rfl) ?_
                exact ihB (k + 1) (upd z1 k (((((mp bf nb ((nb + 9 + 63) / 64 * 64) (fo + (4 * k))) <<< (24 &&& 31)) ||| ((mp bf nb ((nb + 9 + 63) / 64 * 64) (fo + (4 * k) + 1)) <<< (16 &&& 31))) ||| ((mp bf nb ((nb + 9 + 63) / 64 * 64) (fo + (4 * k) + 2)) <<< (8 &&& 31))) ||| (mp bf nb ((nb + 9 + 63) / 64 * 64) (fo + (4 * k) + 3)))) H locs ls (by omega) (by omega) (up_s hz1 (mp_w hbk9 hfo c_59)) hP hS (lv_sub hl [0, 2, 3, 4, 5] rfl)
          exact loopB 17 0 zw _ _ _ (by omega) (by omega) (fun j hj => absurd hj (Nat.not_lt_zero j)) hP hS (lv_sub hl [0, 1, 2, 3, 4] rfl)
    exact loopA ((nb + 8) / 64 + 2) 0 0 u0 (va_cpy ff f60 0 0 8) f59 f61 _ _ _ (by omega) (by omega) (by omega) y60 ((yfr 59 0 (by decide)).trans ((hufr 59 0 (by omega)).trans g59)) ((yfr 61 0 (by decide)).trans ((hufr 61 0 (by omega)).trans g61)) (fun k i q => yfr k i (by omega)) (fun j hj => (cpy_0 hj).trans (hff j hj)) hP hS (lv_sub hl [0, 1, 2, 3] rfl)
  refine lv_aload_n hx hb dX5_reckon_0 rfl (lv_at hl 0 rfl) ?_
  refine gf_X5_153 C hP h20 rfl rfl dX5_reckon_1 ?_
  refine fw_ineB (tgt := 11) hx hb dX5_reckon_4 (by decide) (fun c_4 => ?_) (fun c_4 => ?_)
  · refine W.widen (k := 0) (n := 0) (Nat.le_of_ble_eq_true rfl) (Nat.le_of_ble_eq_true rfl) ?_
    exact join w.2 f57 f58 _ _ _ (by rw [c_4] at h20; exact h20) g57 g58 (fun _ _ _ => rfl) (v57 c_4) (v58 c_4) hP hS (lv_sub hl [0, 1] rfl)
  · refine lv_aload_n hx hb dX5_reckon_7 rfl (lv_at hl 0 rfl) ?_
    refine fw_cv hS (fw_rV (rest := []) (As := []) C hP hS wV_X5_157 (k_X5_prepare l Γ w σ th z h20 mH) h20 rfl rfl (fRm_mk rfl rfl (Nat.le_of_ble_eq_true rfl) (Nat.le_of_ble_eq_true rfl) (Nat.le_of_ble_eq_true rfl) (Nat.le_of_ble_eq_true rfl) (Nat.le_of_ble_eq_true rfl)) rfl hl.1 rfl dX5_reckon_8) (fun w1 H locs hp hP hS => ?_)
    obtain ⟨ad1, u1⟩ := w1
    obtain ⟨ha1, hpfr, hp20, k1, ff1, hp57, hp58, hk1, hff1⟩ := hp
    have ha1 : ad1 = w.1 := ha1
    subst ha1
    refine W.widen (k := 0) (n := 0) (Nat.le_of_ble_eq_true rfl) (Nat.le_of_ble_eq_true rfl) ?_
    exact join u1 k1 ff1 _ _ _ hp20 hp57 hp58 hpfr hk1 hff1 hP hS (lv_sub hl [0, 1] rfl)
