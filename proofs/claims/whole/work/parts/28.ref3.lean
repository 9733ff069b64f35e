theorem rl_y {σ : St} {a b i : Nat} {x : Int64} (h1 : s_rp σ i = a) (h2 : s_rk σ i = b) (h3 : ¬ x < s_rf σ i) (h4 : ¬ s_rt σ i < x) : s_rl σ a b x (i + 1) = true := by
  rw [s_rl, decide_eq_true h1, decide_eq_true h2, decide_eq_true (Int64.not_lt.mp h3), decide_eq_true (Int64.not_lt.mp h4)]
  simp
theorem rl_n {σ : St} {a b i : Nat} {x : Int64} (h : s_rl σ a b x i = false) (h1 : s_rp σ i ≠ a ∨ s_rk σ i ≠ b ∨ x < s_rf σ i ∨ s_rt σ i < x) : s_rl σ a b x (i + 1) = false := by
  rw [s_rl, h]
  rcases h1 with h1 | h1 | h1 | h1
  · rw [decide_eq_false h1]; rfl
  · rw [decide_eq_false h1, Bool.and_false]; rfl
  · rw [decide_eq_false (Int64.not_le.mpr h1), Bool.and_false]; rfl
  · rw [decide_eq_false (Int64.not_le.mpr h1), Bool.and_false]; rfl
theorem ob_n {σ : St} {t b i : Nat} (h : s_ob σ t b i = false) (h1 : s_bh σ b i = false ∨ s_hs σ t i none (s_ns σ) = true) : s_ob σ t b (i + 1) = false := by
  rw [s_ob, h]
  rcases h1 with h1 | h1
  · rw [h1]; rfl
  · rw [h1]; simp
theorem up_then {f g : Nat → Int32} {dg sw : Nat → Nat → Int32} {n t nt : Nat} (ht : t < nt) (h1 : ∀ t, t < nt → ∀ j, j < 8 → f (8 * t + j) = dg t j) (h2 : ∀ i, i < n → ∀ j, j < 8 → g (8 * i + j) = sw i j) : ∀ i, i < n + 1 → ∀ j, j < 8 → va_cpy f g (8 * t) (8 * n) 8 (8 * i + j) = va_up sw n (dg t) i j := by
  intro i hi j hj
  unfold va_cpy va_up
  by_cases e : i = n
  · rw [if_pos e, if_pos (by omega), show 8 * t + (8 * i + j - 8 * n) = 8 * t + j by omega]
    exact h1 t ht j hj
  · rw [if_neg e, if_neg (by omega)]
    exact h2 i (by omega) j hj
set_option maxHeartbeats 16000000 in
set_option maxRecDepth 100000 in
theorem k_X5_sign (l : Launch) (Γ : FG) (w : FW) (σ : St) (th : Int32) (tx px mx : Int32) (x : Int64) (hI : Inv σ) (hR : Rm σ th w) : Met l yX5_sign (ws_ yX5_sign cX5_sign 8 (some .int)) (rmD 12 0 0) (va_Pc [.ref (w.1 20 0), .int tx, .int px, .int mx, .long x] (fI Γ w)) (va_Qi (fun r w1 => (∀ v9, a_sign σ tx px mx x = some v9 → r = v9) ∧ Rm (n_sign σ tx px mx x) (b2i (a_sign σ tx px mx x).isNone) w1 ∧ frm w w1) (fI Γ) (fA Γ)) 0 0 (fA Γ) := by
  refine fw_met (by decide) (Nat.le_of_ble_eq_true rfl) ?_
  intro p e s m below meth c ls C hP hS hr hlk hin hl
  have C : fC p s m [.ref (w.1 20 0), .int tx, .int px, .int mx, .long x].toArray c cX5_sign 8 RX5 Γ := C
  have hx := C.1.1
  have hb := C.1.2.1
  have hl : lv_has ls 8 [(0, .ref (w.1 20 0)), (1, .int tx), (2, .int px), (3, .int mx), (4, .long x)] := hl
  obtain ⟨⟨hnp, hnr, hnt, hns, hnw, hck0, hck1⟩, hIr, hIt, hIb, hIn, hIs, hIg, hIw, hIa⟩ := id hI
  obtain ⟨z0, n20, nA, nT, nS, nO, nH⟩ := id hR
  refine lv_aload_n hx hb dX5_sign_0 rfl (lv_at hl 0 rfl) ?_
  refine lv_iconst (v := 0) hx hb dX5_sign_1 (by decide) ?_
  refine pf_X5_84 C hP hS rfl rfl n20 rfl (Nat.le_of_ble_eq_true rfl) dX5_sign_2 (fun H locs hP hS => ?_)
  have hP : fP Γ (fset w 20 0 (oO 5 [.int (nI (s_np σ)), .int (nI (s_nr σ)), .ref (w.1 32 0), .ref (w.1 33 0), .ref (w.1 34 0), .ref (w.1 35 0), .int (nI (s_nt σ)), .ref (w.1 37 0), .ref (w.1 38 0), .ref (w.1 39 0), .ref (w.1 40 0), .ref (w.1 41 0), .ref (w.1 42 0), .ref (w.1 43 0), .ref (w.1 44 0), .int (nI (s_ns σ)), .ref (w.1 46 0), .ref (w.1 47 0), .ref (w.1 48 0), .ref (w.1 49 0), .ref (w.1 50 0), .int (nI (s_nw σ)), .ref (w.1 52 0), .ref (w.1 53 0), .long (s_ck σ), .int 0, .int (b2i z0), .ref (w.1 57 0), .ref (w.1 58 0), .ref (w.1 59 0), .ref (w.1 60 0), .ref (w.1 61 0)])) H := hP
  obtain ⟨u0, hu0⟩ : ∃ u, u = ((fset w 20 0 (oO 5 [.int (nI (s_np σ)), .int (nI (s_nr σ)), .ref (w.1 32 0), .ref (w.1 33 0), .ref (w.1 34 0), .ref (w.1 35 0), .int (nI (s_nt σ)), .ref (w.1 37 0), .ref (w.1 38 0), .ref (w.1 39 0), .ref (w.1 40 0), .ref (w.1 41 0), .ref (w.1 42 0), .ref (w.1 43 0), .ref (w.1 44 0), .int (nI (s_ns σ)), .ref (w.1 46 0), .ref (w.1 47 0), .ref (w.1 48 0), .ref (w.1 49 0), .ref (w.1 50 0), .int (nI (s_nw σ)), .ref (w.1 52 0), .ref (w.1 53 0), .long (s_ck σ), .int 0, .int (b2i z0), .ref (w.1 57 0), .ref (w.1 58 0), .ref (w.1 59 0), .ref (w.1 60 0), .ref (w.1 61 0)]))).2 := ⟨_, rfl⟩
  have hw0 : (fset w 20 0 (oO 5 [.int (nI (s_np σ)), .int (nI (s_nr σ)), .ref (w.1 32 0), .ref (w.1 33 0), .ref (w.1 34 0), .ref (w.1 35 0), .int (nI (s_nt σ)), .ref (w.1 37 0), .ref (w.1 38 0), .ref (w.1 39 0), .ref (w.1 40 0), .ref (w.1 41 0), .ref (w.1 42 0), .ref (w.1 43 0), .ref (w.1 44 0), .int (nI (s_ns σ)), .ref (w.1 46 0), .ref (w.1 47 0), .ref (w.1 48 0), .ref (w.1 49 0), .ref (w.1 50 0), .int (nI (s_nw σ)), .ref (w.1 52 0), .ref (w.1 53 0), .long (s_ck σ), .int 0, .int (b2i z0), .ref (w.1 57 0), .ref (w.1 58 0), .ref (w.1 59 0), .ref (w.1 60 0), .ref (w.1 61 0)])) = (w.1, u0) := by rw [hu0]; rfl
  rw [hw0] at hP
  have hR0 : Rm σ 0 (w.1, u0) := by rw [← hw0]; exact Rm_th0 nA nT nS nO nH
  have hf0 : frm w (w.1, u0) := by rw [← hw0]; exact frm_set (by decide)
  clear hw0 hu0 n20 nA nT nS nO nH
  obtain ⟨z, m20, mA, mT, mS, mO, mH⟩ := id hR0
  obtain ⟨⟨f32, g32, v32⟩, ⟨f33, g33, v33⟩, ⟨f34, g34, v34⟩, ⟨f35, g35, v35⟩⟩ := id mA
  obtain ⟨⟨f37, g37, v37⟩, ⟨f38, g38, v38⟩, ⟨f39, g39, v39⟩, ⟨f40, g40, v40⟩, ⟨f41, g41, v41⟩, ⟨f42, g42, v42⟩, ⟨f43, g43, v43⟩, ⟨f44, g44, v44⟩⟩ := id mT
  obtain ⟨⟨f46, g46, v46⟩, ⟨f47, g47, v47⟩, ⟨f48, g48, v48⟩, ⟨f49, g49, v49⟩, ⟨f50, g50, v50⟩, ⟨f52, g52, v52⟩⟩ := id mS
  obtain ⟨f53, g53, v53⟩ := id mO
  obtain ⟨⟨f57, g57, v57⟩, ⟨f58, g58, v58⟩, ⟨f59, g59⟩, ⟨f60, g60⟩, ⟨f61, g61⟩⟩ := id mH
  refine lv_aload_n hx hb dX5_sign_5 rfl (lv_at hl 0 rfl) ?_
  refine lv_iload_n hx hb dX5_sign_6 rfl (lv_at hl 1 rfl) ?_
  refine fw_ci0 (w := (w.1, u0)) hS (fw_rV (rest := []) (As := [.int tx]) C hP hS wV_X5_114 (k_X5_isThing l Γ (w.1, u0) σ 0 z tx hnt m20) m20 rfl rfl (fRm_mk rfl rfl (Nat.le_of_ble_eq_true rfl) (Nat.le_of_ble_eq_true rfl) (Nat.le_of_ble_eq_true rfl) (Nat.le_of_ble_eq_true rfl) (Nat.le_of_ble_eq_true rfl)) rfl hl.1 rfl dX5_sign_7) (fun H locs hP hS => ?_)
  refine fw_ieqB (tgt := 28) hx hb dX5_sign_10 (by decide) (fun c_10 => ?_) (fun c_10 => ?_)
  · refine lv_iconst (v := (-1)) hx hb dX5_sign_28 (by decide) ?_
    exact fw_reti C hr hlk rfl hP hS (⟨fun v9 hv9 => by rw [(sg_1 (x := x) (Or.inl c_10)).1] at hv9; exact Option.some.inj hv9, by rw [(sg_1 (x := x) (Or.inl c_10)).1, (sg_1 (x := x) (Or.inl c_10)).2]; exact hR0, hf0⟩) (Nat.le_of_ble_eq_true rfl) (Nat.le_of_ble_eq_true rfl) dX5_sign_29
  · obtain ⟨tt, htt, rfl⟩ := fIn_t c_10 (by omega)
    obtain ⟨hln, hcn, hdn, hmk, -⟩ := hIt tt
    refine lv_aload_n hx hb dX5_sign_13 rfl (lv_at hl 0 rfl) ?_
    refine lv_iload_n hx hb dX5_sign_14 rfl (lv_at hl 2 rfl) ?_
    refine fw_ci0 (w := (w.1, u0)) hS (fw_rV (rest := []) (As := [.int px]) C hP hS wV_X5_96 (k_X5_isPerson l Γ (w.1, u0) σ 0 z px hnp m20) m20 rfl rfl (fRm_mk rfl rfl (Nat.le_of_ble_eq_true rfl) (Nat.le_of_ble_eq_true rfl) (Nat.le_of_ble_eq_true rfl) (Nat.le_of_ble_eq_true rfl) (Nat.le_of_ble_eq_true rfl)) rfl hl.1 rfl dX5_sign_15) (fun H locs hP hS => ?_)
    refine fw_ieqB (tgt := 28) hx hb dX5_sign_18 (by decide) (fun c_18 => ?_) (fun c_18 => ?_)
    · refine lv_iconst (v := (-1)) hx hb dX5_sign_28 (by decide) ?_
      exact fw_reti C hr hlk rfl hP hS (⟨fun v9 hv9 => by rw [(sg_1 (x := x) (Or.inr (Or.inl c_18))).1] at hv9; exact Option.some.inj hv9, by rw [(sg_1 (x := x) (Or.inr (Or.inl c_18))).1, (sg_1 (x := x) (Or.inr (Or.inl c_18))).2]; exact hR0, hf0⟩) (Nat.le_of_ble_eq_true rfl) (Nat.le_of_ble_eq_true rfl) dX5_sign_29
    · obtain ⟨pp, hpp, rfl⟩ := fIn_t c_18 (by omega)
      refine lv_iload_n hx hb dX5_sign_21 rfl (lv_at hl 3 rfl) ?_
      refine fw_ci0 (w := (w.1, u0)) hS (fw_rS (rest := []) (As := [.int mx]) C hP hS wS_X5_100 (k_X5_isTen l Γ (w.1, u0) mx) (fRm_mk rfl rfl (Nat.le_of_ble_eq_true rfl) (Nat.le_of_ble_eq_true rfl) (Nat.le_of_ble_eq_true rfl) (Nat.le_of_ble_eq_true rfl) (Nat.le_of_ble_eq_true rfl)) rfl hl.1 rfl dX5_sign_22) (fun H locs hP hS => ?_)
      refine fw_ineB (tgt := 30) hx hb dX5_sign_25 (by decide) (fun c_25 => ?_) (fun c_25 => ?_)
      · obtain ⟨mm, hmm, rfl⟩ := fIn_t c_25 (by omega)
        refine lv_lload hx hb dX5_sign_30 (lv_at hl 4 rfl) ?_
        refine fw_ci0 (w := (w.1, u0)) hS (fw_rS (rest := []) (As := [.long x]) C hP hS wS_X5_103 (k_X5_isSecond l Γ (w.1, u0) x) (fRm_mk rfl rfl (Nat.le_of_ble_eq_true rfl) (Nat.le_of_ble_eq_true rfl) (Nat.le_of_ble_eq_true rfl) (Nat.le_of_ble_eq_true rfl) (Nat.le_of_ble_eq_true rfl)) rfl hl.1 rfl dX5_sign_32) (fun H locs hP hS => ?_)
        refine fw_ieqB (tgt := 48) hx hb dX5_sign_35 (by decide) (fun c_35 => ?_) (fun c_35 => ?_)
        · refine lv_bipush (v := (-3)) hx hb dX5_sign_48 (by decide) ?_
          exact fw_reti C hr hlk rfl hP hS (⟨fun v9 hv9 => by rw [(sg_2 c_10 c_18 c_25 (by rw [c_35]; rfl)).1] at hv9; exact Option.some.inj hv9, by rw [(sg_2 c_10 c_18 c_25 (by rw [c_35]; rfl)).1, (sg_2 c_10 c_18 c_25 (by rw [c_35]; rfl)).2]; exact hR0, hf0⟩) (Nat.le_of_ble_eq_true rfl) (Nat.le_of_ble_eq_true rfl) dX5_sign_50
        · refine lv_lload hx hb dX5_sign_38 (lv_at hl 4 rfl) ?_
          refine lv_aload_n hx hb dX5_sign_40 rfl (lv_at hl 0 rfl) ?_
          refine gf_X5_123 C hP m20 rfl rfl dX5_sign_41 ?_
          refine W.lcmp hx hb dX5_sign_44 ?_
          refine fw_lge (tgt := 51) hx hb dX5_sign_45 (by decide) (fun c_45 => ?_) (fun c_45 => ?_)
          · have hl9 : (isSec x && decide (s_ck σ ≤ x)) = true := by rw [c_35, decide_eq_true c_45]; rfl
            refine lv_iconst (v := 0) hx hb dX5_sign_51 (by decide) ?_
            refine lv_istore (lv' := [(6, .int 0), (0, .ref (w.1 20 0)), (1, .int (nI tt)), (2, .int (nI pp)), (3, .int (nI mm)), (4, .long x)]) hx hb dX5_sign_52 hl (by decide) rfl (fun ls hl => ?_)
            refine lv_iconst (v := nI 0) hx hb dX5_sign_54 (by decide) ?_
            refine lv_istore (lv' := [(7, .int (nI 0)), (6, .int 0), (0, .ref (w.1 20 0)), (1, .int (nI tt)), (2, .int (nI pp)), (3, .int (nI mm)), (4, .long x)]) hx hb dX5_sign_55 hl (by decide) rfl (fun ls hl => ?_)
            refine W.widen (k := 0) (n := 0) (Nat.le_of_ble_eq_true rfl) (Nat.le_of_ble_eq_true rfl) ?_
            have loop : ∀ (fu : Nat) (i : Nat) (v : Int32) (H : Heap) (locs : List Loc) (ls : Array Slot), s_nr σ - i < fu → (i ≤ s_nr σ) → (v = b2i (s_rl σ pp mm x i)) → fP Γ (w.1, u0) H → va_S (fA Γ) s.heap H locs → lv_has ls 8 [(7, .int (nI i)), (6, .int v), (0, .ref (w.1 20 0)), (1, .int (nI tt)), (2, .int (nI pp)), (3, .int (nI mm)), (4, .long x)] → W p l e (rmD 12 0 0) s m [.ref (w.1 20 0), .int (nI tt), .int (nI pp), .int (nI mm), .long x].toArray below meth c H locs 0 0 (MQ below (va_Qi (fun r w1 => (∀ v9, a_sign σ (nI tt) (nI pp) (nI mm) x = some v9 → r = v9) ∧ Rm (n_sign σ (nI tt) (nI pp) (nI mm) x) (b2i (a_sign σ (nI tt) (nI pp) (nI mm) x).isNone) w1 ∧ frm w w1) (fI Γ) (fA Γ)) [.ref (w.1 20 0), .int (nI tt), .int (nI pp), .int (nI mm), .long x].toArray s 0 0 (fA Γ)) (F0 m 57 ls []) := by
              intro fu
              induction fu with
              | zero =>
                intro i v H locs ls hf
                exact absurd hf (Nat.not_lt_zero _)
              | succ fu ih =>
                intro i v H locs ls hf hi hz hP hS hl
                subst hz
                refine lv_iload hx hb dX5_sign_57 (lv_at hl 0 rfl) ?_
                refine lv_aload_n hx hb dX5_sign_59 rfl (lv_at hl 2 rfl) ?_
                refine gf_X5_107 C hP m20 rfl rfl dX5_sign_60 ?_
                refine fw_geN (tgt := 132) hx hb (by omega) (by omega) dX5_sign_63 (by decide) (fun c_63 => ?_) (fun c_63 => ?_)
                · refine lv_iload hx hb dX5_sign_132 (lv_at hl 1 rfl) ?_
                  refine fw_ineB (tgt := 144) hx hb dX5_sign_134 (by decide) (fun c_134 => ?_) (fun c_134 => ?_)
                  · have hi9 : i = s_nr σ := by omega
                    have c_rl : s_rl σ pp mm x (s_nr σ) = true := by rw [← hi9]; exact c_134
                    refine lv_aload_n hx hb dX5_sign_144 rfl (lv_at hl 2 rfl) ?_
                    refine gf_X5_23 C hP m20 rfl rfl dX5_sign_145 ?_
                    refine lv_iload_n hx hb dX5_sign_148 rfl (lv_at hl 3 rfl) ?_
                    refine fw_iald C hP g37 rfl tt rfl (by omega) (by decide) dX5_sign_149 ?_
                    refine fw_E (show f37 tt = nI (s_mk σ tt) from v37 tt (by omega)) ?_
                    refine lv_iload_n hx hb dX5_sign_150 rfl (lv_at hl 4 rfl) ?_
                    refine fw_neN (tgt := 157) hx hb (by omega) (by omega) dX5_sign_151 (by decide) (fun c_151 => ?_) (fun c_151 => ?_)
                    · refine lv_iconst (v := nI 0) hx hb dX5_sign_157 (by decide) ?_
                      refine lv_istore (lv' := [(7, .int (nI 0)), (6, .int (b2i (s_rl σ pp mm x i))), (0, .ref (w.1 20 0)), (1, .int (nI tt)), (2, .int (nI pp)), (3, .int (nI mm)), (4, .long x)]) hx hb dX5_sign_158 hl (by decide) rfl (fun ls hl => ?_)
                      refine W.widen (k := 0) (n := 0) (Nat.le_of_ble_eq_true rfl) (Nat.le_of_ble_eq_true rfl) ?_
                      have loop : ∀ (fu : Nat) (j : Nat) (H : Heap) (locs : List Loc) (ls : Array Slot), 10 - j < fu → (j ≤ 10) → (s_ob σ tt mm j = false) → fP Γ (w.1, u0) H → va_S (fA Γ) s.heap H locs → lv_has ls 8 [(7, .int (nI j)), (0, .ref (w.1 20 0)), (1, .int (nI tt)), (2, .int (nI pp)), (3, .int (nI mm)), (4, .long x)] → W p l e (rmD 12 0 0) s m [.ref (w.1 20 0), .int (nI tt), .int (nI pp), .int (nI mm), .long x].toArray below meth c H locs 0 0 (MQ below (va_Qi (fun r w1 => (∀ v9, a_sign σ (nI tt) (nI pp) (nI mm) x = some v9 → r = v9) ∧ Rm (n_sign σ (nI tt) (nI pp) (nI mm) x) (b2i (a_sign σ (nI tt) (nI pp) (nI mm) x).isNone) w1 ∧ frm w w1) (fI Γ) (fA Γ)) [.ref (w.1 20 0), .int (nI tt), .int (nI pp), .int (nI mm), .long x].toArray s 0 0 (fA Γ)) (F0 m 160 ls []) := by
                        intro fu
                        induction fu with
                        | zero =>
                          intro j H locs ls hf
                          exact absurd hf (Nat.not_lt_zero _)
                        | succ fu ih =>
                          intro j H locs ls hf hj hz hP hS hl
                          refine lv_iload hx hb dX5_sign_160 (lv_at hl 0 rfl) ?_
                          refine lv_bipush (v := nI 10) hx hb dX5_sign_162 (by decide) ?_
                          refine fw_geN (tgt := 202) hx hb (by omega) (by omega) dX5_sign_164 (by decide) (fun c_164 => ?_) (fun c_164 => ?_)
                          · have hj9 : j = 10 := by omega
                            have c_ob : s_ob σ tt mm 10 = false := by rw [← hj9]; exact hz
                            refine lv_aload_n hx hb dX5_sign_202 rfl (lv_at hl 1 rfl) ?_
                            refine lv_iload_n hx hb dX5_sign_203 rfl (lv_at hl 2 rfl) ?_
                            refine lv_iload_n hx hb dX5_sign_204 rfl (lv_at hl 4 rfl) ?_
                            refine lv_iload_n hx hb dX5_sign_205 rfl (lv_at hl 3 rfl) ?_
                            refine fw_ci0 (w := (w.1, u0)) hS (fw_rV (rest := []) (As := [.int (nI tt), .int (nI mm), .int (nI pp)]) C hP hS wV_X5_127 (k_X5_has l Γ (w.1, u0) σ 0 z tt mm (nI pp) (some pp) (by omega) (by omega) (ho_s hI (by omega)) hI m20 ⟨⟨_, g37, v37⟩, ⟨_, g38, v38⟩, ⟨_, g39, v39⟩, ⟨_, g40, v40⟩, ⟨_, g41, v41⟩, ⟨_, g42, v42⟩, ⟨_, g43, v43⟩, ⟨_, g44, v44⟩⟩ ⟨⟨_, g46, v46⟩, ⟨_, g47, v47⟩, ⟨_, g48, v48⟩, ⟨_, g49, v49⟩, ⟨_, g50, v50⟩, ⟨_, g52, v52⟩⟩) m20 rfl rfl (fRm_mk rfl rfl (Nat.le_of_ble_eq_true rfl) (Nat.le_of_ble_eq_true rfl) (Nat.le_of_ble_eq_true rfl) (Nat.le_of_ble_eq_true rfl) (Nat.le_of_ble_eq_true rfl)) rfl hl.1 rfl dX5_sign_206) (fun H locs hP hS => ?_)
                            refine fw_ieqB (tgt := 215) hx hb dX5_sign_209 (by decide) (fun c_209 => ?_) (fun c_209 => ?_)
                            · refine lv_aload_n hx hb dX5_sign_215 rfl (lv_at hl 1 rfl) ?_
                              refine gf_X5_117 C hP m20 rfl rfl dX5_sign_216 ?_
                              refine lv_sipush (v := nI 400) hx hb dX5_sign_219 (by decide) ?_
                              refine fw_neN (tgt := 228) hx hb (by omega) (by omega) dX5_sign_222 (by decide) (fun c_222 => ?_) (fun c_222 => ?_)
                              · refine lv_aload_n hx hb dX5_sign_228 rfl (lv_at hl 1 rfl) ?_
                                refine gf_X5_47 C hP m20 rfl rfl dX5_sign_229 ?_
                                refine lv_aload_n hx hb dX5_sign_232 rfl (lv_at hl 1 rfl) ?_
                                refine gf_X5_117 C hP m20 rfl rfl dX5_sign_233 ?_
                                refine lv_iload_n hx hb dX5_sign_236 rfl (lv_at hl 2 rfl) ?_
                                refine fw_iast C hP hS g46 rfl (s_ns σ) rfl (by omega) (by decide) dX5_sign_237 (fun H locs hP hS => ?_)
                                have hP : fP Γ (fset (w.1, u0) 46 0 (aI 1 400 (upd f46 (s_ns σ) (nI tt)))) H := hP
                                refine lv_aload_n hx hb dX5_sign_238 rfl (lv_at hl 1 rfl) ?_
                                refine gf_X5_50 C hP ((fset_ne (by decide)).trans m20) rfl rfl dX5_sign_239 ?_
                                refine lv_aload_n hx hb dX5_sign_242 rfl (lv_at hl 1 rfl) ?_
                                refine gf_X5_117 C hP ((fset_ne (by decide)).trans m20) rfl rfl dX5_sign_243 ?_
                                refine lv_iload_n hx hb dX5_sign_246 rfl (lv_at hl 3 rfl) ?_
                                refine fw_iast C hP hS ((fset_ne (by decide)).trans g47) rfl (s_ns σ) rfl (by omega) (by decide) dX5_sign_247 (fun H locs hP hS => ?_)
                                have hP : fP Γ (fset (fset (w.1, u0) 46 0 (aI 1 400 (upd f46 (s_ns σ) (nI tt)))) 47 0 (aI 1 400 (upd f47 (s_ns σ) (nI pp)))) H := hP
                                refine lv_aload_n hx hb dX5_sign_248 rfl (lv_at hl 1 rfl) ?_
                                refine gf_X5_53 C hP ((fset_ne (by decide)).trans ((fset_ne (by decide)).trans m20)) rfl rfl dX5_sign_249 ?_
                                refine lv_aload_n hx hb dX5_sign_252 rfl (lv_at hl 1 rfl) ?_
                                refine gf_X5_117 C hP ((fset_ne (by decide)).trans ((fset_ne (by decide)).trans m20)) rfl rfl dX5_sign_253 ?_
                                refine lv_iload_n hx hb dX5_sign_256 rfl (lv_at hl 4 rfl) ?_
                                refine fw_iast C hP hS ((fset_ne (by decide)).trans ((fset_ne (by decide)).trans g48)) rfl (s_ns σ) rfl (by omega) (by decide) dX5_sign_257 (fun H locs hP hS => ?_)
                                have hP : fP Γ (fset (fset (fset (w.1, u0) 46 0 (aI 1 400 (upd f46 (s_ns σ) (nI tt)))) 47 0 (aI 1 400 (upd f47 (s_ns σ) (nI pp)))) 48 0 (aI 1 400 (upd f48 (s_ns σ) (nI mm)))) H := hP
                                refine lv_aload_n hx hb dX5_sign_258 rfl (lv_at hl 1 rfl) ?_
                                refine gf_X5_29 C hP ((fset_ne (by decide)).trans ((fset_ne (by decide)).trans ((fset_ne (by decide)).trans m20))) rfl rfl dX5_sign_259 ?_
                                refine lv_bipush (v := nI 8) hx hb dX5_sign_262 (by decide) ?_
                                refine lv_iload_n hx hb dX5_sign_264 rfl (lv_at hl 2 rfl) ?_
                                refine fw_mulN hx hb dX5_sign_265 ?_
                                refine lv_aload_n hx hb dX5_sign_266 rfl (lv_at hl 1 rfl) ?_
                                refine gf_X5_56 C hP ((fset_ne (by decide)).trans ((fset_ne (by decide)).trans ((fset_ne (by decide)).trans m20))) rfl rfl dX5_sign_267 ?_
                                refine lv_bipush (v := nI 8) hx hb dX5_sign_270 (by decide) ?_
                                refine lv_aload_n hx hb dX5_sign_272 rfl (lv_at hl 1 rfl) ?_
                                refine gf_X5_117 C hP ((fset_ne (by decide)).trans ((fset_ne (by decide)).trans ((fset_ne (by decide)).trans m20))) rfl rfl dX5_sign_273 ?_
                                refine fw_mulN hx hb dX5_sign_276 ?_
                                refine lv_bipush (v := nI 8) hx hb dX5_sign_277 (by decide) ?_
                                refine fw_copy C hP hS qm_X5_131 hl.1 ((fset_ne (by decide)).trans ((fset_ne (by decide)).trans ((fset_ne (by decide)).trans g39))) rfl ((fset_ne (by decide)).trans ((fset_ne (by decide)).trans ((fset_ne (by decide)).trans g49))) rfl (8 * tt) (8 * (s_ns σ)) 8 rfl rfl rfl (by omega) (by omega) (by decide) (by decide) ⟨(Nat.le_of_ble_eq_true rfl), (Nat.le_of_ble_eq_true rfl)⟩ dX5_sign_279 (fun H locs hP hS => ?_)
                                have hP : fP Γ (fset (fset (fset (fset (w.1, u0) 46 0 (aI 1 400 (upd f46 (s_ns σ) (nI tt)))) 47 0 (aI 1 400 (upd f47 (s_ns σ) (nI pp)))) 48 0 (aI 1 400 (upd f48 (s_ns σ) (nI mm)))) 49 0 (aI 1 3200 (va_cpy f39 f49 (8 * tt) (8 * (s_ns σ)) 8))) H := hP
                                refine lv_aload_n hx hb dX5_sign_282 rfl (lv_at hl 1 rfl) ?_
                                refine lv_lload hx hb dX5_sign_283 (lv_at hl 5 rfl) ?_
                                refine pf_X5_123 C hP hS rfl rfl ((fset_ne (by decide)).trans ((fset_ne (by decide)).trans ((fset_ne (by decide)).trans ((fset_ne (by decide)).trans m20)))) rfl (Nat.le_of_ble_eq_true rfl) dX5_sign_285 (fun H locs hP hS => ?_)
                                have hP : fP Γ (fset (fset (fset (fset (fset (w.1, u0) 46 0 (aI 1 400 (upd f46 (s_ns σ) (nI tt)))) 47 0 (aI 1 400 (upd f47 (s_ns σ) (nI pp)))) 48 0 (aI 1 400 (upd f48 (s_ns σ) (nI mm)))) 49 0 (aI 1 3200 (va_cpy f39 f49 (8 * tt) (8 * (s_ns σ)) 8))) 20 0 (oO 5 [.int (nI (s_np σ)), .int (nI (s_nr σ)), .ref (w.1 32 0), .ref (w.1 33 0), .ref (w.1 34 0), .ref (w.1 35 0), .int (nI (s_nt σ)), .ref (w.1 37 0), .ref (w.1 38 0), .ref (w.1 39 0), .ref (w.1 40 0), .ref (w.1 41 0), .ref (w.1 42 0), .ref (w.1 43 0), .ref (w.1 44 0), .int (nI (s_ns σ)), .ref (w.1 46 0), .ref (w.1 47 0), .ref (w.1 48 0), .ref (w.1 49 0), .ref (w.1 50 0), .int (nI (s_nw σ)), .ref (w.1 52 0), .ref (w.1 53 0), .long x, .int 0, .int (b2i z), .ref (w.1 57 0), .ref (w.1 58 0), .ref (w.1 59 0), .ref (w.1 60 0), .ref (w.1 61 0)])) H := hP
                                refine lv_aload_n hx hb dX5_sign_288 rfl (lv_at hl 1 rfl) ?_
                                refine lv_dup hx hb dX5_sign_289 rfl ?_
                                refine gf_X5_117 C hP fset_at rfl rfl dX5_sign_290 ?_
                                refine lv_iconst (v := nI 1) hx hb dX5_sign_293 (by decide) ?_
                                refine fw_addN hx hb dX5_sign_294 ?_
                                refine pf_X5_117 C hP hS rfl rfl fset_at rfl (Nat.le_of_ble_eq_true rfl) dX5_sign_295 (fun H locs hP hS => ?_)
                                have hP : fP Γ (fset (fset (fset (fset (fset (fset (w.1, u0) 46 0 (aI 1 400 (upd f46 (s_ns σ) (nI tt)))) 47 0 (aI 1 400 (upd f47 (s_ns σ) (nI pp)))) 48 0 (aI 1 400 (upd f48 (s_ns σ) (nI mm)))) 49 0 (aI 1 3200 (va_cpy f39 f49 (8 * tt) (8 * (s_ns σ)) 8))) 20 0 (oO 5 [.int (nI (s_np σ)), .int (nI (s_nr σ)), .ref (w.1 32 0), .ref (w.1 33 0), .ref (w.1 34 0), .ref (w.1 35 0), .int (nI (s_nt σ)), .ref (w.1 37 0), .ref (w.1 38 0), .ref (w.1 39 0), .ref (w.1 40 0), .ref (w.1 41 0), .ref (w.1 42 0), .ref (w.1 43 0), .ref (w.1 44 0), .int (nI (s_ns σ)), .ref (w.1 46 0), .ref (w.1 47 0), .ref (w.1 48 0), .ref (w.1 49 0), .ref (w.1 50 0), .int (nI (s_nw σ)), .ref (w.1 52 0), .ref (w.1 53 0), .long x, .int 0, .int (b2i z), .ref (w.1 57 0), .ref (w.1 58 0), .ref (w.1 59 0), .ref (w.1 60 0), .ref (w.1 61 0)])) 20 0 (oO 5 [.int (nI (s_np σ)), .int (nI (s_nr σ)), .ref (w.1 32 0), .ref (w.1 33 0), .ref (w.1 34 0), .ref (w.1 35 0), .int (nI (s_nt σ)), .ref (w.1 37 0), .ref (w.1 38 0), .ref (w.1 39 0), .ref (w.1 40 0), .ref (w.1 41 0), .ref (w.1 42 0), .ref (w.1 43 0), .ref (w.1 44 0), .int (nI (s_ns σ + 1)), .ref (w.1 46 0), .ref (w.1 47 0), .ref (w.1 48 0), .ref (w.1 49 0), .ref (w.1 50 0), .int (nI (s_nw σ)), .ref (w.1 52 0), .ref (w.1 53 0), .long x, .int 0, .int (b2i z), .ref (w.1 57 0), .ref (w.1 58 0), .ref (w.1 59 0), .ref (w.1 60 0), .ref (w.1 61 0)])) H := hP
                                rw [fset_s] at hP
                                refine lv_aload_n hx hb dX5_sign_298 rfl (lv_at hl 1 rfl) ?_
                                refine gf_X5_117 C hP fset_at rfl rfl dX5_sign_299 ?_
                                refine lv_iconst (v := nI 1) hx hb dX5_sign_302 (by decide) ?_
                                refine fw_subN hx hb (by omega) dX5_sign_303 ?_
                                have hok := sg_8 c_10 c_18 c_25 (by omega) (by omega) (by omega) hl9 c_rl (by omega) c_ob c_209 (by omega)
                                exact fw_reti C hr hlk rfl hP hS (⟨fun v9 hv9 => by (rw [hok.1] at hv9; rw [(by omega : s_ns σ + 1 - 1 = s_ns σ)]; exact Option.some.inj hv9), by rw [hok.1, hok.2]; exact ⟨z, fset_at, ⟨⟨_, ((fset_ne (by decide)).trans ((fset_ne (by decide)).trans ((fset_ne (by decide)).trans ((fset_ne (by decide)).trans ((fset_ne (by decide)).trans g32))))), v32⟩, ⟨_, ((fset_ne (by decide)).trans ((fset_ne (by decide)).trans ((fset_ne (by decide)).trans ((fset_ne (by decide)).trans ((fset_ne (by decide)).trans g33))))), v33⟩, ⟨_, ((fset_ne (by decide)).trans ((fset_ne (by decide)).trans ((fset_ne (by decide)).trans ((fset_ne (by decide)).trans ((fset_ne (by decide)).trans g34))))), v34⟩, ⟨_, ((fset_ne (by decide)).trans ((fset_ne (by decide)).trans ((fset_ne (by decide)).trans ((fset_ne (by decide)).trans ((fset_ne (by decide)).trans g35))))), v35⟩⟩, ⟨⟨_, ((fset_ne (by decide)).trans ((fset_ne (by decide)).trans ((fset_ne (by decide)).trans ((fset_ne (by decide)).trans ((fset_ne (by decide)).trans g37))))), v37⟩, ⟨_, ((fset_ne (by decide)).trans ((fset_ne (by decide)).trans ((fset_ne (by decide)).trans ((fset_ne (by decide)).trans ((fset_ne (by decide)).trans g38))))), v38⟩, ⟨_, ((fset_ne (by decide)).trans ((fset_ne (by decide)).trans ((fset_ne (by decide)).trans ((fset_ne (by decide)).trans ((fset_ne (by decide)).trans g39))))), v39⟩, ⟨_, ((fset_ne (by decide)).trans ((fset_ne (by decide)).trans ((fset_ne (by decide)).trans ((fset_ne (by decide)).trans ((fset_ne (by decide)).trans g40))))), v40⟩, ⟨_, ((fset_ne (by decide)).trans ((fset_ne (by decide)).trans ((fset_ne (by decide)).trans ((fset_ne (by decide)).trans ((fset_ne (by decide)).trans g41))))), v41⟩, ⟨_, ((fset_ne (by decide)).trans ((fset_ne (by decide)).trans ((fset_ne (by decide)).trans ((fset_ne (by decide)).trans ((fset_ne (by decide)).trans g42))))), v42⟩, ⟨_, ((fset_ne (by decide)).trans ((fset_ne (by decide)).trans ((fset_ne (by decide)).trans ((fset_ne (by decide)).trans ((fset_ne (by decide)).trans g43))))), v43⟩, ⟨_, ((fset_ne (by decide)).trans ((fset_ne (by decide)).trans ((fset_ne (by decide)).trans ((fset_ne (by decide)).trans ((fset_ne (by decide)).trans g44))))), v44⟩⟩, ⟨⟨_, ((fset_ne (by decide)).trans ((fset_ne (by decide)).trans ((fset_ne (by decide)).trans ((fset_ne (by decide)).trans fset_at)))), up_N v46⟩, ⟨_, ((fset_ne (by decide)).trans ((fset_ne (by decide)).trans ((fset_ne (by decide)).trans fset_at))), up_N v47⟩, ⟨_, ((fset_ne (by decide)).trans ((fset_ne (by decide)).trans fset_at)), up_N v48⟩, ⟨_, ((fset_ne (by decide)).trans fset_at), up_then htt v39 v49⟩, ⟨_, ((fset_ne (by decide)).trans ((fset_ne (by decide)).trans ((fset_ne (by decide)).trans ((fset_ne (by decide)).trans ((fset_ne (by decide)).trans g50))))), v50⟩, ⟨_, ((fset_ne (by decide)).trans ((fset_ne (by decide)).trans ((fset_ne (by decide)).trans ((fset_ne (by decide)).trans ((fset_ne (by decide)).trans g52))))), v52⟩⟩, ⟨_, ((fset_ne (by decide)).trans ((fset_ne (by decide)).trans ((fset_ne (by decide)).trans ((fset_ne (by decide)).trans ((fset_ne (by decide)).trans g53))))), v53⟩, ⟨⟨_, ((fset_ne (by decide)).trans ((fset_ne (by decide)).trans ((fset_ne (by decide)).trans ((fset_ne (by decide)).trans ((fset_ne (by decide)).trans g57))))), v57⟩, ⟨_, ((fset_ne (by decide)).trans ((fset_ne (by decide)).trans ((fset_ne (by decide)).trans ((fset_ne (by decide)).trans ((fset_ne (by decide)).trans g58))))), v58⟩, ⟨_, ((fset_ne (by decide)).trans ((fset_ne (by decide)).trans ((fset_ne (by decide)).trans ((fset_ne (by decide)).trans ((fset_ne (by decide)).trans g59)))))⟩, ⟨_, ((fset_ne (by decide)).trans ((fset_ne (by decide)).trans ((fset_ne (by decide)).trans ((fset_ne (by decide)).trans ((fset_ne (by decide)).trans g60)))))⟩, ⟨_, ((fset_ne (by decide)).trans ((fset_ne (by decide)).trans ((fset_ne (by decide)).trans ((fset_ne (by decide)).trans ((fset_ne (by decide)).trans g61)))))⟩⟩⟩, (frm_tr (frm_tr (frm_tr (frm_tr (frm_tr hf0 (frm_set (by decide))) (frm_set (by decide))) (frm_set (by decide))) (frm_set (by decide))) (frm_set (by decide)))⟩) (Nat.le_of_ble_eq_true rfl) (Nat.le_of_ble_eq_true rfl) dX5_sign_304
                              · refine lv_bipush (v := (-2)) hx hb dX5_sign_225 (by decide) ?_
                                exact fw_reti C hr hlk rfl hP hS (⟨fun v9 hv9 => by rw [(sg_7 c_10 c_18 c_25 (by omega) (by omega) (by omega) hl9 c_rl (by omega) c_ob c_209 (by omega)).1] at hv9; exact Option.some.inj hv9, by rw [(sg_7 c_10 c_18 c_25 (by omega) (by omega) (by omega) hl9 c_rl (by omega) c_ob c_209 (by omega)).1, (sg_7 c_10 c_18 c_25 (by omega) (by omega) (by omega) hl9 c_rl (by omega) c_ob c_209 (by omega)).2]; exact hR0, hf0⟩) (Nat.le_of_ble_eq_true rfl) (Nat.le_of_ble_eq_true rfl) dX5_sign_227
                            · refine lv_bipush (v := (-6)) hx hb dX5_sign_212 (by decide) ?_
                              exact fw_reti C hr hlk rfl hP hS (⟨fun v9 hv9 => by rw [(sg_6 c_10 c_18 c_25 (by omega) (by omega) (by omega) hl9 c_rl (by omega) c_ob c_209).1] at hv9; exact Option.some.inj hv9, by rw [(sg_6 c_10 c_18 c_25 (by omega) (by omega) (by omega) hl9 c_rl (by omega) c_ob c_209).1, (sg_6 c_10 c_18 c_25 (by omega) (by omega) (by omega) hl9 c_rl (by omega) c_ob c_209).2]; exact hR0, hf0⟩) (Nat.le_of_ble_eq_true rfl) (Nat.le_of_ble_eq_true rfl) dX5_sign_214
                          · refine lv_aload_n hx hb dX5_sign_167 rfl (lv_at hl 1 rfl) ?_
                            refine gf_X5_66 C hP m20 rfl rfl dX5_sign_168 ?_
                            refine lv_bipush (v := nI 10) hx hb dX5_sign_171 (by decide) ?_
                            refine lv_iload_n hx hb dX5_sign_173 rfl (lv_at hl 4 rfl) ?_
                            refine fw_mulN hx hb dX5_sign_174 ?_
                            refine lv_iload hx hb dX5_sign_175 (lv_at hl 0 rfl) ?_
                            refine fw_addN hx hb dX5_sign_177 ?_
                            refine fw_zald C hP g53 rfl (10 * mm + j) rfl (by omega) (by decide) dX5_sign_178 ?_
                            refine fw_E (show f53 (10 * mm + j) = b2i (s_bh σ mm j) from v53 mm (by omega) j (by omega)) ?_
                            refine fw_ieqB (tgt := 196) hx hb dX5_sign_179 (by decide) (fun c_179 => ?_) (fun c_179 => ?_)
                            · refine lv_iinc (v := nI (j + 1)) (lv' := [(7, .int (nI (j + 1))), (0, .ref (w.1 20 0)), (1, .int (nI tt)), (2, .int (nI pp)), (3, .int (nI mm)), (4, .long x)]) hx hb dX5_sign_196 hl (k := 0) rfl (by rw [show Int32.ofInt 1 = nI 1 from rfl, nI_add]) (by decide) rfl (fun ls hl => ?_)
                              refine lv_goto (tgt := 160) hx hb dX5_sign_199 (by decide) ?_
                              refine W.widen (k := 0) (n := 0) (Nat.le_of_ble_eq_true rfl) (Nat.le_of_ble_eq_true rfl) ?_
                              exact ih (j + 1) H locs ls (by omega) (by omega) (ob_n hz (Or.inl c_179)) hP hS (lv_sub hl [0, 1, 2, 3, 4, 5] rfl)
                            · refine lv_aload_n hx hb dX5_sign_182 rfl (lv_at hl 1 rfl) ?_
                              refine lv_iload_n hx hb dX5_sign_183 rfl (lv_at hl 2 rfl) ?_
                              refine lv_iload hx hb dX5_sign_184 (lv_at hl 0 rfl) ?_
                              refine lv_iconst (v := (-1)) hx hb dX5_sign_186 (by decide) ?_
                              refine fw_ci0 (w := (w.1, u0)) hS (fw_rV (rest := []) (As := [.int (nI tt), .int (nI j), .int (-1)]) C hP hS wV_X5_127 (k_X5_has l Γ (w.1, u0) σ 0 z tt j (-1) none (by omega) (by omega) ho_n hI m20 ⟨⟨_, g37, v37⟩, ⟨_, g38, v38⟩, ⟨_, g39, v39⟩, ⟨_, g40, v40⟩, ⟨_, g41, v41⟩, ⟨_, g42, v42⟩, ⟨_, g43, v43⟩, ⟨_, g44, v44⟩⟩ ⟨⟨_, g46, v46⟩, ⟨_, g47, v47⟩, ⟨_, g48, v48⟩, ⟨_, g49, v49⟩, ⟨_, g50, v50⟩, ⟨_, g52, v52⟩⟩) m20 rfl rfl (fRm_mk rfl rfl (Nat.le_of_ble_eq_true rfl) (Nat.le_of_ble_eq_true rfl) (Nat.le_of_ble_eq_true rfl) (Nat.le_of_ble_eq_true rfl) (Nat.le_of_ble_eq_true rfl)) rfl hl.1 rfl dX5_sign_187) (fun H locs hP hS => ?_)
                              refine fw_ineB (tgt := 196) hx hb dX5_sign_190 (by decide) (fun c_190 => ?_) (fun c_190 => ?_)
                              · refine lv_iinc (v := nI (j + 1)) (lv' := [(7, .int (nI (j + 1))), (0, .ref (w.1 20 0)), (1, .int (nI tt)), (2, .int (nI pp)), (3, .int (nI mm)), (4, .long x)]) hx hb dX5_sign_196 hl (k := 0) rfl (by rw [show Int32.ofInt 1 = nI 1 from rfl, nI_add]) (by decide) rfl (fun ls hl => ?_)
                                refine lv_goto (tgt := 160) hx hb dX5_sign_199 (by decide) ?_
                                refine W.widen (k := 0) (n := 0) (Nat.le_of_ble_eq_true rfl) (Nat.le_of_ble_eq_true rfl) ?_
                                exact ih (j + 1) H locs ls (by omega) (by omega) (ob_n hz (Or.inr c_190)) hP hS (lv_sub hl [0, 1, 2, 3, 4, 5] rfl)
                              · refine lv_bipush (v := (-5)) hx hb dX5_sign_193 (by decide) ?_
                                exact fw_reti C hr hlk rfl hP hS (⟨fun v9 hv9 => by rw [(sg_5 c_10 c_18 c_25 (by omega) (by omega) (by omega) hl9 c_rl (by omega) (ob_t c_179 c_190 (by omega))).1] at hv9; exact Option.some.inj hv9, by rw [(sg_5 c_10 c_18 c_25 (by omega) (by omega) (by omega) hl9 c_rl (by omega) (ob_t c_179 c_190 (by omega))).1, (sg_5 c_10 c_18 c_25 (by omega) (by omega) (by omega) hl9 c_rl (by omega) (ob_t c_179 c_190 (by omega))).2]; exact hR0, hf0⟩) (Nat.le_of_ble_eq_true rfl) (Nat.le_of_ble_eq_true rfl) dX5_sign_195
                      exact loop 11 0 _ _ _ (by omega) (by omega) rfl hP hS (lv_sub hl [0, 2, 3, 4, 5, 6] rfl)
                    · refine lv_bipush (v := (-4)) hx hb dX5_sign_154 (by decide) ?_
                      exact fw_reti C hr hlk rfl hP hS (⟨fun v9 hv9 => by rw [(sg_4 c_10 c_18 c_25 (by omega) (by omega) (by omega) hl9 c_rl (by omega)).1] at hv9; exact Option.some.inj hv9, by rw [(sg_4 c_10 c_18 c_25 (by omega) (by omega) (by omega) hl9 c_rl (by omega)).1, (sg_4 c_10 c_18 c_25 (by omega) (by omega) (by omega) hl9 c_rl (by omega)).2]; exact hR0, hf0⟩) (Nat.le_of_ble_eq_true rfl) (Nat.le_of_ble_eq_true rfl) dX5_sign_156
                  · have hi9 : i = s_nr σ := by omega
                    have c_rl : s_rl σ pp mm x (s_nr σ) = false := by rw [← hi9]; exact c_134
                    refine lv_aload_n hx hb dX5_sign_137 rfl (lv_at hl 2 rfl) ?_
                    refine lv_iconst (v := 1) hx hb dX5_sign_138 (by decide) ?_
                    refine pf_X5_84 C hP hS rfl rfl m20 rfl (Nat.le_of_ble_eq_true rfl) dX5_sign_139 (fun H locs hP hS => ?_)
                    have hP : fP Γ (fset (w.1, u0) 20 0 (oO 5 [.int (nI (s_np σ)), .int (nI (s_nr σ)), .ref (w.1 32 0), .ref (w.1 33 0), .ref (w.1 34 0), .ref (w.1 35 0), .int (nI (s_nt σ)), .ref (w.1 37 0), .ref (w.1 38 0), .ref (w.1 39 0), .ref (w.1 40 0), .ref (w.1 41 0), .ref (w.1 42 0), .ref (w.1 43 0), .ref (w.1 44 0), .int (nI (s_ns σ)), .ref (w.1 46 0), .ref (w.1 47 0), .ref (w.1 48 0), .ref (w.1 49 0), .ref (w.1 50 0), .int (nI (s_nw σ)), .ref (w.1 52 0), .ref (w.1 53 0), .long (s_ck σ), .int 1, .int (b2i z), .ref (w.1 57 0), .ref (w.1 58 0), .ref (w.1 59 0), .ref (w.1 60 0), .ref (w.1 61 0)])) H := hP
                    refine lv_iconst (v := 0) hx hb dX5_sign_142 (by decide) ?_
                    exact fw_reti C hr hlk rfl hP hS (⟨fun v9 hv9 => by (rw [(sg_3 c_10 c_18 c_25 (by omega) (by omega) (by omega) hl9 c_rl).1] at hv9; cases hv9), by rw [(sg_3 c_10 c_18 c_25 (by omega) (by omega) (by omega) hl9 c_rl).1, (sg_3 c_10 c_18 c_25 (by omega) (by omega) (by omega) hl9 c_rl).2]; exact ⟨z, fset_at, ⟨⟨_, ((fset_ne (by decide)).trans g32), v32⟩, ⟨_, ((fset_ne (by decide)).trans g33), v33⟩, ⟨_, ((fset_ne (by decide)).trans g34), v34⟩, ⟨_, ((fset_ne (by decide)).trans g35), v35⟩⟩, ⟨⟨_, ((fset_ne (by decide)).trans g37), v37⟩, ⟨_, ((fset_ne (by decide)).trans g38), v38⟩, ⟨_, ((fset_ne (by decide)).trans g39), v39⟩, ⟨_, ((fset_ne (by decide)).trans g40), v40⟩, ⟨_, ((fset_ne (by decide)).trans g41), v41⟩, ⟨_, ((fset_ne (by decide)).trans g42), v42⟩, ⟨_, ((fset_ne (by decide)).trans g43), v43⟩, ⟨_, ((fset_ne (by decide)).trans g44), v44⟩⟩, ⟨⟨_, ((fset_ne (by decide)).trans g46), v46⟩, ⟨_, ((fset_ne (by decide)).trans g47), v47⟩, ⟨_, ((fset_ne (by decide)).trans g48), v48⟩, ⟨_, ((fset_ne (by decide)).trans g49), v49⟩, ⟨_, ((fset_ne (by decide)).trans g50), v50⟩, ⟨_, ((fset_ne (by decide)).trans g52), v52⟩⟩, ⟨_, ((fset_ne (by decide)).trans g53), v53⟩, ⟨⟨_, ((fset_ne (by decide)).trans g57), v57⟩, ⟨_, ((fset_ne (by decide)).trans g58), v58⟩, ⟨_, ((fset_ne (by decide)).trans g59)⟩, ⟨_, ((fset_ne (by decide)).trans g60)⟩, ⟨_, ((fset_ne (by decide)).trans g61)⟩⟩⟩, (frm_tr hf0 (frm_set (by decide)))⟩) (Nat.le_of_ble_eq_true rfl) (Nat.le_of_ble_eq_true rfl) dX5_sign_143
                · obtain ⟨hr1, hr2⟩ := hIr i (by omega)
                  refine lv_iload hx hb dX5_sign_66 (lv_at hl 1 rfl) ?_
                  refine fw_ineB (tgt := 119) hx hb dX5_sign_68 (by decide) (fun c_68 => ?_) (fun c_68 => ?_)
                  · refine lv_iconst (v := 1) hx hb dX5_sign_119 (by decide) ?_
                    refine lv_goto (tgt := 124) hx hb dX5_sign_120 (by decide) ?_
                    refine lv_istore (lv' := [(6, .int 1), (7, .int (nI i)), (0, .ref (w.1 20 0)), (1, .int (nI tt)), (2, .int (nI pp)), (3, .int (nI mm)), (4, .long x)]) hx hb dX5_sign_124 hl (by decide) rfl (fun ls hl => ?_)
                    refine lv_iinc (v := nI (i + 1)) (lv' := [(7, .int (nI (i + 1))), (6, .int 1), (0, .ref (w.1 20 0)), (1, .int (nI tt)), (2, .int (nI pp)), (3, .int (nI mm)), (4, .long x)]) hx hb dX5_sign_126 hl (k := 1) rfl (by rw [show Int32.ofInt 1 = nI 1 from rfl, nI_add]) (by decide) rfl (fun ls hl => ?_)
                    refine lv_goto (tgt := 57) hx hb dX5_sign_129 (by decide) ?_
                    refine W.widen (k := 0) (n := 0) (Nat.le_of_ble_eq_true rfl) (Nat.le_of_ble_eq_true rfl) ?_
                    exact ih (i + 1) 1 H locs ls (by omega) (by omega) (b2i_t (s_rl_t c_68 (by omega))) hP hS (lv_sub hl [0, 1, 2, 3, 4, 5, 6] rfl)
                  · refine lv_aload_n hx hb dX5_sign_71 rfl (lv_at hl 2 rfl) ?_
                    refine gf_X5_9 C hP m20 rfl rfl dX5_sign_72 ?_
                    refine lv_iload hx hb dX5_sign_75 (lv_at hl 0 rfl) ?_
                    refine fw_iald C hP g32 rfl i rfl (by omega) (by decide) dX5_sign_77 ?_
                    refine fw_E (show f32 i = nI (s_rp σ i) from v32 i (by omega)) ?_
                    refine lv_iload_n hx hb dX5_sign_78 rfl (lv_at hl 4 rfl) ?_
                    refine fw_neN (tgt := 123) hx hb (by omega) (by omega) dX5_sign_79 (by decide) (fun c_79 => ?_) (fun c_79 => ?_)
                    · refine lv_iconst (v := 0) hx hb dX5_sign_123 (by decide) ?_
                      refine lv_istore (lv' := [(6, .int 0), (7, .int (nI i)), (0, .ref (w.1 20 0)), (1, .int (nI tt)), (2, .int (nI pp)), (3, .int (nI mm)), (4, .long x)]) hx hb dX5_sign_124 hl (by decide) rfl (fun ls hl => ?_)
                      refine lv_iinc (v := nI (i + 1)) (lv' := [(7, .int (nI (i + 1))), (6, .int 0), (0, .ref (w.1 20 0)), (1, .int (nI tt)), (2, .int (nI pp)), (3, .int (nI mm)), (4, .long x)]) hx hb dX5_sign_126 hl (k := 1) rfl (by rw [show Int32.ofInt 1 = nI 1 from rfl, nI_add]) (by decide) rfl (fun ls hl => ?_)
                      refine lv_goto (tgt := 57) hx hb dX5_sign_129 (by decide) ?_
                      refine W.widen (k := 0) (n := 0) (Nat.le_of_ble_eq_true rfl) (Nat.le_of_ble_eq_true rfl) ?_
                      exact ih (i + 1) 0 H locs ls (by omega) (by omega) (b2i_f (rl_n c_68 (Or.inl c_79))) hP hS (lv_sub hl [0, 1, 2, 3, 4, 5, 6] rfl)
                    · refine lv_aload_n hx hb dX5_sign_82 rfl (lv_at hl 2 rfl) ?_
                      refine gf_X5_13 C hP m20 rfl rfl dX5_sign_83 ?_
                      refine lv_iload hx hb dX5_sign_86 (lv_at hl 0 rfl) ?_
                      refine fw_iald C hP g33 rfl i rfl (by omega) (by decide) dX5_sign_88 ?_
                      refine fw_E (show f33 i = nI (s_rk σ i) from v33 i (by omega)) ?_
                      refine lv_iload_n hx hb dX5_sign_89 rfl (lv_at hl 5 rfl) ?_
                      refine fw_neN (tgt := 123) hx hb (by omega) (by omega) dX5_sign_90 (by decide) (fun c_90 => ?_) (fun c_90 => ?_)
                      · refine lv_iconst (v := 0) hx hb dX5_sign_123 (by decide) ?_
                        refine lv_istore (lv' := [(6, .int 0), (7, .int (nI i)), (0, .ref (w.1 20 0)), (1, .int (nI tt)), (2, .int (nI pp)), (3, .int (nI mm)), (4, .long x)]) hx hb dX5_sign_124 hl (by decide) rfl (fun ls hl => ?_)
                        refine lv_iinc (v := nI (i + 1)) (lv' := [(7, .int (nI (i + 1))), (6, .int 0), (0, .ref (w.1 20 0)), (1, .int (nI tt)), (2, .int (nI pp)), (3, .int (nI mm)), (4, .long x)]) hx hb dX5_sign_126 hl (k := 1) rfl (by rw [show Int32.ofInt 1 = nI 1 from rfl, nI_add]) (by decide) rfl (fun ls hl => ?_)
                        refine lv_goto (tgt := 57) hx hb dX5_sign_129 (by decide) ?_
                        refine W.widen (k := 0) (n := 0) (Nat.le_of_ble_eq_true rfl) (Nat.le_of_ble_eq_true rfl) ?_
                        exact ih (i + 1) 0 H locs ls (by omega) (by omega) (b2i_f (rl_n c_68 (Or.inr (Or.inl c_90)))) hP hS (lv_sub hl [0, 1, 2, 3, 4, 5, 6] rfl)
                      · refine lv_aload_n hx hb dX5_sign_93 rfl (lv_at hl 2 rfl) ?_
                        refine gf_X5_16 C hP m20 rfl rfl dX5_sign_94 ?_
                        refine lv_iload hx hb dX5_sign_97 (lv_at hl 0 rfl) ?_
                        refine fw_lald C hP g34 rfl i rfl (by omega) (by decide) dX5_sign_99 ?_
                        refine fw_El (show f34 i = s_rf σ i from v34 i (by omega)) ?_
                        refine lv_lload hx hb dX5_sign_100 (lv_at hl 6 rfl) ?_
                        refine W.lcmp hx hb dX5_sign_102 ?_
                        refine fw_lgt (tgt := 123) hx hb dX5_sign_103 (by decide) (fun c_103 => ?_) (fun c_103 => ?_)
                        · refine lv_iconst (v := 0) hx hb dX5_sign_123 (by decide) ?_
                          refine lv_istore (lv' := [(6, .int 0), (7, .int (nI i)), (0, .ref (w.1 20 0)), (1, .int (nI tt)), (2, .int (nI pp)), (3, .int (nI mm)), (4, .long x)]) hx hb dX5_sign_124 hl (by decide) rfl (fun ls hl => ?_)
                          refine lv_iinc (v := nI (i + 1)) (lv' := [(7, .int (nI (i + 1))), (6, .int 0), (0, .ref (w.1 20 0)), (1, .int (nI tt)), (2, .int (nI pp)), (3, .int (nI mm)), (4, .long x)]) hx hb dX5_sign_126 hl (k := 1) rfl (by rw [show Int32.ofInt 1 = nI 1 from rfl, nI_add]) (by decide) rfl (fun ls hl => ?_)
                          refine lv_goto (tgt := 57) hx hb dX5_sign_129 (by decide) ?_
                          refine W.widen (k := 0) (n := 0) (Nat.le_of_ble_eq_true rfl) (Nat.le_of_ble_eq_true rfl) ?_
                          exact ih (i + 1) 0 H locs ls (by omega) (by omega) (b2i_f (rl_n c_68 (Or.inr (Or.inr (Or.inl c_103))))) hP hS (lv_sub hl [0, 1, 2, 3, 4, 5, 6] rfl)
                        · refine lv_lload hx hb dX5_sign_106 (lv_at hl 6 rfl) ?_
                          refine lv_aload_n hx hb dX5_sign_108 rfl (lv_at hl 2 rfl) ?_
                          refine gf_X5_20 C hP m20 rfl rfl dX5_sign_109 ?_
                          refine lv_iload hx hb dX5_sign_112 (lv_at hl 0 rfl) ?_
                          refine fw_lald C hP g35 rfl i rfl (by omega) (by decide) dX5_sign_114 ?_
                          refine fw_El (show f35 i = s_rt σ i from v35 i (by omega)) ?_
                          refine W.lcmp hx hb dX5_sign_115 ?_
                          refine fw_lgt (tgt := 123) hx hb dX5_sign_116 (by decide) (fun c_116 => ?_) (fun c_116 => ?_)
                          · refine lv_iconst (v := 0) hx hb dX5_sign_123 (by decide) ?_
                            refine lv_istore (lv' := [(6, .int 0), (7, .int (nI i)), (0, .ref (w.1 20 0)), (1, .int (nI tt)), (2, .int (nI pp)), (3, .int (nI mm)), (4, .long x)]) hx hb dX5_sign_124 hl (by decide) rfl (fun ls hl => ?_)
                            refine lv_iinc (v := nI (i + 1)) (lv' := [(7, .int (nI (i + 1))), (6, .int 0), (0, .ref (w.1 20 0)), (1, .int (nI tt)), (2, .int (nI pp)), (3, .int (nI mm)), (4, .long x)]) hx hb dX5_sign_126 hl (k := 1) rfl (by rw [show Int32.ofInt 1 = nI 1 from rfl, nI_add]) (by decide) rfl (fun ls hl => ?_)
                            refine lv_goto (tgt := 57) hx hb dX5_sign_129 (by decide) ?_
                            refine W.widen (k := 0) (n := 0) (Nat.le_of_ble_eq_true rfl) (Nat.le_of_ble_eq_true rfl) ?_
                            exact ih (i + 1) 0 H locs ls (by omega) (by omega) (b2i_f (rl_n c_68 (Or.inr (Or.inr (Or.inr c_116))))) hP hS (lv_sub hl [0, 1, 2, 3, 4, 5, 6] rfl)
                          · refine lv_iconst (v := 1) hx hb dX5_sign_119 (by decide) ?_
                            refine lv_goto (tgt := 124) hx hb dX5_sign_120 (by decide) ?_
                            refine lv_istore (lv' := [(6, .int 1), (7, .int (nI i)), (0, .ref (w.1 20 0)), (1, .int (nI tt)), (2, .int (nI pp)), (3, .int (nI mm)), (4, .long x)]) hx hb dX5_sign_124 hl (by decide) rfl (fun ls hl => ?_)
                            refine lv_iinc (v := nI (i + 1)) (lv' := [(7, .int (nI (i + 1))), (6, .int 1), (0, .ref (w.1 20 0)), (1, .int (nI tt)), (2, .int (nI pp)), (3, .int (nI mm)), (4, .long x)]) hx hb dX5_sign_126 hl (k := 1) rfl (by rw [show Int32.ofInt 1 = nI 1 from rfl, nI_add]) (by decide) rfl (fun ls hl => ?_)
                            refine lv_goto (tgt := 57) hx hb dX5_sign_129 (by decide) ?_
                            refine W.widen (k := 0) (n := 0) (Nat.le_of_ble_eq_true rfl) (Nat.le_of_ble_eq_true rfl) ?_
                            exact ih (i + 1) 1 H locs ls (by omega) (by omega) (b2i_t (rl_y c_79 c_90 c_103 c_116)) hP hS (lv_sub hl [0, 1, 2, 3, 4, 5, 6] rfl)
            exact loop (s_nr σ + 1) 0 0 _ _ _ (by omega) (by omega) rfl hP hS (lv_sub hl [0, 1, 2, 3, 4, 5, 6] rfl)
          · refine lv_bipush (v := (-3)) hx hb dX5_sign_48 (by decide) ?_
            exact fw_reti C hr hlk rfl hP hS (⟨fun v9 hv9 => by rw [(sg_2 c_10 c_18 c_25 (by rw [decide_eq_false c_45, Bool.and_false])).1] at hv9; exact Option.some.inj hv9, by rw [(sg_2 c_10 c_18 c_25 (by rw [decide_eq_false c_45, Bool.and_false])).1, (sg_2 c_10 c_18 c_25 (by rw [decide_eq_false c_45, Bool.and_false])).2]; exact hR0, hf0⟩) (Nat.le_of_ble_eq_true rfl) (Nat.le_of_ble_eq_true rfl) dX5_sign_50
      · refine lv_iconst (v := (-1)) hx hb dX5_sign_28 (by decide) ?_
        exact fw_reti C hr hlk rfl hP hS (⟨fun v9 hv9 => by rw [(sg_1 (x := x) (Or.inr (Or.inr c_25))).1] at hv9; exact Option.some.inj hv9, by rw [(sg_1 (x := x) (Or.inr (Or.inr c_25))).1, (sg_1 (x := x) (Or.inr (Or.inr c_25))).2]; exact hR0, hf0⟩) (Nat.le_of_ble_eq_true rfl) (Nat.le_of_ble_eq_true rfl) dX5_sign_29
