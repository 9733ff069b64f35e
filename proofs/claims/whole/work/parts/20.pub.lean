theorem isS_t {x : Int64} (h1 : 0 ≤ x) (h2 : x ≤ cLAST) : isSec x = true := by rw [isSec, decide_eq_true h1, decide_eq_true h2]; rfl
theorem isS_lt {x : Int64} (h : x < 0) : isSec x = false := by rw [isSec, decide_eq_false (Int64.not_le.mpr h)]; rfl
theorem isS_gt {x : Int64} (h : cLAST < x) : isSec x = false := by rw [isSec, decide_eq_false (Int64.not_le.mpr h), Bool.and_false]
theorem late_iff {σ : St} (h0 : 0 ≤ s_ck σ) (x : Int64) : (decide (x < s_ck σ) || decide (cLAST < x)) = !(isSec x && decide (s_ck σ ≤ x)) := by
  unfold isSec
  by_cases h1 : x < s_ck σ
  · rw [decide_eq_true h1, decide_eq_false (Int64.not_le.mpr h1), Bool.and_false]; rfl
  · have h2 := Int64.not_lt.mp h1
    rw [decide_eq_false h1, decide_eq_true h2, decide_eq_true (Int64.le_trans h0 h2)]
    by_cases h3 : cLAST < x
    · rw [decide_eq_true h3, decide_eq_false (Int64.not_le.mpr h3)]; rfl
    · rw [decide_eq_false h3, decide_eq_true (Int64.not_lt.mp h3)]; rfl
theorem nIle {a b : Nat} (h : a ≤ b) (hb : b < 2 ^ 31) : nI a ≤ nI b := nI_le h hb
theorem pe_full {σ : St} (h : s_np σ = 24) : a_person σ = -2 ∧ n_person σ = σ := by
  unfold a_person n_person
  rw [if_pos h, if_pos h]
  exact ⟨rfl, rfl⟩
theorem pe_ok {σ : St} (h : s_np σ ≠ 24) : a_person σ = nI (s_np σ) ∧ n_person σ = ((s_np σ + 1, s_nr σ, s_nt σ, s_ns σ, s_nw σ, s_ck σ), σ.2) := by
  unfold a_person n_person
  rw [if_neg h, if_neg h]
  exact ⟨rfl, rfl⟩
set_option maxHeartbeats 4000000 in
set_option maxRecDepth 100000 in
theorem k_X4_person (l : Launch) (Γ : FG) (w : FW) (σ : St) (hI : Inv σ) (hR : Rc σ w) : Met l yX4_person (ws_ yX4_person cX4_person 1 (some .int)) (rmD 9 5 1230) (va_Pc [.ref (w.1 0 0)] (fI Γ w)) (va_Qi (fun r w1 => r = a_person σ ∧ Rc (n_person σ) w1 ∧ fr w w1) (fI Γ) (fA Γ)) 5 1230 (fA Γ) := by
  refine fw_met (by decide) (Nat.le_of_ble_eq_true rfl) ?_
  intro p e s m below meth c ls C hP hS hr hlk hin hl
  have C : fC p s m [.ref (w.1 0 0)].toArray c cX4_person 1 RX4 Γ := C
  have hx := C.1.1
  have hb := C.1.2.1
  have hl : lv_has ls 1 [(0, .ref (w.1 0 0))] := hl
  obtain ⟨⟨hnp, hnr, hnt, hns, hnw, hck0, hck1⟩, hIr, hIt, hIb, hIn, hIs, hIg, hIw, hIa⟩ := id hI
  refine lv_aload_n hx hb dX4_person_0 rfl (lv_at hl 0 rfl) ?_
  refine gf_X4_44 C hP hR.1 rfl rfl dX4_person_1 ?_
  refine lv_bipush (v := nI 24) hx hb dX4_person_4 (by decide) ?_
  refine fw_ltN (tgt := 12) hx hb (by omega) (by omega) dX4_person_6 (by decide) (fun c_6 => ?_) (fun c_6 => ?_)
  · refine lv_aload_n hx hb dX4_person_12 rfl (lv_at hl 0 rfl) ?_
    refine lv_dup hx hb dX4_person_13 rfl ?_
    refine gf_X4_44 C hP hR.1 rfl rfl dX4_person_14 ?_
    refine lv_dup_x1 hx hb dX4_person_17 rfl rfl ?_
    refine lv_iconst (v := nI 1) hx hb dX4_person_18 (by decide) ?_
    refine fw_addN hx hb dX4_person_19 ?_
    refine pf_X4_44 C hP hS rfl rfl hR.1 rfl (Nat.le_of_ble_eq_true rfl) dX4_person_20 (fun H locs hP hS => ?_)
    have hP : fP Γ (fset w 0 0 (oO 4 [.int (nI (s_np σ + 1)), .ref (w.1 1 0), .int (nI (s_nr σ)), .ref (w.1 2 0), .int (nI (s_nt σ)), .ref (w.1 3 0), .int (nI (s_ns σ)), .ref (w.1 4 0), .int (nI (s_nw σ)), .ref (w.1 5 0), .ref (w.1 6 0), .long (s_ck σ), .ref (w.1 7 0)])) H := hP
    exact fw_reti C hr hlk rfl hP hS (⟨(pe_ok (by omega)).1.symm, by rw [(pe_ok (by omega)).2]; exact Rc_sr hR (s_np σ + 1) (s_ck σ), fr_set (by decide)⟩) (Nat.le_of_ble_eq_true rfl) (Nat.le_of_ble_eq_true rfl) dX4_person_23
  · refine lv_bipush (v := (-2)) hx hb dX4_person_9 (by decide) ?_
    exact fw_reti C hr hlk rfl hP hS (⟨(pe_full (by omega)).1.symm, by rw [(pe_full (by omega)).2]; exact hR, fr_rf w⟩) (Nat.le_of_ble_eq_true rfl) (Nat.le_of_ble_eq_true rfl) dX4_person_11
theorem ro_f {σ : St} {p r : Int32} {f t : Int64} (h : fIn p (s_np σ) = false ∨ fIn r 10 = false ∨ f < 0 ∨ cLAST < t ∨ t < f ∨ s_nr σ = 100) : a_role σ p r f t = false := by
  unfold a_role
  rcases h with h | h | h | h | h | h
  · rw [h]; rfl
  · rw [h, Bool.and_false]; rfl
  · rw [isS_lt h, Bool.and_false]; rfl
  · rw [isS_gt h, Bool.and_false]; rfl
  · rw [decide_eq_false (Int64.not_le.mpr h), Bool.and_false]; rfl
  · rw [show decide (s_nr σ ≠ 100) = false from decide_eq_false (fun q => q h), Bool.and_false]
theorem ro_t {σ : St} {p r : Int32} {f t : Int64} (h1 : fIn p (s_np σ) = true) (h2 : fIn r 10 = true) (h3 : ¬ f < 0) (h4 : ¬ cLAST < t) (h5 : ¬ t < f) (h6 : s_nr σ ≠ 100) : a_role σ p r f t = true := by
  have a := Int64.not_lt.mp h3
  have b := Int64.not_lt.mp h4
  have c := Int64.not_lt.mp h5
  unfold a_role
  rw [h1, h2, isS_t a (Int64.le_trans c b), isS_t (Int64.le_trans a c) b, decide_eq_true c, decide_eq_true h6]
  rfl
theorem ro_n {σ : St} {p r : Int32} {f t : Int64} (h : a_role σ p r f t = false) : n_role σ p r f t = σ := by
  unfold n_role
  rw [h]
  rfl
theorem ro_m {σ : St} {p r : Nat} {f t : Int64} (h : a_role σ (nI p) (nI r) f t = true) (hp : p < 2 ^ 31) (hr : r < 2 ^ 31) : n_role σ (nI p) (nI r) f t = ((s_np σ, s_nr σ + 1, s_nt σ, s_ns σ, s_nw σ, s_ck σ), (va_up (s_rp σ) (s_nr σ) p, va_up (s_rk σ) (s_nr σ) r, va_up (s_rf σ) (s_nr σ) f, va_up (s_rt σ) (s_nr σ) t), σ.2.2) := by
  unfold n_role
  rw [h, n_of_nI hp, n_of_nI hr]
  rfl
set_option maxHeartbeats 4000000 in
set_option maxRecDepth 100000 in
theorem k_X4_role (l : Launch) (Γ : FG) (w : FW) (σ : St) (px rx : Int32) (fx yx : Int64) (hI : Inv σ) (hR : Rc σ w) : Met l yX4_role (ws_ yX4_role cX4_role 7 (some .boolean)) (rmD 9 5 1230) (va_Pc [.ref (w.1 0 0), .int px, .int rx, .long fx, .long yx] (fI Γ w)) (va_Qi (fun r w1 => r = b2i (a_role σ px rx fx yx) ∧ Rc (n_role σ px rx fx yx) w1 ∧ fr w w1) (fI Γ) (fA Γ)) 5 1230 (fA Γ) := by
  refine fw_met (by decide) (Nat.le_of_ble_eq_true rfl) ?_
  intro p e s m below meth c ls C hP hS hr hlk hin hl
  have C : fC p s m [.ref (w.1 0 0), .int px, .int rx, .long fx, .long yx].toArray c cX4_role 7 RX4 Γ := C
  have hx := C.1.1
  have hb := C.1.2.1
  have hl : lv_has ls 7 [(0, .ref (w.1 0 0)), (1, .int px), (2, .int rx), (3, .long fx), (5, .long yx)] := hl
  obtain ⟨⟨hnp, hnr, hnt, hns, hnw, hck0, hck1⟩, hIr, hIt, hIb, hIn, hIs, hIg, hIw, hIa⟩ := id hI
  obtain ⟨fR, hR1, hR2, hR3⟩ := id hR.2.1
  refine lv_aload_n hx hb dX4_role_0 rfl (lv_at hl 0 rfl) ?_
  refine lv_iload_n hx hb dX4_role_1 rfl (lv_at hl 1 rfl) ?_
  refine fw_ci0 (w := w) hS (fw_rV (rest := []) (As := [.int px]) C hP hS wV_X4_48 (k_X4_isPerson l Γ w σ px hnp hR.1) hR.1 rfl rfl (fRm_mk rfl rfl (Nat.le_of_ble_eq_true rfl) (Nat.le_of_ble_eq_true rfl) (Nat.le_of_ble_eq_true rfl) (Nat.le_of_ble_eq_true rfl) (Nat.le_of_ble_eq_true rfl)) rfl hl.1 rfl dX4_role_2) (fun H locs hP hS => ?_)
  refine fw_ieqB (tgt := 15) hx hb dX4_role_5 (by decide) (fun c_5 => ?_) (fun c_5 => ?_)
  · refine lv_iconst (v := nI 0) hx hb dX4_role_15 (by decide) ?_
    exact fw_reti C hr hlk rfl hP hS (⟨b2i_f (ro_f (Or.inl c_5)), by rw [ro_n (ro_f (Or.inl c_5))]; exact hR, fr_rf w⟩) (Nat.le_of_ble_eq_true rfl) (Nat.le_of_ble_eq_true rfl) dX4_role_16
  · obtain ⟨pp, hpp, rfl⟩ := fIn_t c_5 (by omega)
    refine lv_iload_n hx hb dX4_role_8 rfl (lv_at hl 2 rfl) ?_
    refine fw_ci0 (w := w) hS (fw_rS (rest := []) (As := [.int rx]) C hP hS wS_X4_52 (k_X4_isMeaning l Γ w rx) (fRm_mk rfl rfl (Nat.le_of_ble_eq_true rfl) (Nat.le_of_ble_eq_true rfl) (Nat.le_of_ble_eq_true rfl) (Nat.le_of_ble_eq_true rfl) (Nat.le_of_ble_eq_true rfl)) rfl hl.1 rfl dX4_role_9) (fun H locs hP hS => ?_)
    refine fw_ineB (tgt := 17) hx hb dX4_role_12 (by decide) (fun c_12 => ?_) (fun c_12 => ?_)
    · obtain ⟨rr, hrr, rfl⟩ := fIn_t c_12 (by omega)
      refine lv_lload_n hx hb dX4_role_17 rfl (lv_at hl 3 rfl) ?_
      refine lv_lconst (v := 0) hx hb dX4_role_18 (by decide) ?_
      refine W.lcmp hx hb dX4_role_19 ?_
      refine fw_llt (tgt := 48) hx hb dX4_role_20 (by decide) (fun c_20 => ?_) (fun c_20 => ?_)
      · refine lv_iconst (v := nI 0) hx hb dX4_role_48 (by decide) ?_
        exact fw_reti C hr hlk rfl hP hS (⟨b2i_f (ro_f (Or.inr (Or.inr (Or.inl c_20)))), by rw [ro_n (ro_f (Or.inr (Or.inr (Or.inl c_20))))]; exact hR, fr_rf w⟩) (Nat.le_of_ble_eq_true rfl) (Nat.le_of_ble_eq_true rfl) dX4_role_49
      · refine lv_lload hx hb dX4_role_23 (lv_at hl 4 rfl) ?_
        refine lv_ldc2 hx hb C.1.2.2.2.1 (C.1.2.2.2.2 _ qk_X4_55) dX4_role_25 ?_
        refine W.lcmp hx hb dX4_role_28 ?_
        refine fw_lgt (tgt := 48) hx hb dX4_role_29 (by decide) (fun c_29 => ?_) (fun c_29 => ?_)
        · refine lv_iconst (v := nI 0) hx hb dX4_role_48 (by decide) ?_
          exact fw_reti C hr hlk rfl hP hS (⟨b2i_f (ro_f (Or.inr (Or.inr (Or.inr (Or.inl c_29))))), by rw [ro_n (ro_f (Or.inr (Or.inr (Or.inr (Or.inl c_29)))))]; exact hR, fr_rf w⟩) (Nat.le_of_ble_eq_true rfl) (Nat.le_of_ble_eq_true rfl) dX4_role_49
        · refine lv_lload_n hx hb dX4_role_32 rfl (lv_at hl 3 rfl) ?_
          refine lv_lload hx hb dX4_role_33 (lv_at hl 4 rfl) ?_
          refine W.lcmp hx hb dX4_role_35 ?_
          refine fw_lgt (tgt := 48) hx hb dX4_role_36 (by decide) (fun c_36 => ?_) (fun c_36 => ?_)
          · refine lv_iconst (v := nI 0) hx hb dX4_role_48 (by decide) ?_
            exact fw_reti C hr hlk rfl hP hS (⟨b2i_f (ro_f (Or.inr (Or.inr (Or.inr (Or.inr (Or.inl c_36)))))), by rw [ro_n (ro_f (Or.inr (Or.inr (Or.inr (Or.inr (Or.inl c_36))))))]; exact hR, fr_rf w⟩) (Nat.le_of_ble_eq_true rfl) (Nat.le_of_ble_eq_true rfl) dX4_role_49
          · refine lv_aload_n hx hb dX4_role_39 rfl (lv_at hl 0 rfl) ?_
            refine gf_X4_57 C hP hR.1 rfl rfl dX4_role_40 ?_
            refine lv_bipush (v := nI 100) hx hb dX4_role_43 (by decide) ?_
            refine fw_ltN (tgt := 50) hx hb (by omega) (by omega) dX4_role_45 (by decide) (fun c_45 => ?_) (fun c_45 => ?_)
            · refine lv_aload_n hx hb dX4_role_50 rfl (lv_at hl 0 rfl) ?_
              refine gf_X4_11 C hP hR.1 rfl rfl dX4_role_51 ?_
              refine lv_aload_n hx hb dX4_role_54 rfl (lv_at hl 0 rfl) ?_
              refine gf_X4_57 C hP hR.1 rfl rfl dX4_role_55 ?_
              refine fw_new (ci := 0) (fs := [.int 0, .int 0, .long 0, .long 0]) C hP hS 10 (s_nr σ) qy_X0 tyX0 tyX0_ok rfl ⟨ql_X4_9, qx_X0, qn_X0⟩ (by intro j hj; match j, hj with | 0, _ => rfl | 1, _ => rfl | 2, _ => rfl | 3, _ => rfl | k + 4, hj => exact absurd hj (by omega)) (hR3 _ (Nat.le_refl _)) (Nat.le_of_ble_eq_true rfl) (Nat.le_of_ble_eq_true rfl) dX4_role_58 (fun q58 H hP hS => ?_)
              have hP : fP Γ (fnew w 10 (s_nr σ) (oO 0 [.int 0, .int 0, .long 0, .long 0]) q58) H := hP
              refine lv_dup hx hb dX4_role_61 rfl ?_
              refine lv_iload_n hx hb dX4_role_62 rfl (lv_at hl 1 rfl) ?_
              refine lv_iload_n hx hb dX4_role_63 rfl (lv_at hl 2 rfl) ?_
              refine lv_lload_n hx hb dX4_role_64 rfl (lv_at hl 3 rfl) ?_
              refine lv_lload hx hb dX4_role_65 (lv_at hl 4 rfl) ?_
              have hm := k_X0_init l Γ (fnew w 10 (s_nr σ) (oO 0 [.int 0, .int 0, .long 0, .long 0]) q58) (s_nr σ) pp rr fx yx fnew_at
              rw [show (fnew w 10 (s_nr σ) (oO 0 [.int 0, .int 0, .long 0, .long 0]) q58).1 10 (s_nr σ) = q58 from fnew_aat] at hm
              refine fw_cv hS (fw_rI (rest := [.ref q58, .int (nI (s_nr σ)), .ref (w.1 1 0)]) (As := [.int (nI pp), .int (nI rr), .long fx, .long yx]) C hP hS wI_X4_60 (hm) (fRm_mk rfl rfl (Nat.le_of_ble_eq_true rfl) (Nat.le_of_ble_eq_true rfl) (Nat.le_of_ble_eq_true rfl) (Nat.le_of_ble_eq_true rfl) (Nat.le_of_ble_eq_true rfl)) rfl hl.1 rfl dX4_role_67) (fun w1 H locs hp hP hS => ?_)
              have hp : w1 = _ := hp
              subst hp
              rw [fset_n] at hP
              refine fw_aast (ci := 0) C hP hS (by decide) rfl rfl ((fnew_ne (by decide)).trans hR1) ((fnew_ane (by decide)).trans rfl) fnew_at fnew_aat (s_nr σ) rfl (by omega) (by decide) dX4_role_70 (fun H locs hP hS => ?_)
              have hP : fP Γ (fset (fnew w 10 (s_nr σ) (oO 0 [.int (nI pp), .int (nI rr), .long fx, .long yx]) q58) 1 0 (aR 4 100 (va_up fR (s_nr σ) (some q58)))) H := hP
              refine lv_aload_n hx hb dX4_role_71 rfl (lv_at hl 0 rfl) ?_
              refine lv_dup hx hb dX4_role_72 rfl ?_
              refine gf_X4_57 C hP ((fset_ne (by decide)).trans ((fnew_ne (by decide)).trans hR.1)) (fset_ad.trans ((fnew_ane (by decide)).trans rfl)) rfl dX4_role_73 ?_
              refine lv_iconst (v := nI 1) hx hb dX4_role_76 (by decide) ?_
              refine fw_addN hx hb dX4_role_77 ?_
              refine pf_X4_57 C hP hS rfl rfl ((fset_ne (by decide)).trans ((fnew_ne (by decide)).trans hR.1)) (fset_ad.trans ((fnew_ane (by decide)).trans rfl)) (Nat.le_of_ble_eq_true rfl) dX4_role_78 (fun H locs hP hS => ?_)
              have hP : fP Γ (fset (fset (fnew w 10 (s_nr σ) (oO 0 [.int (nI pp), .int (nI rr), .long fx, .long yx]) q58) 1 0 (aR 4 100 (va_up fR (s_nr σ) (some q58)))) 0 0 (oO 4 [.int (nI (s_np σ)), .ref (w.1 1 0), .int (nI (s_nr σ + 1)), .ref (w.1 2 0), .int (nI (s_nt σ)), .ref (w.1 3 0), .int (nI (s_ns σ)), .ref (w.1 4 0), .int (nI (s_nw σ)), .ref (w.1 5 0), .ref (w.1 6 0), .long (s_ck σ), .ref (w.1 7 0)])) H := hP
              refine lv_iconst (v := nI 1) hx hb dX4_role_81 (by decide) ?_
              have ht : a_role σ (nI pp) (nI rr) fx yx = true := ro_t c_5 c_12 c_20 c_29 c_36 (by omega)
              exact fw_reti C hr hlk rfl hP hS (⟨b2i_t ht, by rw [ro_m ht (by omega) (by omega)]; exact Rc_role hR hR1 rfl, fr_tr (fr_new (by decide) (hR3 _ (Nat.le_refl _))) (fr_tr (fr_set (by decide)) (fr_set (by decide)))⟩) (Nat.le_of_ble_eq_true rfl) (Nat.le_of_ble_eq_true rfl) dX4_role_82
            · refine lv_iconst (v := nI 0) hx hb dX4_role_48 (by decide) ?_
              exact fw_reti C hr hlk rfl hP hS (⟨b2i_f (ro_f (Or.inr (Or.inr (Or.inr (Or.inr (Or.inr (by omega))))))), by rw [ro_n (ro_f (Or.inr (Or.inr (Or.inr (Or.inr (Or.inr (by omega)))))))]; exact hR, fr_rf w⟩) (Nat.le_of_ble_eq_true rfl) (Nat.le_of_ble_eq_true rfl) dX4_role_49
    · refine lv_iconst (v := nI 0) hx hb dX4_role_15 (by decide) ?_
      exact fw_reti C hr hlk rfl hP hS (⟨b2i_f (ro_f (Or.inr (Or.inl c_12))), by rw [ro_n (ro_f (Or.inr (Or.inl c_12)))]; exact hR, fr_rf w⟩) (Nat.le_of_ble_eq_true rfl) (Nat.le_of_ble_eq_true rfl) dX4_role_16
theorem ho_f {σ : St} {x : Int32} (h : fIn x (s_ns σ) = false) : a_holds σ x = false := by rw [a_holds, h]; rfl
theorem ho_m {σ : St} {i : Nat} (h : fIn (nI i) (s_ns σ) = true) (hi : i < 2 ^ 31) : a_holds σ (nI i) = s_sd σ i := by rw [a_holds, h, n_of_nI hi]; rfl
set_option maxHeartbeats 4000000 in
set_option maxRecDepth 100000 in
theorem k_X4_holds (l : Launch) (Γ : FG) (w : FW) (σ : St) (ix : Int32) (hI : Inv σ) (hR : Rc σ w) : Met l yX4_holds (ws_ yX4_holds cX4_holds 3 (some .boolean)) (rmD 9 5 1230) (va_Pc [.ref (w.1 0 0), .int ix] (fI Γ w)) (va_Qi (fun r w1 => r = b2i (a_holds σ ix) ∧ Rc σ w1 ∧ fr w w1) (fI Γ) (fA Γ)) 5 1230 (fA Γ) := by
  refine fw_met (by decide) (Nat.le_of_ble_eq_true rfl) ?_
  intro p e s m below meth c ls C hP hS hr hlk hin hl
  have C : fC p s m [.ref (w.1 0 0), .int ix].toArray c cX4_holds 3 RX4 Γ := C
  have hx := C.1.1
  have hb := C.1.2.1
  have hl : lv_has ls 3 [(0, .ref (w.1 0 0)), (1, .int ix)] := hl
  obtain ⟨⟨hnp, hnr, hnt, hns, hnw, hck0, hck1⟩, hIr, hIt, hIb, hIn, hIs, hIg, hIw, hIa⟩ := id hI
  refine lv_aload_n hx hb dX4_holds_0 rfl (lv_at hl 0 rfl) ?_
  refine lv_iload_n hx hb dX4_holds_1 rfl (lv_at hl 1 rfl) ?_
  refine fw_cq0 (w := w) hS (fw_rV (rest := []) (As := [.int ix]) C hP hS wV_X4_134 (k_X4_signatureAt l Γ w σ ix hns hR.1 hR.2.2.2.1.1) hR.1 rfl rfl (fRm_mk rfl rfl (Nat.le_of_ble_eq_true rfl) (Nat.le_of_ble_eq_true rfl) (Nat.le_of_ble_eq_true rfl) (Nat.le_of_ble_eq_true rfl) (Nat.le_of_ble_eq_true rfl)) rfl hl.1 rfl dX4_holds_2) (fun H locs hP hS => ?_)
  cases c_2 : fIn ix (s_ns σ) with
  | false =>
    refine fw_Eq (y := .null) rfl ?_
    refine lv_astore_nN (lv' := [(2, .null), (0, .ref (w.1 0 0)), (1, .int ix)]) hx hb dX4_holds_5 rfl hl (by decide) rfl (fun ls hl => ?_)
    refine lv_aload_nN hx hb dX4_holds_6 rfl (lv_at hl 0 rfl) ?_
    refine lv_ifnullN (tgt := 22) hx hb dX4_holds_7 (by decide) ?_
    refine lv_iconst (v := nI 0) hx hb dX4_holds_22 (by decide) ?_
    exact fw_reti C hr hlk rfl hP hS (⟨b2i_f (ho_f c_2), hR, fr_rf w⟩) (Nat.le_of_ble_eq_true rfl) (Nat.le_of_ble_eq_true rfl) dX4_holds_23
  | true =>
    obtain ⟨ii, hii, rfl⟩ := fIn_t c_2 (by omega)
    refine fw_Eq (y := .ref (w.1 16 ii)) (by rw [n_of_nI (by omega)]; rfl) ?_
    have hS1 := (hR.2.2.2.1.2.1 ii hii).1
    refine lv_astore_n (lv' := [(2, .ref (w.1 16 ii)), (0, .ref (w.1 0 0)), (1, .int (nI ii))]) hx hb dX4_holds_5 rfl hl (by decide) rfl (fun ls hl => ?_)
    refine lv_aload_n hx hb dX4_holds_6 rfl (lv_at hl 0 rfl) ?_
    refine lv_ifnull hx hb dX4_holds_7 ?_
    refine lv_aload_n hx hb dX4_holds_10 rfl (lv_at hl 1 rfl) ?_
    refine lv_aload_n hx hb dX4_holds_11 rfl (lv_at hl 0 rfl) ?_
    refine fw_ci hS (fw_rV (rest := []) (As := [.ref (w.1 16 ii)]) C hP hS wV_X4_138 (k_X4_isStanding l Γ w σ ii hI hR hii) hR.1 rfl rfl (fRm_mk rfl rfl (Nat.le_of_ble_eq_true rfl) (Nat.le_of_ble_eq_true rfl) (Nat.le_of_ble_eq_true rfl) (Nat.le_of_ble_eq_true rfl) (Nat.le_of_ble_eq_true rfl)) rfl hl.1 rfl dX4_holds_12) (fun r1 w1 H locs hp hP hS => ?_)
    obtain ⟨ad1, u1⟩ := w1
    obtain ⟨rfl, hR1, hf1⟩ := hp
    have ha1 : ad1 = w.1 := hf1.1
    subst ha1
    refine fw_ieqB (tgt := 22) hx hb dX4_holds_15 (by decide) (fun c_15 => ?_) (fun c_15 => ?_)
    · refine lv_iconst (v := nI 0) hx hb dX4_holds_22 (by decide) ?_
      exact fw_reti C hr hlk rfl hP hS (⟨b2i_f (by rw [ho_m c_2 (by omega)]; exact c_15), hR1, frd_fr hf1⟩) (Nat.le_of_ble_eq_true rfl) (Nat.le_of_ble_eq_true rfl) dX4_holds_23
    · refine lv_iconst (v := nI 1) hx hb dX4_holds_18 (by decide) ?_
      refine lv_goto (tgt := 23) hx hb dX4_holds_19 (by decide) ?_
      exact fw_reti C hr hlk rfl hP hS (⟨b2i_t (by rw [ho_m c_2 (by omega)]; exact c_15), hR1, frd_fr hf1⟩) (Nat.le_of_ble_eq_true rfl) (Nat.le_of_ble_eq_true rfl) dX4_holds_23
