set_option maxHeartbeats 8000000 in
set_option maxRecDepth 100000 in
theorem k_X5_person (l : Launch) (Γ : FG) (w : FW) (σ : St) (th : Int32) (hI : Inv σ) (hR : Rm σ th w) : Met l yX5_person (ws_ yX5_person cX5_person 1 (some .int)) (rmD 12 0 0) (va_Pc [.ref (w.1 20 0)] (fI Γ w)) (va_Qi (fun r w1 => r = a_person σ ∧ Rm (n_person σ) 0 w1 ∧ frm w w1) (fI Γ) (fA Γ)) 0 0 (fA Γ) := by
  refine fw_met (by decide) (Nat.le_of_ble_eq_true rfl) ?_
  intro p e s m below meth c ls C hP hS hr hlk hin hl
  have C : fC p s m [.ref (w.1 20 0)].toArray c cX5_person 1 RX5 Γ := C
  have hx := C.1.1
  have hb := C.1.2.1
  have hl : lv_has ls 1 [(0, .ref (w.1 20 0))] := hl
  obtain ⟨⟨hnp, hnr, hnt, hns, hnw, hck0, hck1⟩, hIr, hIt, hIb, hIn, hIs, hIg, hIw, hIa⟩ := id hI
  obtain ⟨z0, n20, nA, nT, nS, nO, nH⟩ := id hR
  refine lv_aload_n hx hb dX5_person_0 rfl (lv_at hl 0 rfl) ?_
  refine lv_iconst (v := 0) hx hb dX5_person_1 (by decide) ?_
  refine pf_X5_84 C hP hS rfl rfl n20 rfl (Nat.le_of_ble_eq_true rfl) dX5_person_2 (fun H locs hP hS => ?_)
  have hP : fP Γ (fset w 20 0 (oO 5 [.int (nI (s_np σ)), .int (nI (s_nr σ)), .ref (w.1 32 0), .ref (w.1 33 0), .ref (w.1 34 0), .ref (w.1 35 0), .int (nI (s_nt σ)), .ref (w.1 37 0), .ref (w.1 38 0), .ref (w.1 39 0), .ref (w.1 40 0), .ref (w.1 41 0), .ref (w.1 42 0), .ref (w.1 43 0), .ref (w.1 44 0), .int (nI (s_ns σ)), .ref (w.1 46 0), .ref (w.1 47 0), .ref (w.1 48 0), .ref (w.1 49 0), .ref (w.1 50 0), .int (nI (s_nw σ)), .ref (w.1 52 0), .ref (w.1 53 0), .long (s_ck σ), .int 0, .int (b2i z0), .ref (w.1 57 0), .ref (w.1 58 0), .ref (w.1 59 0), .ref (w.1 60 0), .ref (w.1 61 0)])) H := hP
  obtain ⟨u0, hu0⟩ : ∃ u, u = ((fset w 20 0 (oO 5 [.int (nI (s_np σ)), .int (nI (s_nr σ)), .ref (w.1 32 0), .ref (w.1 33 0), .ref (w.1 34 0), .ref (w.1 35 0), .int (nI (s_nt σ)), .ref (w.1 37 0), .ref (w.1 38 0), .ref (w.1 39 0), .ref (w.1 40 0), .ref (w.1 41 0), .ref (w.1 42 0), .ref (w.1 43 0), .ref (w.1 44 0), .int (nI (s_ns σ)), .ref (w.1 46 0), .ref (w.1 47 0), .ref (w.1 48 0), .ref (w.1 49 0), .ref (w.1 50 0), .int (nI (s_nw σ)), .ref (w.1 52 0), .ref (w.1 53 0), .long (s_ck σ), .int 0, .int (b2i z0), .ref (w.1 57 0), .ref (w.1 58 0), .ref (w.1 59 0), .ref (w.1 60 0), .ref (w.1 61 0)]))).2 := ⟨_, rfl⟩
  have hw0 : (fset w 20 0 (oO 5 [.int (nI (s_np σ)), .int (nI (s_nr σ)), .ref (w.1 32 0), .ref (w.1 33 0), .ref (w.1 34 0), .ref (w.1 35 0), .int (nI (s_nt σ)), .ref (w.1 37 0), .ref (w.1 38 0), .ref (w.1 39 0), .ref (w.1 40 0), .ref (w.1 41 0), .ref (w.1 42 0), .ref (w.1 43 0), .ref (w.1 44 0), .int (nI (s_ns σ)), .ref (w.1 46 0), .ref (w.1 47 0), .ref (w.1 48 0), .ref (w.1 49 0), .ref (w.1 50 0), .int (nI (s_nw σ)), .ref (w.1 52 0), .ref (w.1 53 0), .long (s_ck σ), .int 0, .int (b2i z0), .ref (w.1 57 0), .ref (w.1 58 0), .ref (w.1 59 0), .ref (w.1 60 0), .ref (w.1 61 0)])) = (w.1, u0) := by rw [hu0]; rfl
  rw [hw0] at hP
  have hR0 : Rm σ 0 (w.1, u0) := by rw [← hw0]; exact Rm_th0 nA nT nS nO nH
  have hf0 : frm w (w.1, u0) := by rw [← hw0]; exact frm_set (by decide)
  clear hw0 hu0 n20 nA nT nS nO nH
  obtain ⟨z, m20, mA, mT, mS, mO, mH⟩ := id hR0
  obtain ⟨⟨f32, g32, v32⟩, ⟨f33, g33, v33⟩, ⟨f34, g34, v34⟩, ⟨f35, g35, v35⟩⟩ := id mA
  obtain ⟨⟨f37, g37, v37⟩, ⟨f38, g38, v38⟩, ⟨f39, g39, v39⟩, ⟨f40, g40, v40⟩, ⟨f41, g41, v41⟩, ⟨f42, g42, v42⟩, ⟨f43, g43, v43⟩, ⟨f44, g44, v44⟩⟩ := id mT
  obtain ⟨⟨f46, g46, v46⟩, ⟨f47, g47, v47⟩, ⟨f48, g48, v48⟩, ⟨f49, g49, v49⟩, ⟨f50, g50, v50⟩, ⟨f52, g52, v52⟩⟩ := id mS
  obtain ⟨f53, g53, v53⟩ := id mO
  obtain ⟨⟨f57, g57, v57⟩, ⟨f58, g58, v58⟩, ⟨f59, g59⟩, ⟨f60, g60⟩, ⟨f61, g61⟩⟩ := id mH
  refine lv_aload_n hx hb dX5_person_5 rfl (lv_at hl 0 rfl) ?_
  refine gf_X5_88 C hP m20 rfl rfl dX5_person_6 ?_
  refine lv_bipush (v := nI 24) hx hb dX5_person_9 (by decide) ?_
  refine fw_neN (tgt := 17) hx hb (by omega) (by omega) dX5_person_11 (by decide) (fun c_11 => ?_) (fun c_11 => ?_)
  · refine lv_aload_n hx hb dX5_person_17 rfl (lv_at hl 0 rfl) ?_
    refine lv_dup hx hb dX5_person_18 rfl ?_
    refine gf_X5_88 C hP m20 rfl rfl dX5_person_19 ?_
    refine lv_iconst (v := nI 1) hx hb dX5_person_22 (by decide) ?_
    refine fw_addN hx hb dX5_person_23 ?_
    refine pf_X5_88 C hP hS rfl rfl m20 rfl (Nat.le_of_ble_eq_true rfl) dX5_person_24 (fun H locs hP hS => ?_)
    have hP : fP Γ (fset (w.1, u0) 20 0 (oO 5 [.int (nI (s_np σ + 1)), .int (nI (s_nr σ)), .ref (w.1 32 0), .ref (w.1 33 0), .ref (w.1 34 0), .ref (w.1 35 0), .int (nI (s_nt σ)), .ref (w.1 37 0), .ref (w.1 38 0), .ref (w.1 39 0), .ref (w.1 40 0), .ref (w.1 41 0), .ref (w.1 42 0), .ref (w.1 43 0), .ref (w.1 44 0), .int (nI (s_ns σ)), .ref (w.1 46 0), .ref (w.1 47 0), .ref (w.1 48 0), .ref (w.1 49 0), .ref (w.1 50 0), .int (nI (s_nw σ)), .ref (w.1 52 0), .ref (w.1 53 0), .long (s_ck σ), .int 0, .int (b2i z), .ref (w.1 57 0), .ref (w.1 58 0), .ref (w.1 59 0), .ref (w.1 60 0), .ref (w.1 61 0)])) H := hP
    refine lv_aload_n hx hb dX5_person_27 rfl (lv_at hl 0 rfl) ?_
    refine gf_X5_88 C hP fset_at rfl rfl dX5_person_28 ?_
    refine lv_iconst (v := nI 1) hx hb dX5_person_31 (by decide) ?_
    refine fw_subN hx hb (by omega) dX5_person_32 ?_
    exact fw_reti C hr hlk rfl hP hS (⟨by rw [(pe_ok (by omega)).1, (by omega : s_np σ + 1 - 1 = s_np σ)], by rw [(pe_ok (by omega)).2]; exact ⟨z, fset_at, ⟨⟨_, ((fset_ne (by decide)).trans g32), v32⟩, ⟨_, ((fset_ne (by decide)).trans g33), v33⟩, ⟨_, ((fset_ne (by decide)).trans g34), v34⟩, ⟨_, ((fset_ne (by decide)).trans g35), v35⟩⟩, ⟨⟨_, ((fset_ne (by decide)).trans g37), v37⟩, ⟨_, ((fset_ne (by decide)).trans g38), v38⟩, ⟨_, ((fset_ne (by decide)).trans g39), v39⟩, ⟨_, ((fset_ne (by decide)).trans g40), v40⟩, ⟨_, ((fset_ne (by decide)).trans g41), v41⟩, ⟨_, ((fset_ne (by decide)).trans g42), v42⟩, ⟨_, ((fset_ne (by decide)).trans g43), v43⟩, ⟨_, ((fset_ne (by decide)).trans g44), v44⟩⟩, ⟨⟨_, ((fset_ne (by decide)).trans g46), v46⟩, ⟨_, ((fset_ne (by decide)).trans g47), v47⟩, ⟨_, ((fset_ne (by decide)).trans g48), v48⟩, ⟨_, ((fset_ne (by decide)).trans g49), v49⟩, ⟨_, ((fset_ne (by decide)).trans g50), v50⟩, ⟨_, ((fset_ne (by decide)).trans g52), v52⟩⟩, ⟨_, ((fset_ne (by decide)).trans g53), v53⟩, ⟨⟨_, ((fset_ne (by decide)).trans g57), v57⟩, ⟨_, ((fset_ne (by decide)).trans g58), v58⟩, ⟨_, ((fset_ne (by decide)).trans g59)⟩, ⟨_, ((fset_ne (by decide)).trans g60)⟩, ⟨_, ((fset_ne (by decide)).trans g61)⟩⟩⟩, (frm_tr hf0 (frm_set (by decide)))⟩) (Nat.le_of_ble_eq_true rfl) (Nat.le_of_ble_eq_true rfl) dX5_person_33
  · refine lv_bipush (v := (-2)) hx hb dX5_person_14 (by decide) ?_
    exact fw_reti C hr hlk rfl hP hS (⟨(pe_full (by omega)).1.symm, by rw [(pe_full (by omega)).2]; exact hR0, hf0⟩) (Nat.le_of_ble_eq_true rfl) (Nat.le_of_ble_eq_true rfl) dX5_person_16
theorem ro_f2 {σ : St} {p r : Int32} {f t : Int64} (h : fIn p (s_np σ) = false ∨ fIn r 10 = false ∨ isSec f = false ∨ isSec t = false ∨ t < f ∨ s_nr σ = 100) : a_role σ p r f t = false := by
  unfold a_role
  rcases h with h | h | h | h | h | h
  · rw [h]; rfl
  · rw [h, Bool.and_false]; rfl
  · rw [h, Bool.and_false]; rfl
  · rw [h, Bool.and_false]; rfl
  · rw [decide_eq_false (Int64.not_le.mpr h), Bool.and_false]; rfl
  · rw [show decide (s_nr σ ≠ 100) = false from decide_eq_false (fun q => q h), Bool.and_false]
theorem ro_t2 {σ : St} {p r : Int32} {f t : Int64} (h1 : fIn p (s_np σ) = true) (h2 : fIn r 10 = true) (h3 : isSec f = true) (h4 : isSec t = true) (h5 : ¬ t < f) (h6 : s_nr σ ≠ 100) : a_role σ p r f t = true := by
  unfold a_role
  rw [h1, h2, h3, h4, decide_eq_true (Int64.not_lt.mp h5), decide_eq_true h6]
  rfl
set_option maxHeartbeats 8000000 in
set_option maxRecDepth 100000 in
theorem k_X5_role (l : Launch) (Γ : FG) (w : FW) (σ : St) (th : Int32) (px rx : Int32) (fx yx : Int64) (hI : Inv σ) (hR : Rm σ th w) : Met l yX5_role (ws_ yX5_role cX5_role 7 (some .boolean)) (rmD 12 0 0) (va_Pc [.ref (w.1 20 0), .int px, .int rx, .long fx, .long yx] (fI Γ w)) (va_Qi (fun r w1 => r = b2i (a_role σ px rx fx yx) ∧ Rm (n_role σ px rx fx yx) 0 w1 ∧ frm w w1) (fI Γ) (fA Γ)) 0 0 (fA Γ) := by
  refine fw_met (by decide) (Nat.le_of_ble_eq_true rfl) ?_
  intro p e s m below meth c ls C hP hS hr hlk hin hl
  have C : fC p s m [.ref (w.1 20 0), .int px, .int rx, .long fx, .long yx].toArray c cX5_role 7 RX5 Γ := C
  have hx := C.1.1
  have hb := C.1.2.1
  have hl : lv_has ls 7 [(0, .ref (w.1 20 0)), (1, .int px), (2, .int rx), (3, .long fx), (5, .long yx)] := hl
  obtain ⟨⟨hnp, hnr, hnt, hns, hnw, hck0, hck1⟩, hIr, hIt, hIb, hIn, hIs, hIg, hIw, hIa⟩ := id hI
  obtain ⟨z0, n20, nA, nT, nS, nO, nH⟩ := id hR
  refine lv_aload_n hx hb dX5_role_0 rfl (lv_at hl 0 rfl) ?_
  refine lv_iconst (v := 0) hx hb dX5_role_1 (by decide) ?_
  refine pf_X5_84 C hP hS rfl rfl n20 rfl (Nat.le_of_ble_eq_true rfl) dX5_role_2 (fun H locs hP hS => ?_)
  have hP : fP Γ (fset w 20 0 (oO 5 [.int (nI (s_np σ)), .int (nI (s_nr σ)), .ref (w.1 32 0), .ref (w.1 33 0), .ref (w.1 34 0), .ref (w.1 35 0), .int (nI (s_nt σ)), .ref (w.1 37 0), .ref (w.1 38 0), .ref (w.1 39 0), .ref (w.1 40 0), .ref (w.1 41 0), .ref (w.1 42 0), .ref (w.1 43 0), .ref (w.1 44 0), .int (nI (s_ns σ)), .ref (w.1 46 0), .ref (w.1 47 0), .ref (w.1 48 0), .ref (w.1 49 0), .ref (w.1 50 0), .int (nI (s_nw σ)), .ref (w.1 52 0), .ref (w.1 53 0), .long (s_ck σ), .int 0, .int (b2i z0), .ref (w.1 57 0), .ref (w.1 58 0), .ref (w.1 59 0), .ref (w.1 60 0), .ref (w.1 61 0)])) H := hP
  obtain ⟨u0, hu0⟩ : ∃ u, u = ((fset w 20 0 (oO 5 [.int (nI (s_np σ)), .int (nI (s_nr σ)), .ref (w.1 32 0), .ref (w.1 33 0), .ref (w.1 34 0), .ref (w.1 35 0), .int (nI (s_nt σ)), .ref (w.1 37 0), .ref (w.1 38 0), .ref (w.1 39 0), .ref (w.1 40 0), .ref (w.1 41 0), .ref (w.1 42 0), .ref (w.1 43 0), .ref (w.1 44 0), .int (nI (s_ns σ)), .ref (w.1 46 0), .ref (w.1 47 0), .ref (w.1 48 0), .ref (w.1 49 0), .ref (w.1 50 0), .int (nI (s_nw σ)), .ref (w.1 52 0), .ref (w.1 53 0), .long (s_ck σ), .int 0, .int (b2i z0), .ref (w.1 57 0), .ref (w.1 58 0), .ref (w.1 59 0), .ref (w.1 60 0), .ref (w.1 61 0)]))).2 := ⟨_, rfl⟩
  have hw0 : (fset w 20 0 (oO 5 [.int (nI (s_np σ)), .int (nI (s_nr σ)), .ref (w.1 32 0), .ref (w.1 33 0), .ref (w.1 34 0), .ref (w.1 35 0), .int (nI (s_nt σ)), .ref (w.1 37 0), .ref (w.1 38 0), .ref (w.1 39 0), .ref (w.1 40 0), .ref (w.1 41 0), .ref (w.1 42 0), .ref (w.1 43 0), .ref (w.1 44 0), .int (nI (s_ns σ)), .ref (w.1 46 0), .ref (w.1 47 0), .ref (w.1 48 0), .ref (w.1 49 0), .ref (w.1 50 0), .int (nI (s_nw σ)), .ref (w.1 52 0), .ref (w.1 53 0), .long (s_ck σ), .int 0, .int (b2i z0), .ref (w.1 57 0), .ref (w.1 58 0), .ref (w.1 59 0), .ref (w.1 60 0), .ref (w.1 61 0)])) = (w.1, u0) := by rw [hu0]; rfl
  rw [hw0] at hP
  have hR0 : Rm σ 0 (w.1, u0) := by rw [← hw0]; exact Rm_th0 nA nT nS nO nH
  have hf0 : frm w (w.1, u0) := by rw [← hw0]; exact frm_set (by decide)
  clear hw0 hu0 n20 nA nT nS nO nH
  obtain ⟨z, m20, mA, mT, mS, mO, mH⟩ := id hR0
  obtain ⟨⟨f32, g32, v32⟩, ⟨f33, g33, v33⟩, ⟨f34, g34, v34⟩, ⟨f35, g35, v35⟩⟩ := id mA
  obtain ⟨⟨f37, g37, v37⟩, ⟨f38, g38, v38⟩, ⟨f39, g39, v39⟩, ⟨f40, g40, v40⟩, ⟨f41, g41, v41⟩, ⟨f42, g42, v42⟩, ⟨f43, g43, v43⟩, ⟨f44, g44, v44⟩⟩ := id mT
  obtain ⟨⟨f46, g46, v46⟩, ⟨f47, g47, v47⟩, ⟨f48, g48, v48⟩, ⟨f49, g49, v49⟩, ⟨f50, g50, v50⟩, ⟨f52, g52, v52⟩⟩ := id mS
  obtain ⟨f53, g53, v53⟩ := id mO
  obtain ⟨⟨f57, g57, v57⟩, ⟨f58, g58, v58⟩, ⟨f59, g59⟩, ⟨f60, g60⟩, ⟨f61, g61⟩⟩ := id mH
  refine lv_aload_n hx hb dX5_role_5 rfl (lv_at hl 0 rfl) ?_
  refine lv_iload_n hx hb dX5_role_6 rfl (lv_at hl 1 rfl) ?_
  refine fw_ci0 (w := (w.1, u0)) hS (fw_rV (rest := []) (As := [.int px]) C hP hS wV_X5_96 (k_X5_isPerson l Γ (w.1, u0) σ 0 z px hnp m20) m20 rfl rfl (fRm_mk rfl rfl (Nat.le_of_ble_eq_true rfl) (Nat.le_of_ble_eq_true rfl) (Nat.le_of_ble_eq_true rfl) (Nat.le_of_ble_eq_true rfl) (Nat.le_of_ble_eq_true rfl)) rfl hl.1 rfl dX5_role_7) (fun H locs hP hS => ?_)
  refine fw_ieqB (tgt := 51) hx hb dX5_role_10 (by decide) (fun c_10 => ?_) (fun c_10 => ?_)
  · refine lv_iconst (v := 0) hx hb dX5_role_51 (by decide) ?_
    exact fw_reti C hr hlk rfl hP hS (⟨b2i_f (ro_f2 (Or.inl c_10)), by rw [ro_n (ro_f2 (Or.inl c_10))]; exact hR0, hf0⟩) (Nat.le_of_ble_eq_true rfl) (Nat.le_of_ble_eq_true rfl) dX5_role_52
  · obtain ⟨pp, hpp, rfl⟩ := fIn_t c_10 (by omega)
    refine lv_iload_n hx hb dX5_role_13 rfl (lv_at hl 2 rfl) ?_
    refine fw_ci0 (w := (w.1, u0)) hS (fw_rS (rest := []) (As := [.int rx]) C hP hS wS_X5_100 (k_X5_isTen l Γ (w.1, u0) rx) (fRm_mk rfl rfl (Nat.le_of_ble_eq_true rfl) (Nat.le_of_ble_eq_true rfl) (Nat.le_of_ble_eq_true rfl) (Nat.le_of_ble_eq_true rfl) (Nat.le_of_ble_eq_true rfl)) rfl hl.1 rfl dX5_role_14) (fun H locs hP hS => ?_)
    refine fw_ieqB (tgt := 51) hx hb dX5_role_17 (by decide) (fun c_17 => ?_) (fun c_17 => ?_)
    · refine lv_iconst (v := 0) hx hb dX5_role_51 (by decide) ?_
      exact fw_reti C hr hlk rfl hP hS (⟨b2i_f (ro_f2 (Or.inr (Or.inl c_17))), by rw [ro_n (ro_f2 (Or.inr (Or.inl c_17)))]; exact hR0, hf0⟩) (Nat.le_of_ble_eq_true rfl) (Nat.le_of_ble_eq_true rfl) dX5_role_52
    · obtain ⟨rr, hrr, rfl⟩ := fIn_t c_17 (by omega)
      refine lv_lload_n hx hb dX5_role_20 rfl (lv_at hl 3 rfl) ?_
      refine fw_ci0 (w := (w.1, u0)) hS (fw_rS (rest := []) (As := [.long fx]) C hP hS wS_X5_103 (k_X5_isSecond l Γ (w.1, u0) fx) (fRm_mk rfl rfl (Nat.le_of_ble_eq_true rfl) (Nat.le_of_ble_eq_true rfl) (Nat.le_of_ble_eq_true rfl) (Nat.le_of_ble_eq_true rfl) (Nat.le_of_ble_eq_true rfl)) rfl hl.1 rfl dX5_role_21) (fun H locs hP hS => ?_)
      refine fw_ieqB (tgt := 51) hx hb dX5_role_24 (by decide) (fun c_24 => ?_) (fun c_24 => ?_)
      · refine lv_iconst (v := 0) hx hb dX5_role_51 (by decide) ?_
        exact fw_reti C hr hlk rfl hP hS (⟨b2i_f (ro_f2 (Or.inr (Or.inr (Or.inl c_24)))), by rw [ro_n (ro_f2 (Or.inr (Or.inr (Or.inl c_24))))]; exact hR0, hf0⟩) (Nat.le_of_ble_eq_true rfl) (Nat.le_of_ble_eq_true rfl) dX5_role_52
      · refine lv_lload hx hb dX5_role_27 (lv_at hl 4 rfl) ?_
        refine fw_ci0 (w := (w.1, u0)) hS (fw_rS (rest := []) (As := [.long yx]) C hP hS wS_X5_103 (k_X5_isSecond l Γ (w.1, u0) yx) (fRm_mk rfl rfl (Nat.le_of_ble_eq_true rfl) (Nat.le_of_ble_eq_true rfl) (Nat.le_of_ble_eq_true rfl) (Nat.le_of_ble_eq_true rfl) (Nat.le_of_ble_eq_true rfl)) rfl hl.1 rfl dX5_role_29) (fun H locs hP hS => ?_)
        refine fw_ieqB (tgt := 51) hx hb dX5_role_32 (by decide) (fun c_32 => ?_) (fun c_32 => ?_)
        · refine lv_iconst (v := 0) hx hb dX5_role_51 (by decide) ?_
          exact fw_reti C hr hlk rfl hP hS (⟨b2i_f (ro_f2 (Or.inr (Or.inr (Or.inr (Or.inl c_32))))), by rw [ro_n (ro_f2 (Or.inr (Or.inr (Or.inr (Or.inl c_32)))))]; exact hR0, hf0⟩) (Nat.le_of_ble_eq_true rfl) (Nat.le_of_ble_eq_true rfl) dX5_role_52
        · refine lv_lload_n hx hb dX5_role_35 rfl (lv_at hl 3 rfl) ?_
          refine lv_lload hx hb dX5_role_36 (lv_at hl 4 rfl) ?_
          refine W.lcmp hx hb dX5_role_38 ?_
          refine fw_lgt (tgt := 51) hx hb dX5_role_39 (by decide) (fun c_39 => ?_) (fun c_39 => ?_)
          · refine lv_iconst (v := 0) hx hb dX5_role_51 (by decide) ?_
            exact fw_reti C hr hlk rfl hP hS (⟨b2i_f (ro_f2 (Or.inr (Or.inr (Or.inr (Or.inr (Or.inl c_39)))))), by rw [ro_n (ro_f2 (Or.inr (Or.inr (Or.inr (Or.inr (Or.inl c_39))))))]; exact hR0, hf0⟩) (Nat.le_of_ble_eq_true rfl) (Nat.le_of_ble_eq_true rfl) dX5_role_52
          · refine lv_aload_n hx hb dX5_role_42 rfl (lv_at hl 0 rfl) ?_
            refine gf_X5_107 C hP m20 rfl rfl dX5_role_43 ?_
            refine lv_bipush (v := nI 100) hx hb dX5_role_46 (by decide) ?_
            refine fw_neN (tgt := 53) hx hb (by omega) (by omega) dX5_role_48 (by decide) (fun c_48 => ?_) (fun c_48 => ?_)
            · refine lv_aload_n hx hb dX5_role_53 rfl (lv_at hl 0 rfl) ?_
              refine gf_X5_9 C hP m20 rfl rfl dX5_role_54 ?_
              refine lv_aload_n hx hb dX5_role_57 rfl (lv_at hl 0 rfl) ?_
              refine gf_X5_107 C hP m20 rfl rfl dX5_role_58 ?_
              refine lv_iload_n hx hb dX5_role_61 rfl (lv_at hl 1 rfl) ?_
              refine fw_iast C hP hS g32 rfl (s_nr σ) rfl (by omega) (by decide) dX5_role_62 (fun H locs hP hS => ?_)
              have hP : fP Γ (fset (w.1, u0) 32 0 (aI 1 100 (upd f32 (s_nr σ) (nI pp)))) H := hP
              refine lv_aload_n hx hb dX5_role_63 rfl (lv_at hl 0 rfl) ?_
              refine gf_X5_13 C hP ((fset_ne (by decide)).trans m20) rfl rfl dX5_role_64 ?_
              refine lv_aload_n hx hb dX5_role_67 rfl (lv_at hl 0 rfl) ?_
              refine gf_X5_107 C hP ((fset_ne (by decide)).trans m20) rfl rfl dX5_role_68 ?_
              refine lv_iload_n hx hb dX5_role_71 rfl (lv_at hl 2 rfl) ?_
              refine fw_iast C hP hS ((fset_ne (by decide)).trans g33) rfl (s_nr σ) rfl (by omega) (by decide) dX5_role_72 (fun H locs hP hS => ?_)
              have hP : fP Γ (fset (fset (w.1, u0) 32 0 (aI 1 100 (upd f32 (s_nr σ) (nI pp)))) 33 0 (aI 1 100 (upd f33 (s_nr σ) (nI rr)))) H := hP
              refine lv_aload_n hx hb dX5_role_73 rfl (lv_at hl 0 rfl) ?_
              refine gf_X5_16 C hP ((fset_ne (by decide)).trans ((fset_ne (by decide)).trans m20)) rfl rfl dX5_role_74 ?_
              refine lv_aload_n hx hb dX5_role_77 rfl (lv_at hl 0 rfl) ?_
              refine gf_X5_107 C hP ((fset_ne (by decide)).trans ((fset_ne (by decide)).trans m20)) rfl rfl dX5_role_78 ?_
              refine lv_lload_n hx hb dX5_role_81 rfl (lv_at hl 3 rfl) ?_
              refine fw_last C hP hS ((fset_ne (by decide)).trans ((fset_ne (by decide)).trans g34)) rfl (s_nr σ) rfl (by omega) (by decide) dX5_role_82 (fun H locs hP hS => ?_)
              have hP : fP Γ (fset (fset (fset (w.1, u0) 32 0 (aI 1 100 (upd f32 (s_nr σ) (nI pp)))) 33 0 (aI 1 100 (upd f33 (s_nr σ) (nI rr)))) 34 0 (aL 100 (vp_updL f34 (s_nr σ) fx))) H := hP
              refine lv_aload_n hx hb dX5_role_83 rfl (lv_at hl 0 rfl) ?_
              refine gf_X5_20 C hP ((fset_ne (by decide)).trans ((fset_ne (by decide)).trans ((fset_ne (by decide)).trans m20))) rfl rfl dX5_role_84 ?_
              refine lv_aload_n hx hb dX5_role_87 rfl (lv_at hl 0 rfl) ?_
              refine gf_X5_107 C hP ((fset_ne (by decide)).trans ((fset_ne (by decide)).trans ((fset_ne (by decide)).trans m20))) rfl rfl dX5_role_88 ?_
              refine lv_lload hx hb dX5_role_91 (lv_at hl 4 rfl) ?_
              refine fw_last C hP hS ((fset_ne (by decide)).trans ((fset_ne (by decide)).trans ((fset_ne (by decide)).trans g35))) rfl (s_nr σ) rfl (by omega) (by decide) dX5_role_93 (fun H locs hP hS => ?_)
              have hP : fP Γ (fset (fset (fset (fset (w.1, u0) 32 0 (aI 1 100 (upd f32 (s_nr σ) (nI pp)))) 33 0 (aI 1 100 (upd f33 (s_nr σ) (nI rr)))) 34 0 (aL 100 (vp_updL f34 (s_nr σ) fx))) 35 0 (aL 100 (vp_updL f35 (s_nr σ) yx))) H := hP
              refine lv_aload_n hx hb dX5_role_94 rfl (lv_at hl 0 rfl) ?_
              refine lv_dup hx hb dX5_role_95 rfl ?_
              refine gf_X5_107 C hP ((fset_ne (by decide)).trans ((fset_ne (by decide)).trans ((fset_ne (by decide)).trans ((fset_ne (by decide)).trans m20)))) rfl rfl dX5_role_96 ?_
              refine lv_iconst (v := nI 1) hx hb dX5_role_99 (by decide) ?_
              refine fw_addN hx hb dX5_role_100 ?_
              refine pf_X5_107 C hP hS rfl rfl ((fset_ne (by decide)).trans ((fset_ne (by decide)).trans ((fset_ne (by decide)).trans ((fset_ne (by decide)).trans m20)))) rfl (Nat.le_of_ble_eq_true rfl) dX5_role_101 (fun H locs hP hS => ?_)
              have hP : fP Γ (fset (fset (fset (fset (fset (w.1, u0) 32 0 (aI 1 100 (upd f32 (s_nr σ) (nI pp)))) 33 0 (aI 1 100 (upd f33 (s_nr σ) (nI rr)))) 34 0 (aL 100 (vp_updL f34 (s_nr σ) fx))) 35 0 (aL 100 (vp_updL f35 (s_nr σ) yx))) 20 0 (oO 5 [.int (nI (s_np σ)), .int (nI (s_nr σ + 1)), .ref (w.1 32 0), .ref (w.1 33 0), .ref (w.1 34 0), .ref (w.1 35 0), .int (nI (s_nt σ)), .ref (w.1 37 0), .ref (w.1 38 0), .ref (w.1 39 0), .ref (w.1 40 0), .ref (w.1 41 0), .ref (w.1 42 0), .ref (w.1 43 0), .ref (w.1 44 0), .int (nI (s_ns σ)), .ref (w.1 46 0), .ref (w.1 47 0), .ref (w.1 48 0), .ref (w.1 49 0), .ref (w.1 50 0), .int (nI (s_nw σ)), .ref (w.1 52 0), .ref (w.1 53 0), .long (s_ck σ), .int 0, .int (b2i z), .ref (w.1 57 0), .ref (w.1 58 0), .ref (w.1 59 0), .ref (w.1 60 0), .ref (w.1 61 0)])) H := hP
              refine lv_iconst (v := 1) hx hb dX5_role_104 (by decide) ?_
              have htt1 : a_role σ (nI pp) (nI rr) fx yx = true := ro_t2 c_10 c_17 c_24 c_32 c_39 (by omega)
              exact fw_reti C hr hlk rfl hP hS (⟨b2i_t htt1, by rw [ro_m htt1 (by omega) (by omega)]; exact ⟨z, fset_at, ⟨⟨_, ((fset_ne (by decide)).trans ((fset_ne (by decide)).trans ((fset_ne (by decide)).trans ((fset_ne (by decide)).trans fset_at)))), up_N v32⟩, ⟨_, ((fset_ne (by decide)).trans ((fset_ne (by decide)).trans ((fset_ne (by decide)).trans fset_at))), up_N v33⟩, ⟨_, ((fset_ne (by decide)).trans ((fset_ne (by decide)).trans fset_at)), up_L v34⟩, ⟨_, ((fset_ne (by decide)).trans fset_at), up_L v35⟩⟩, ⟨⟨_, ((fset_ne (by decide)).trans ((fset_ne (by decide)).trans ((fset_ne (by decide)).trans ((fset_ne (by decide)).trans ((fset_ne (by decide)).trans g37))))), v37⟩, ⟨_, ((fset_ne (by decide)).trans ((fset_ne (by decide)).trans ((fset_ne (by decide)).trans ((fset_ne (by decide)).trans ((fset_ne (by decide)).trans g38))))), v38⟩, ⟨_, ((fset_ne (by decide)).trans ((fset_ne (by decide)).trans ((fset_ne (by decide)).trans ((fset_ne (by decide)).trans ((fset_ne (by decide)).trans g39))))), v39⟩, ⟨_, ((fset_ne (by decide)).trans ((fset_ne (by decide)).trans ((fset_ne (by decide)).trans ((fset_ne (by decide)).trans ((fset_ne (by decide)).trans g40))))), v40⟩, ⟨_, ((fset_ne (by decide)).trans ((fset_ne (by decide)).trans ((fset_ne (by decide)).trans ((fset_ne (by decide)).trans ((fset_ne (by decide)).trans g41))))), v41⟩, ⟨_, ((fset_ne (by decide)).trans ((fset_ne (by decide)).trans ((fset_ne (by decide)).trans ((fset_ne (by decide)).trans ((fset_ne (by decide)).trans g42))))), v42⟩, ⟨_, ((fset_ne (by decide)).trans ((fset_ne (by decide)).trans ((fset_ne (by decide)).trans ((fset_ne (by decide)).trans ((fset_ne (by decide)).trans g43))))), v43⟩, ⟨_, ((fset_ne (by decide)).trans ((fset_ne (by decide)).trans ((fset_ne (by decide)).trans ((fset_ne (by decide)).trans ((fset_ne (by decide)).trans g44))))), v44⟩⟩, ⟨⟨_, ((fset_ne (by decide)).trans ((fset_ne (by decide)).trans ((fset_ne (by decide)).trans ((fset_ne (by decide)).trans ((fset_ne (by decide)).trans g46))))), v46⟩, ⟨_, ((fset_ne (by decide)).trans ((fset_ne (by decide)).trans ((fset_ne (by decide)).trans ((fset_ne (by decide)).trans ((fset_ne (by decide)).trans g47))))), v47⟩, ⟨_, ((fset_ne (by decide)).trans ((fset_ne (by decide)).trans ((fset_ne (by decide)).trans ((fset_ne (by decide)).trans ((fset_ne (by decide)).trans g48))))), v48⟩, ⟨_, ((fset_ne (by decide)).trans ((fset_ne (by decide)).trans ((fset_ne (by decide)).trans ((fset_ne (by decide)).trans ((fset_ne (by decide)).trans g49))))), v49⟩, ⟨_, ((fset_ne (by decide)).trans ((fset_ne (by decide)).trans ((fset_ne (by decide)).trans ((fset_ne (by decide)).trans ((fset_ne (by decide)).trans g50))))), v50⟩, ⟨_, ((fset_ne (by decide)).trans ((fset_ne (by decide)).trans ((fset_ne (by decide)).trans ((fset_ne (by decide)).trans ((fset_ne (by decide)).trans g52))))), v52⟩⟩, ⟨_, ((fset_ne (by decide)).trans ((fset_ne (by decide)).trans ((fset_ne (by decide)).trans ((fset_ne (by decide)).trans ((fset_ne (by decide)).trans g53))))), v53⟩, ⟨⟨_, ((fset_ne (by decide)).trans ((fset_ne (by decide)).trans ((fset_ne (by decide)).trans ((fset_ne (by decide)).trans ((fset_ne (by decide)).trans g57))))), v57⟩, ⟨_, ((fset_ne (by decide)).trans ((fset_ne (by decide)).trans ((fset_ne (by decide)).trans ((fset_ne (by decide)).trans ((fset_ne (by decide)).trans g58))))), v58⟩, ⟨_, ((fset_ne (by decide)).trans ((fset_ne (by decide)).trans ((fset_ne (by decide)).trans ((fset_ne (by decide)).trans ((fset_ne (by decide)).trans g59)))))⟩, ⟨_, ((fset_ne (by decide)).trans ((fset_ne (by decide)).trans ((fset_ne (by decide)).trans ((fset_ne (by decide)).trans ((fset_ne (by decide)).trans g60)))))⟩, ⟨_, ((fset_ne (by decide)).trans ((fset_ne (by decide)).trans ((fset_ne (by decide)).trans ((fset_ne (by decide)).trans ((fset_ne (by decide)).trans g61)))))⟩⟩⟩, (frm_tr (frm_tr (frm_tr (frm_tr (frm_tr hf0 (frm_set (by decide))) (frm_set (by decide))) (frm_set (by decide))) (frm_set (by decide))) (frm_set (by decide)))⟩) (Nat.le_of_ble_eq_true rfl) (Nat.le_of_ble_eq_true rfl) dX5_role_105
            · refine lv_iconst (v := 0) hx hb dX5_role_51 (by decide) ?_
              exact fw_reti C hr hlk rfl hP hS (⟨b2i_f (ro_f2 (Or.inr (Or.inr (Or.inr (Or.inr (Or.inr (by omega))))))), by rw [ro_n (ro_f2 (Or.inr (Or.inr (Or.inr (Or.inr (Or.inr (by omega)))))))]; exact hR0, hf0⟩) (Nat.le_of_ble_eq_true rfl) (Nat.le_of_ble_eq_true rfl) dX5_role_52
set_option maxHeartbeats 8000000 in
set_option maxRecDepth 100000 in
theorem k_X5_holds (l : Launch) (Γ : FG) (w : FW) (σ : St) (th : Int32) (ix : Int32) (hI : Inv σ) (hR : Rm σ th w) : Met l yX5_holds (ws_ yX5_holds cX5_holds 2 (some .boolean)) (rmD 12 0 0) (va_Pc [.ref (w.1 20 0), .int ix] (fI Γ w)) (va_Qi (fun r w1 => r = b2i (a_holds σ ix) ∧ Rm σ 0 w1 ∧ frm w w1) (fI Γ) (fA Γ)) 0 0 (fA Γ) := by
  refine fw_met (by decide) (Nat.le_of_ble_eq_true rfl) ?_
  intro p e s m below meth c ls C hP hS hr hlk hin hl
  have C : fC p s m [.ref (w.1 20 0), .int ix].toArray c cX5_holds 2 RX5 Γ := C
  have hx := C.1.1
  have hb := C.1.2.1
  have hl : lv_has ls 2 [(0, .ref (w.1 20 0)), (1, .int ix)] := hl
  obtain ⟨⟨hnp, hnr, hnt, hns, hnw, hck0, hck1⟩, hIr, hIt, hIb, hIn, hIs, hIg, hIw, hIa⟩ := id hI
  obtain ⟨z0, n20, nA, nT, nS, nO, nH⟩ := id hR
  refine lv_aload_n hx hb dX5_holds_0 rfl (lv_at hl 0 rfl) ?_
  refine lv_iconst (v := 0) hx hb dX5_holds_1 (by decide) ?_
  refine pf_X5_84 C hP hS rfl rfl n20 rfl (Nat.le_of_ble_eq_true rfl) dX5_holds_2 (fun H locs hP hS => ?_)
  have hP : fP Γ (fset w 20 0 (oO 5 [.int (nI (s_np σ)), .int (nI (s_nr σ)), .ref (w.1 32 0), .ref (w.1 33 0), .ref (w.1 34 0), .ref (w.1 35 0), .int (nI (s_nt σ)), .ref (w.1 37 0), .ref (w.1 38 0), .ref (w.1 39 0), .ref (w.1 40 0), .ref (w.1 41 0), .ref (w.1 42 0), .ref (w.1 43 0), .ref (w.1 44 0), .int (nI (s_ns σ)), .ref (w.1 46 0), .ref (w.1 47 0), .ref (w.1 48 0), .ref (w.1 49 0), .ref (w.1 50 0), .int (nI (s_nw σ)), .ref (w.1 52 0), .ref (w.1 53 0), .long (s_ck σ), .int 0, .int (b2i z0), .ref (w.1 57 0), .ref (w.1 58 0), .ref (w.1 59 0), .ref (w.1 60 0), .ref (w.1 61 0)])) H := hP
  obtain ⟨u0, hu0⟩ : ∃ u, u = ((fset w 20 0 (oO 5 [.int (nI (s_np σ)), .int (nI (s_nr σ)), .ref (w.1 32 0), .ref (w.1 33 0), .ref (w.1 34 0), .ref (w.1 35 0), .int (nI (s_nt σ)), .ref (w.1 37 0), .ref (w.1 38 0), .ref (w.1 39 0), .ref (w.1 40 0), .ref (w.1 41 0), .ref (w.1 42 0), .ref (w.1 43 0), .ref (w.1 44 0), .int (nI (s_ns σ)), .ref (w.1 46 0), .ref (w.1 47 0), .ref (w.1 48 0), .ref (w.1 49 0), .ref (w.1 50 0), .int (nI (s_nw σ)), .ref (w.1 52 0), .ref (w.1 53 0), .long (s_ck σ), .int 0, .int (b2i z0), .ref (w.1 57 0), .ref (w.1 58 0), .ref (w.1 59 0), .ref (w.1 60 0), .ref (w.1 61 0)]))).2 := ⟨_, rfl⟩
  have hw0 : (fset w 20 0 (oO 5 [.int (nI (s_np σ)), .int (nI (s_nr σ)), .ref (w.1 32 0), .ref (w.1 33 0), .ref (w.1 34 0), .ref (w.1 35 0), .int (nI (s_nt σ)), .ref (w.1 37 0), .ref (w.1 38 0), .ref (w.1 39 0), .ref (w.1 40 0), .ref (w.1 41 0), .ref (w.1 42 0), .ref (w.1 43 0), .ref (w.1 44 0), .int (nI (s_ns σ)), .ref (w.1 46 0), .ref (w.1 47 0), .ref (w.1 48 0), .ref (w.1 49 0), .ref (w.1 50 0), .int (nI (s_nw σ)), .ref (w.1 52 0), .ref (w.1 53 0), .long (s_ck σ), .int 0, .int (b2i z0), .ref (w.1 57 0), .ref (w.1 58 0), .ref (w.1 59 0), .ref (w.1 60 0), .ref (w.1 61 0)])) = (w.1, u0) := by rw [hu0]; rfl
  rw [hw0] at hP
  have hR0 : Rm σ 0 (w.1, u0) := by rw [← hw0]; exact Rm_th0 nA nT nS nO nH
  have hf0 : frm w (w.1, u0) := by rw [← hw0]; exact frm_set (by decide)
  clear hw0 hu0 n20 nA nT nS nO nH
  obtain ⟨z, m20, mA, mT, mS, mO, mH⟩ := id hR0
  obtain ⟨⟨f32, g32, v32⟩, ⟨f33, g33, v33⟩, ⟨f34, g34, v34⟩, ⟨f35, g35, v35⟩⟩ := id mA
  obtain ⟨⟨f37, g37, v37⟩, ⟨f38, g38, v38⟩, ⟨f39, g39, v39⟩, ⟨f40, g40, v40⟩, ⟨f41, g41, v41⟩, ⟨f42, g42, v42⟩, ⟨f43, g43, v43⟩, ⟨f44, g44, v44⟩⟩ := id mT
  obtain ⟨⟨f46, g46, v46⟩, ⟨f47, g47, v47⟩, ⟨f48, g48, v48⟩, ⟨f49, g49, v49⟩, ⟨f50, g50, v50⟩, ⟨f52, g52, v52⟩⟩ := id mS
  obtain ⟨f53, g53, v53⟩ := id mO
  obtain ⟨⟨f57, g57, v57⟩, ⟨f58, g58, v58⟩, ⟨f59, g59⟩, ⟨f60, g60⟩, ⟨f61, g61⟩⟩ := id mH
  refine lv_iload_n hx hb dX5_holds_5 rfl (lv_at hl 1 rfl) ?_
  refine lv_if_lt (tgt := 29) hx hb dX5_holds_6 (by decide) (fun c_6 => ?_) (fun c_6 => ?_)
  · refine lv_iconst (v := 0) hx hb dX5_holds_29 (by decide) ?_
    exact fw_reti C hr hlk rfl hP hS (⟨b2i_f (ho_f (fIn_lt c_6)), hR0, hf0⟩) (Nat.le_of_ble_eq_true rfl) (Nat.le_of_ble_eq_true rfl) dX5_holds_30
  · refine lv_iload_n hx hb dX5_holds_9 rfl (lv_at hl 1 rfl) ?_
    refine lv_aload_n hx hb dX5_holds_10 rfl (lv_at hl 0 rfl) ?_
    refine gf_X5_117 C hP m20 rfl rfl dX5_holds_11 ?_
    refine lv_icmp_ge (tgt := 29) hx hb dX5_holds_14 (by decide) (fun c_14 => ?_) (fun c_14 => ?_)
    · refine lv_iconst (v := 0) hx hb dX5_holds_29 (by decide) ?_
      exact fw_reti C hr hlk rfl hP hS (⟨b2i_f (ho_f (fIn_ge (by omega) c_14)), hR0, hf0⟩) (Nat.le_of_ble_eq_true rfl) (Nat.le_of_ble_eq_true rfl) dX5_holds_30
    · have c_in : fIn ix (s_ns σ) = true := fIn_in (by omega) c_6 c_14
      obtain ⟨ii, hii, rfl⟩ := fIn_t c_in (by omega)
      refine lv_aload_n hx hb dX5_holds_17 rfl (lv_at hl 0 rfl) ?_
      refine lv_iload_n hx hb dX5_holds_18 rfl (lv_at hl 1 rfl) ?_
      refine fw_ci0 (w := (w.1, u0)) hS (fw_rV (rest := []) (As := [.int (nI ii)]) C hP hS wV_X5_120 (k_X5_stands l Γ (w.1, u0) σ 0 z ii hI (by omega) m20 ⟨⟨_, g37, v37⟩, ⟨_, g38, v38⟩, ⟨_, g39, v39⟩, ⟨_, g40, v40⟩, ⟨_, g41, v41⟩, ⟨_, g42, v42⟩, ⟨_, g43, v43⟩, ⟨_, g44, v44⟩⟩ ⟨⟨_, g46, v46⟩, ⟨_, g47, v47⟩, ⟨_, g48, v48⟩, ⟨_, g49, v49⟩, ⟨_, g50, v50⟩, ⟨_, g52, v52⟩⟩) m20 rfl rfl (fRm_mk rfl rfl (Nat.le_of_ble_eq_true rfl) (Nat.le_of_ble_eq_true rfl) (Nat.le_of_ble_eq_true rfl) (Nat.le_of_ble_eq_true rfl) (Nat.le_of_ble_eq_true rfl)) rfl hl.1 rfl dX5_holds_19) (fun H locs hP hS => ?_)
      refine fw_ieqB (tgt := 29) hx hb dX5_holds_22 (by decide) (fun c_22 => ?_) (fun c_22 => ?_)
      · refine lv_iconst (v := 0) hx hb dX5_holds_29 (by decide) ?_
        exact fw_reti C hr hlk rfl hP hS (⟨b2i_f (by rw [ho_m c_in (by omega)]; exact c_22), hR0, hf0⟩) (Nat.le_of_ble_eq_true rfl) (Nat.le_of_ble_eq_true rfl) dX5_holds_30
      · refine lv_iconst (v := 1) hx hb dX5_holds_25 (by decide) ?_
        refine lv_goto (tgt := 30) hx hb dX5_holds_26 (by decide) ?_
        exact fw_reti C hr hlk rfl hP hS (⟨b2i_t (by rw [ho_m c_in (by omega)]; exact c_22), hR0, hf0⟩) (Nat.le_of_ble_eq_true rfl) (Nat.le_of_ble_eq_true rfl) dX5_holds_30
set_option maxHeartbeats 8000000 in
set_option maxRecDepth 100000 in
theorem k_X5_withdraw (l : Launch) (Γ : FG) (w : FW) (σ : St) (th : Int32) (ix : Int32) (hI : Inv σ) (hR : Rm σ th w) : Met l yX5_withdraw (ws_ yX5_withdraw cX5_withdraw 2 (some .boolean)) (rmD 12 0 0) (va_Pc [.ref (w.1 20 0), .int ix] (fI Γ w)) (va_Qi (fun r w1 => r = b2i (a_withdraw σ ix) ∧ Rm (n_withdraw σ ix) 0 w1 ∧ frm w w1) (fI Γ) (fA Γ)) 0 0 (fA Γ) := by
  refine fw_met (by decide) (Nat.le_of_ble_eq_true rfl) ?_
  intro p e s m below meth c ls C hP hS hr hlk hin hl
  have C : fC p s m [.ref (w.1 20 0), .int ix].toArray c cX5_withdraw 2 RX5 Γ := C
  have hx := C.1.1
  have hb := C.1.2.1
  have hl : lv_has ls 2 [(0, .ref (w.1 20 0)), (1, .int ix)] := hl
  obtain ⟨⟨hnp, hnr, hnt, hns, hnw, hck0, hck1⟩, hIr, hIt, hIb, hIn, hIs, hIg, hIw, hIa⟩ := id hI
  obtain ⟨z0, n20, nA, nT, nS, nO, nH⟩ := id hR
  refine lv_aload_n hx hb dX5_withdraw_0 rfl (lv_at hl 0 rfl) ?_
  refine lv_iconst (v := 0) hx hb dX5_withdraw_1 (by decide) ?_
  refine pf_X5_84 C hP hS rfl rfl n20 rfl (Nat.le_of_ble_eq_true rfl) dX5_withdraw_2 (fun H locs hP hS => ?_)
  have hP : fP Γ (fset w 20 0 (oO 5 [.int (nI (s_np σ)), .int (nI (s_nr σ)), .ref (w.1 32 0), .ref (w.1 33 0), .ref (w.1 34 0), .ref (w.1 35 0), .int (nI (s_nt σ)), .ref (w.1 37 0), .ref (w.1 38 0), .ref (w.1 39 0), .ref (w.1 40 0), .ref (w.1 41 0), .ref (w.1 42 0), .ref (w.1 43 0), .ref (w.1 44 0), .int (nI (s_ns σ)), .ref (w.1 46 0), .ref (w.1 47 0), .ref (w.1 48 0), .ref (w.1 49 0), .ref (w.1 50 0), .int (nI (s_nw σ)), .ref (w.1 52 0), .ref (w.1 53 0), .long (s_ck σ), .int 0, .int (b2i z0), .ref (w.1 57 0), .ref (w.1 58 0), .ref (w.1 59 0), .ref (w.1 60 0), .ref (w.1 61 0)])) H := hP
  obtain ⟨u0, hu0⟩ : ∃ u, u = ((fset w 20 0 (oO 5 [.int (nI (s_np σ)), .int (nI (s_nr σ)), .ref (w.1 32 0), .ref (w.1 33 0), .ref (w.1 34 0), .ref (w.1 35 0), .int (nI (s_nt σ)), .ref (w.1 37 0), .ref (w.1 38 0), .ref (w.1 39 0), .ref (w.1 40 0), .ref (w.1 41 0), .ref (w.1 42 0), .ref (w.1 43 0), .ref (w.1 44 0), .int (nI (s_ns σ)), .ref (w.1 46 0), .ref (w.1 47 0), .ref (w.1 48 0), .ref (w.1 49 0), .ref (w.1 50 0), .int (nI (s_nw σ)), .ref (w.1 52 0), .ref (w.1 53 0), .long (s_ck σ), .int 0, .int (b2i z0), .ref (w.1 57 0), .ref (w.1 58 0), .ref (w.1 59 0), .ref (w.1 60 0), .ref (w.1 61 0)]))).2 := ⟨_, rfl⟩
  have hw0 : (fset w 20 0 (oO 5 [.int (nI (s_np σ)), .int (nI (s_nr σ)), .ref (w.1 32 0), .ref (w.1 33 0), .ref (w.1 34 0), .ref (w.1 35 0), .int (nI (s_nt σ)), .ref (w.1 37 0), .ref (w.1 38 0), .ref (w.1 39 0), .ref (w.1 40 0), .ref (w.1 41 0), .ref (w.1 42 0), .ref (w.1 43 0), .ref (w.1 44 0), .int (nI (s_ns σ)), .ref (w.1 46 0), .ref (w.1 47 0), .ref (w.1 48 0), .ref (w.1 49 0), .ref (w.1 50 0), .int (nI (s_nw σ)), .ref (w.1 52 0), .ref (w.1 53 0), .long (s_ck σ), .int 0, .int (b2i z0), .ref (w.1 57 0), .ref (w.1 58 0), .ref (w.1 59 0), .ref (w.1 60 0), .ref (w.1 61 0)])) = (w.1, u0) := by rw [hu0]; rfl
  rw [hw0] at hP
  have hR0 : Rm σ 0 (w.1, u0) := by rw [← hw0]; exact Rm_th0 nA nT nS nO nH
  have hf0 : frm w (w.1, u0) := by rw [← hw0]; exact frm_set (by decide)
  clear hw0 hu0 n20 nA nT nS nO nH
  obtain ⟨z, m20, mA, mT, mS, mO, mH⟩ := id hR0
  obtain ⟨⟨f32, g32, v32⟩, ⟨f33, g33, v33⟩, ⟨f34, g34, v34⟩, ⟨f35, g35, v35⟩⟩ := id mA
  obtain ⟨⟨f37, g37, v37⟩, ⟨f38, g38, v38⟩, ⟨f39, g39, v39⟩, ⟨f40, g40, v40⟩, ⟨f41, g41, v41⟩, ⟨f42, g42, v42⟩, ⟨f43, g43, v43⟩, ⟨f44, g44, v44⟩⟩ := id mT
  obtain ⟨⟨f46, g46, v46⟩, ⟨f47, g47, v47⟩, ⟨f48, g48, v48⟩, ⟨f49, g49, v49⟩, ⟨f50, g50, v50⟩, ⟨f52, g52, v52⟩⟩ := id mS
  obtain ⟨f53, g53, v53⟩ := id mO
  obtain ⟨⟨f57, g57, v57⟩, ⟨f58, g58, v58⟩, ⟨f59, g59⟩, ⟨f60, g60⟩, ⟨f61, g61⟩⟩ := id mH
  refine lv_iload_n hx hb dX5_withdraw_5 rfl (lv_at hl 1 rfl) ?_
  refine lv_if_lt (tgt := 26) hx hb dX5_withdraw_6 (by decide) (fun c_6 => ?_) (fun c_6 => ?_)
  · refine lv_iconst (v := 0) hx hb dX5_withdraw_26 (by decide) ?_
    exact fw_reti C hr hlk rfl hP hS (⟨b2i_f (wi_f (Or.inl (fIn_lt c_6))), by rw [wi_n (wi_f (Or.inl (fIn_lt c_6)))]; exact hR0, hf0⟩) (Nat.le_of_ble_eq_true rfl) (Nat.le_of_ble_eq_true rfl) dX5_withdraw_27
  · refine lv_iload_n hx hb dX5_withdraw_9 rfl (lv_at hl 1 rfl) ?_
    refine lv_aload_n hx hb dX5_withdraw_10 rfl (lv_at hl 0 rfl) ?_
    refine gf_X5_117 C hP m20 rfl rfl dX5_withdraw_11 ?_
    refine lv_icmp_ge (tgt := 26) hx hb dX5_withdraw_14 (by decide) (fun c_14 => ?_) (fun c_14 => ?_)
    · refine lv_iconst (v := 0) hx hb dX5_withdraw_26 (by decide) ?_
      exact fw_reti C hr hlk rfl hP hS (⟨b2i_f (wi_f (Or.inl (fIn_ge (by omega) c_14))), by rw [wi_n (wi_f (Or.inl (fIn_ge (by omega) c_14)))]; exact hR0, hf0⟩) (Nat.le_of_ble_eq_true rfl) (Nat.le_of_ble_eq_true rfl) dX5_withdraw_27
    · have c_in : fIn ix (s_ns σ) = true := fIn_in (by omega) c_6 c_14
      obtain ⟨ii, hii, rfl⟩ := fIn_t c_in (by omega)
      refine lv_aload_n hx hb dX5_withdraw_17 rfl (lv_at hl 0 rfl) ?_
      refine gf_X5_59 C hP m20 rfl rfl dX5_withdraw_18 ?_
      refine lv_iload_n hx hb dX5_withdraw_21 rfl (lv_at hl 1 rfl) ?_
      refine fw_zald C hP g50 rfl ii rfl (by omega) (by decide) dX5_withdraw_22 ?_
      refine fw_E (show f50 ii = b2i (s_sg σ ii) from v50 ii (by omega)) ?_
      refine fw_ieqB (tgt := 28) hx hb dX5_withdraw_23 (by decide) (fun c_23 => ?_) (fun c_23 => ?_)
      · refine lv_aload_n hx hb dX5_withdraw_28 rfl (lv_at hl 0 rfl) ?_
        refine gf_X5_59 C hP m20 rfl rfl dX5_withdraw_29 ?_
        refine lv_iload_n hx hb dX5_withdraw_32 rfl (lv_at hl 1 rfl) ?_
        refine lv_iconst (v := 1) hx hb dX5_withdraw_33 (by decide) ?_
        refine fw_zast C hP hS g50 rfl ii rfl (by omega) (by decide) dX5_withdraw_34 (fun H locs hP hS => ?_)
        have hP : fP Γ (fset (w.1, u0) 50 0 (aI 3 400 (upd f50 ii (vp_nar .boolean 1)))) H := hP
        refine lv_aload_n hx hb dX5_withdraw_35 rfl (lv_at hl 0 rfl) ?_
        refine gf_X5_63 C hP ((fset_ne (by decide)).trans m20) rfl rfl dX5_withdraw_36 ?_
        refine lv_aload_n hx hb dX5_withdraw_39 rfl (lv_at hl 0 rfl) ?_
        refine gf_X5_137 C hP ((fset_ne (by decide)).trans m20) rfl rfl dX5_withdraw_40 ?_
        refine lv_iload_n hx hb dX5_withdraw_43 rfl (lv_at hl 1 rfl) ?_
        refine fw_iast C hP hS ((fset_ne (by decide)).trans g52) rfl (s_nw σ) rfl (by have := wi_lt hI hii c_23; omega) (by decide) dX5_withdraw_44 (fun H locs hP hS => ?_)
        have hP : fP Γ (fset (fset (w.1, u0) 50 0 (aI 3 400 (upd f50 ii (vp_nar .boolean 1)))) 52 0 (aI 1 400 (upd f52 (s_nw σ) (nI ii)))) H := hP
        refine lv_aload_n hx hb dX5_withdraw_45 rfl (lv_at hl 0 rfl) ?_
        refine lv_dup hx hb dX5_withdraw_46 rfl ?_
        refine gf_X5_137 C hP ((fset_ne (by decide)).trans ((fset_ne (by decide)).trans m20)) rfl rfl dX5_withdraw_47 ?_
        refine lv_iconst (v := nI 1) hx hb dX5_withdraw_50 (by decide) ?_
        refine fw_addN hx hb dX5_withdraw_51 ?_
        refine pf_X5_137 C hP hS rfl rfl ((fset_ne (by decide)).trans ((fset_ne (by decide)).trans m20)) rfl (Nat.le_of_ble_eq_true rfl) dX5_withdraw_52 (fun H locs hP hS => ?_)
        have hP : fP Γ (fset (fset (fset (w.1, u0) 50 0 (aI 3 400 (upd f50 ii (vp_nar .boolean 1)))) 52 0 (aI 1 400 (upd f52 (s_nw σ) (nI ii)))) 20 0 (oO 5 [.int (nI (s_np σ)), .int (nI (s_nr σ)), .ref (w.1 32 0), .ref (w.1 33 0), .ref (w.1 34 0), .ref (w.1 35 0), .int (nI (s_nt σ)), .ref (w.1 37 0), .ref (w.1 38 0), .ref (w.1 39 0), .ref (w.1 40 0), .ref (w.1 41 0), .ref (w.1 42 0), .ref (w.1 43 0), .ref (w.1 44 0), .int (nI (s_ns σ)), .ref (w.1 46 0), .ref (w.1 47 0), .ref (w.1 48 0), .ref (w.1 49 0), .ref (w.1 50 0), .int (nI (s_nw σ + 1)), .ref (w.1 52 0), .ref (w.1 53 0), .long (s_ck σ), .int 0, .int (b2i z), .ref (w.1 57 0), .ref (w.1 58 0), .ref (w.1 59 0), .ref (w.1 60 0), .ref (w.1 61 0)])) H := hP
        refine lv_iconst (v := 1) hx hb dX5_withdraw_55 (by decide) ?_
        have htt1 := wi_t c_in (by omega) c_23
        exact fw_reti C hr hlk rfl hP hS (⟨b2i_t htt1, by rw [wi_m htt1 (by omega)]; exact ⟨z, fset_at, ⟨⟨_, ((fset_ne (by decide)).trans ((fset_ne (by decide)).trans ((fset_ne (by decide)).trans g32))), v32⟩, ⟨_, ((fset_ne (by decide)).trans ((fset_ne (by decide)).trans ((fset_ne (by decide)).trans g33))), v33⟩, ⟨_, ((fset_ne (by decide)).trans ((fset_ne (by decide)).trans ((fset_ne (by decide)).trans g34))), v34⟩, ⟨_, ((fset_ne (by decide)).trans ((fset_ne (by decide)).trans ((fset_ne (by decide)).trans g35))), v35⟩⟩, ⟨⟨_, ((fset_ne (by decide)).trans ((fset_ne (by decide)).trans ((fset_ne (by decide)).trans g37))), v37⟩, ⟨_, ((fset_ne (by decide)).trans ((fset_ne (by decide)).trans ((fset_ne (by decide)).trans g38))), v38⟩, ⟨_, ((fset_ne (by decide)).trans ((fset_ne (by decide)).trans ((fset_ne (by decide)).trans g39))), v39⟩, ⟨_, ((fset_ne (by decide)).trans ((fset_ne (by decide)).trans ((fset_ne (by decide)).trans g40))), v40⟩, ⟨_, ((fset_ne (by decide)).trans ((fset_ne (by decide)).trans ((fset_ne (by decide)).trans g41))), v41⟩, ⟨_, ((fset_ne (by decide)).trans ((fset_ne (by decide)).trans ((fset_ne (by decide)).trans g42))), v42⟩, ⟨_, ((fset_ne (by decide)).trans ((fset_ne (by decide)).trans ((fset_ne (by decide)).trans g43))), v43⟩, ⟨_, ((fset_ne (by decide)).trans ((fset_ne (by decide)).trans ((fset_ne (by decide)).trans g44))), v44⟩⟩, ⟨⟨_, ((fset_ne (by decide)).trans ((fset_ne (by decide)).trans ((fset_ne (by decide)).trans g46))), v46⟩, ⟨_, ((fset_ne (by decide)).trans ((fset_ne (by decide)).trans ((fset_ne (by decide)).trans g47))), v47⟩, ⟨_, ((fset_ne (by decide)).trans ((fset_ne (by decide)).trans ((fset_ne (by decide)).trans g48))), v48⟩, ⟨_, ((fset_ne (by decide)).trans ((fset_ne (by decide)).trans ((fset_ne (by decide)).trans g49))), v49⟩, ⟨_, ((fset_ne (by decide)).trans ((fset_ne (by decide)).trans fset_at)), up_Z v50⟩, ⟨_, ((fset_ne (by decide)).trans fset_at), up_N v52⟩⟩, ⟨_, ((fset_ne (by decide)).trans ((fset_ne (by decide)).trans ((fset_ne (by decide)).trans g53))), v53⟩, ⟨⟨_, ((fset_ne (by decide)).trans ((fset_ne (by decide)).trans ((fset_ne (by decide)).trans g57))), v57⟩, ⟨_, ((fset_ne (by decide)).trans ((fset_ne (by decide)).trans ((fset_ne (by decide)).trans g58))), v58⟩, ⟨_, ((fset_ne (by decide)).trans ((fset_ne (by decide)).trans ((fset_ne (by decide)).trans g59)))⟩, ⟨_, ((fset_ne (by decide)).trans ((fset_ne (by decide)).trans ((fset_ne (by decide)).trans g60)))⟩, ⟨_, ((fset_ne (by decide)).trans ((fset_ne (by decide)).trans ((fset_ne (by decide)).trans g61)))⟩⟩⟩, (frm_tr (frm_tr (frm_tr hf0 (frm_set (by decide))) (frm_set (by decide))) (frm_set (by decide)))⟩) (Nat.le_of_ble_eq_true rfl) (Nat.le_of_ble_eq_true rfl) dX5_withdraw_56
      · refine lv_iconst (v := 0) hx hb dX5_withdraw_26 (by decide) ?_
        exact fw_reti C hr hlk rfl hP hS (⟨b2i_f (wi_f (Or.inr (by rw [n_of_nI (by omega)]; exact c_23))), by rw [wi_n (wi_f (Or.inr (by rw [n_of_nI (by omega)]; exact c_23)))]; exact hR0, hf0⟩) (Nat.le_of_ble_eq_true rfl) (Nat.le_of_ble_eq_true rfl) dX5_withdraw_27
set_option maxHeartbeats 8000000 in
set_option maxRecDepth 100000 in
theorem k_X5_order (l : Launch) (Γ : FG) (w : FW) (σ : St) (th : Int32) (mx ax : Int32) (hI : Inv σ) (hR : Rm σ th w) : Met l yX5_order (ws_ yX5_order cX5_order 3 (some .boolean)) (rmD 12 0 0) (va_Pc [.ref (w.1 20 0), .int mx, .int ax] (fI Γ w)) (va_Qi (fun r w1 => r = b2i (a_order σ mx ax) ∧ Rm (n_order σ mx ax) 0 w1 ∧ frm w w1) (fI Γ) (fA Γ)) 0 0 (fA Γ) := by
  refine fw_met (by decide) (Nat.le_of_ble_eq_true rfl) ?_
  intro p e s m below meth c ls C hP hS hr hlk hin hl
  have C : fC p s m [.ref (w.1 20 0), .int mx, .int ax].toArray c cX5_order 3 RX5 Γ := C
  have hx := C.1.1
  have hb := C.1.2.1
  have hl : lv_has ls 3 [(0, .ref (w.1 20 0)), (1, .int mx), (2, .int ax)] := hl
  obtain ⟨⟨hnp, hnr, hnt, hns, hnw, hck0, hck1⟩, hIr, hIt, hIb, hIn, hIs, hIg, hIw, hIa⟩ := id hI
  obtain ⟨z0, n20, nA, nT, nS, nO, nH⟩ := id hR
  refine lv_aload_n hx hb dX5_order_0 rfl (lv_at hl 0 rfl) ?_
  refine lv_iconst (v := 0) hx hb dX5_order_1 (by decide) ?_
  refine pf_X5_84 C hP hS rfl rfl n20 rfl (Nat.le_of_ble_eq_true rfl) dX5_order_2 (fun H locs hP hS => ?_)
  have hP : fP Γ (fset w 20 0 (oO 5 [.int (nI (s_np σ)), .int (nI (s_nr σ)), .ref (w.1 32 0), .ref (w.1 33 0), .ref (w.1 34 0), .ref (w.1 35 0), .int (nI (s_nt σ)), .ref (w.1 37 0), .ref (w.1 38 0), .ref (w.1 39 0), .ref (w.1 40 0), .ref (w.1 41 0), .ref (w.1 42 0), .ref (w.1 43 0), .ref (w.1 44 0), .int (nI (s_ns σ)), .ref (w.1 46 0), .ref (w.1 47 0), .ref (w.1 48 0), .ref (w.1 49 0), .ref (w.1 50 0), .int (nI (s_nw σ)), .ref (w.1 52 0), .ref (w.1 53 0), .long (s_ck σ), .int 0, .int (b2i z0), .ref (w.1 57 0), .ref (w.1 58 0), .ref (w.1 59 0), .ref (w.1 60 0), .ref (w.1 61 0)])) H := hP
  obtain ⟨u0, hu0⟩ : ∃ u, u = ((fset w 20 0 (oO 5 [.int (nI (s_np σ)), .int (nI (s_nr σ)), .ref (w.1 32 0), .ref (w.1 33 0), .ref (w.1 34 0), .ref (w.1 35 0), .int (nI (s_nt σ)), .ref (w.1 37 0), .ref (w.1 38 0), .ref (w.1 39 0), .ref (w.1 40 0), .ref (w.1 41 0), .ref (w.1 42 0), .ref (w.1 43 0), .ref (w.1 44 0), .int (nI (s_ns σ)), .ref (w.1 46 0), .ref (w.1 47 0), .ref (w.1 48 0), .ref (w.1 49 0), .ref (w.1 50 0), .int (nI (s_nw σ)), .ref (w.1 52 0), .ref (w.1 53 0), .long (s_ck σ), .int 0, .int (b2i z0), .ref (w.1 57 0), .ref (w.1 58 0), .ref (w.1 59 0), .ref (w.1 60 0), .ref (w.1 61 0)]))).2 := ⟨_, rfl⟩
  have hw0 : (fset w 20 0 (oO 5 [.int (nI (s_np σ)), .int (nI (s_nr σ)), .ref (w.1 32 0), .ref (w.1 33 0), .ref (w.1 34 0), .ref (w.1 35 0), .int (nI (s_nt σ)), .ref (w.1 37 0), .ref (w.1 38 0), .ref (w.1 39 0), .ref (w.1 40 0), .ref (w.1 41 0), .ref (w.1 42 0), .ref (w.1 43 0), .ref (w.1 44 0), .int (nI (s_ns σ)), .ref (w.1 46 0), .ref (w.1 47 0), .ref (w.1 48 0), .ref (w.1 49 0), .ref (w.1 50 0), .int (nI (s_nw σ)), .ref (w.1 52 0), .ref (w.1 53 0), .long (s_ck σ), .int 0, .int (b2i z0), .ref (w.1 57 0), .ref (w.1 58 0), .ref (w.1 59 0), .ref (w.1 60 0), .ref (w.1 61 0)])) = (w.1, u0) := by rw [hu0]; rfl
  rw [hw0] at hP
  have hR0 : Rm σ 0 (w.1, u0) := by rw [← hw0]; exact Rm_th0 nA nT nS nO nH
  have hf0 : frm w (w.1, u0) := by rw [← hw0]; exact frm_set (by decide)
  clear hw0 hu0 n20 nA nT nS nO nH
  obtain ⟨z, m20, mA, mT, mS, mO, mH⟩ := id hR0
  obtain ⟨⟨f32, g32, v32⟩, ⟨f33, g33, v33⟩, ⟨f34, g34, v34⟩, ⟨f35, g35, v35⟩⟩ := id mA
  obtain ⟨⟨f37, g37, v37⟩, ⟨f38, g38, v38⟩, ⟨f39, g39, v39⟩, ⟨f40, g40, v40⟩, ⟨f41, g41, v41⟩, ⟨f42, g42, v42⟩, ⟨f43, g43, v43⟩, ⟨f44, g44, v44⟩⟩ := id mT
  obtain ⟨⟨f46, g46, v46⟩, ⟨f47, g47, v47⟩, ⟨f48, g48, v48⟩, ⟨f49, g49, v49⟩, ⟨f50, g50, v50⟩, ⟨f52, g52, v52⟩⟩ := id mS
  obtain ⟨f53, g53, v53⟩ := id mO
  obtain ⟨⟨f57, g57, v57⟩, ⟨f58, g58, v58⟩, ⟨f59, g59⟩, ⟨f60, g60⟩, ⟨f61, g61⟩⟩ := id mH
  refine lv_iload_n hx hb dX5_order_5 rfl (lv_at hl 1 rfl) ?_
  refine fw_ci0 (w := (w.1, u0)) hS (fw_rS (rest := []) (As := [.int mx]) C hP hS wS_X5_100 (k_X5_isTen l Γ (w.1, u0) mx) (fRm_mk rfl rfl (Nat.le_of_ble_eq_true rfl) (Nat.le_of_ble_eq_true rfl) (Nat.le_of_ble_eq_true rfl) (Nat.le_of_ble_eq_true rfl) (Nat.le_of_ble_eq_true rfl)) rfl hl.1 rfl dX5_order_6) (fun H locs hP hS => ?_)
  refine fw_ieqB (tgt := 49) hx hb dX5_order_9 (by decide) (fun c_9 => ?_) (fun c_9 => ?_)
  · refine lv_iconst (v := 0) hx hb dX5_order_49 (by decide) ?_
    exact fw_reti C hr hlk rfl hP hS (⟨b2i_f (or_f (Or.inl c_9)), by rw [or_n (or_f (Or.inl c_9))]; exact hR0, hf0⟩) (Nat.le_of_ble_eq_true rfl) (Nat.le_of_ble_eq_true rfl) dX5_order_50
  · obtain ⟨mm, hmm, rfl⟩ := fIn_t c_9 (by omega)
    refine lv_iload_n hx hb dX5_order_12 rfl (lv_at hl 2 rfl) ?_
    refine fw_ci0 (w := (w.1, u0)) hS (fw_rS (rest := []) (As := [.int ax]) C hP hS wS_X5_100 (k_X5_isTen l Γ (w.1, u0) ax) (fRm_mk rfl rfl (Nat.le_of_ble_eq_true rfl) (Nat.le_of_ble_eq_true rfl) (Nat.le_of_ble_eq_true rfl) (Nat.le_of_ble_eq_true rfl) (Nat.le_of_ble_eq_true rfl)) rfl hl.1 rfl dX5_order_13) (fun H locs hP hS => ?_)
    refine fw_ieqB (tgt := 49) hx hb dX5_order_16 (by decide) (fun c_16 => ?_) (fun c_16 => ?_)
    · refine lv_iconst (v := 0) hx hb dX5_order_49 (by decide) ?_
      exact fw_reti C hr hlk rfl hP hS (⟨b2i_f (or_f (Or.inr (Or.inl c_16))), by rw [or_n (or_f (Or.inr (Or.inl c_16)))]; exact hR0, hf0⟩) (Nat.le_of_ble_eq_true rfl) (Nat.le_of_ble_eq_true rfl) dX5_order_50
    · obtain ⟨aa, haa, rfl⟩ := fIn_t c_16 (by omega)
      refine lv_iload_n hx hb dX5_order_19 rfl (lv_at hl 1 rfl) ?_
      refine lv_iload_n hx hb dX5_order_20 rfl (lv_at hl 2 rfl) ?_
      refine fw_eqN (tgt := 49) hx hb (by omega) (by omega) dX5_order_21 (by decide) (fun c_21 => ?_) (fun c_21 => ?_)
      · refine lv_iconst (v := 0) hx hb dX5_order_49 (by decide) ?_
        exact fw_reti C hr hlk rfl hP hS (⟨b2i_f (or_f (Or.inr (Or.inr (Or.inl (by rw [c_21]))))), by rw [or_n (or_f (Or.inr (Or.inr (Or.inl (by rw [c_21])))))]; exact hR0, hf0⟩) (Nat.le_of_ble_eq_true rfl) (Nat.le_of_ble_eq_true rfl) dX5_order_50
      · refine lv_aload_n hx hb dX5_order_24 rfl (lv_at hl 0 rfl) ?_
        refine gf_X5_66 C hP m20 rfl rfl dX5_order_25 ?_
        refine lv_bipush (v := nI 10) hx hb dX5_order_28 (by decide) ?_
        refine lv_iload_n hx hb dX5_order_30 rfl (lv_at hl 1 rfl) ?_
        refine fw_mulN hx hb dX5_order_31 ?_
        refine lv_iload_n hx hb dX5_order_32 rfl (lv_at hl 2 rfl) ?_
        refine fw_addN hx hb dX5_order_33 ?_
        refine fw_zald C hP g53 rfl (10 * mm + aa) rfl (by omega) (by decide) dX5_order_34 ?_
        refine fw_E (show f53 (10 * mm + aa) = b2i (s_bh σ mm aa) from v53 mm (by omega) aa (by omega)) ?_
        refine fw_ineB (tgt := 49) hx hb dX5_order_35 (by decide) (fun c_35 => ?_) (fun c_35 => ?_)
        · refine lv_iconst (v := 0) hx hb dX5_order_49 (by decide) ?_
          exact fw_reti C hr hlk rfl hP hS (⟨b2i_f (or_f (Or.inr (Or.inr (Or.inr (Or.inl (by rw [n_of_nI (by omega), n_of_nI (by omega)]; exact c_35)))))), by rw [or_n (or_f (Or.inr (Or.inr (Or.inr (Or.inl (by rw [n_of_nI (by omega), n_of_nI (by omega)]; exact c_35))))))]; exact hR0, hf0⟩) (Nat.le_of_ble_eq_true rfl) (Nat.le_of_ble_eq_true rfl) dX5_order_50
        · refine lv_aload_n hx hb dX5_order_38 rfl (lv_at hl 0 rfl) ?_
          refine lv_iload_n hx hb dX5_order_39 rfl (lv_at hl 2 rfl) ?_
          refine lv_iload_n hx hb dX5_order_40 rfl (lv_at hl 1 rfl) ?_
          refine lv_bipush (v := nI 10) hx hb dX5_order_41 (by decide) ?_
          refine fw_ci0 (w := (w.1, u0)) hS (fw_rV (rest := []) (As := [.int (nI aa), .int (nI mm), .int (nI 10)]) C hP hS wV_X5_140 (k_X5_comes l Γ (w.1, u0) σ 0 z m20 ⟨_, g53, v53⟩ 10 (by decide) aa mm (by omega) (by omega)) m20 rfl rfl (fRm_mk rfl rfl (Nat.le_of_ble_eq_true rfl) (Nat.le_of_ble_eq_true rfl) (Nat.le_of_ble_eq_true rfl) (Nat.le_of_ble_eq_true rfl) (Nat.le_of_ble_eq_true rfl)) rfl hl.1 rfl dX5_order_43) (fun H locs hP hS => ?_)
          refine fw_ieqB (tgt := 51) hx hb dX5_order_46 (by decide) (fun c_46 => ?_) (fun c_46 => ?_)
          · refine lv_aload_n hx hb dX5_order_51 rfl (lv_at hl 0 rfl) ?_
            refine gf_X5_66 C hP m20 rfl rfl dX5_order_52 ?_
            refine lv_bipush (v := nI 10) hx hb dX5_order_55 (by decide) ?_
            refine lv_iload_n hx hb dX5_order_57 rfl (lv_at hl 1 rfl) ?_
            refine fw_mulN hx hb dX5_order_58 ?_
            refine lv_iload_n hx hb dX5_order_59 rfl (lv_at hl 2 rfl) ?_
            refine fw_addN hx hb dX5_order_60 ?_
            refine lv_iconst (v := 1) hx hb dX5_order_61 (by decide) ?_
            refine fw_zast C hP hS g53 rfl (10 * mm + aa) rfl (by omega) (by decide) dX5_order_62 (fun H locs hP hS => ?_)
            have hP : fP Γ (fset (w.1, u0) 53 0 (aI 3 100 (upd f53 (10 * mm + aa) (vp_nar .boolean 1)))) H := hP
            refine lv_iconst (v := 1) hx hb dX5_order_63 (by decide) ?_
            have htt1 := or_t c_9 c_16 hmm haa c_21 c_35 c_46
            exact fw_reti C hr hlk rfl hP hS (⟨b2i_t htt1, by rw [or_m htt1 (by omega) (by omega)]; exact ⟨z, ((fset_ne (by decide)).trans m20), ⟨⟨_, ((fset_ne (by decide)).trans g32), v32⟩, ⟨_, ((fset_ne (by decide)).trans g33), v33⟩, ⟨_, ((fset_ne (by decide)).trans g34), v34⟩, ⟨_, ((fset_ne (by decide)).trans g35), v35⟩⟩, ⟨⟨_, ((fset_ne (by decide)).trans g37), v37⟩, ⟨_, ((fset_ne (by decide)).trans g38), v38⟩, ⟨_, ((fset_ne (by decide)).trans g39), v39⟩, ⟨_, ((fset_ne (by decide)).trans g40), v40⟩, ⟨_, ((fset_ne (by decide)).trans g41), v41⟩, ⟨_, ((fset_ne (by decide)).trans g42), v42⟩, ⟨_, ((fset_ne (by decide)).trans g43), v43⟩, ⟨_, ((fset_ne (by decide)).trans g44), v44⟩⟩, ⟨⟨_, ((fset_ne (by decide)).trans g46), v46⟩, ⟨_, ((fset_ne (by decide)).trans g47), v47⟩, ⟨_, ((fset_ne (by decide)).trans g48), v48⟩, ⟨_, ((fset_ne (by decide)).trans g49), v49⟩, ⟨_, ((fset_ne (by decide)).trans g50), v50⟩, ⟨_, ((fset_ne (by decide)).trans g52), v52⟩⟩, ⟨_, fset_at, up_O hmm haa v53⟩, ⟨⟨_, ((fset_ne (by decide)).trans g57), v57⟩, ⟨_, ((fset_ne (by decide)).trans g58), v58⟩, ⟨_, ((fset_ne (by decide)).trans g59)⟩, ⟨_, ((fset_ne (by decide)).trans g60)⟩, ⟨_, ((fset_ne (by decide)).trans g61)⟩⟩⟩, (frm_tr hf0 (frm_set (by decide)))⟩) (Nat.le_of_ble_eq_true rfl) (Nat.le_of_ble_eq_true rfl) dX5_order_64
          · refine lv_iconst (v := 0) hx hb dX5_order_49 (by decide) ?_
            exact fw_reti C hr hlk rfl hP hS (⟨b2i_f (or_f (Or.inr (Or.inr (Or.inr (Or.inr (by rw [n_of_nI (by omega), n_of_nI (by omega)]; exact c_46)))))), by rw [or_n (or_f (Or.inr (Or.inr (Or.inr (Or.inr (by rw [n_of_nI (by omega), n_of_nI (by omega)]; exact c_46))))))]; exact hR0, hf0⟩) (Nat.le_of_ble_eq_true rfl) (Nat.le_of_ble_eq_true rfl) dX5_order_50
set_option maxHeartbeats 8000000 in
set_option maxRecDepth 100000 in
theorem k_X5_complete (l : Launch) (Γ : FG) (w : FW) (σ : St) (th : Int32) (tx : Int32) (hI : Inv σ) (hR : Rm σ th w) : Met l yX5_complete (ws_ yX5_complete cX5_complete 3 (some .int)) (rmD 12 0 0) (va_Pc [.ref (w.1 20 0), .int tx] (fI Γ w)) (va_Qi (fun r w1 => r = a_complete σ tx ∧ Rm σ 0 w1 ∧ frm w w1) (fI Γ) (fA Γ)) 0 0 (fA Γ) := by
  refine fw_met (by decide) (Nat.le_of_ble_eq_true rfl) ?_
  intro p e s m below meth c ls C hP hS hr hlk hin hl
  have C : fC p s m [.ref (w.1 20 0), .int tx].toArray c cX5_complete 3 RX5 Γ := C
  have hx := C.1.1
  have hb := C.1.2.1
  have hl : lv_has ls 3 [(0, .ref (w.1 20 0)), (1, .int tx)] := hl
  obtain ⟨⟨hnp, hnr, hnt, hns, hnw, hck0, hck1⟩, hIr, hIt, hIb, hIn, hIs, hIg, hIw, hIa⟩ := id hI
  obtain ⟨z0, n20, nA, nT, nS, nO, nH⟩ := id hR
  refine lv_aload_n hx hb dX5_complete_0 rfl (lv_at hl 0 rfl) ?_
  refine lv_iconst (v := 0) hx hb dX5_complete_1 (by decide) ?_
  refine pf_X5_84 C hP hS rfl rfl n20 rfl (Nat.le_of_ble_eq_true rfl) dX5_complete_2 (fun H locs hP hS => ?_)
  have hP : fP Γ (fset w 20 0 (oO 5 [.int (nI (s_np σ)), .int (nI (s_nr σ)), .ref (w.1 32 0), .ref (w.1 33 0), .ref (w.1 34 0), .ref (w.1 35 0), .int (nI (s_nt σ)), .ref (w.1 37 0), .ref (w.1 38 0), .ref (w.1 39 0), .ref (w.1 40 0), .ref (w.1 41 0), .ref (w.1 42 0), .ref (w.1 43 0), .ref (w.1 44 0), .int (nI (s_ns σ)), .ref (w.1 46 0), .ref (w.1 47 0), .ref (w.1 48 0), .ref (w.1 49 0), .ref (w.1 50 0), .int (nI (s_nw σ)), .ref (w.1 52 0), .ref (w.1 53 0), .long (s_ck σ), .int 0, .int (b2i z0), .ref (w.1 57 0), .ref (w.1 58 0), .ref (w.1 59 0), .ref (w.1 60 0), .ref (w.1 61 0)])) H := hP
  obtain ⟨u0, hu0⟩ : ∃ u, u = ((fset w 20 0 (oO 5 [.int (nI (s_np σ)), .int (nI (s_nr σ)), .ref (w.1 32 0), .ref (w.1 33 0), .ref (w.1 34 0), .ref (w.1 35 0), .int (nI (s_nt σ)), .ref (w.1 37 0), .ref (w.1 38 0), .ref (w.1 39 0), .ref (w.1 40 0), .ref (w.1 41 0), .ref (w.1 42 0), .ref (w.1 43 0), .ref (w.1 44 0), .int (nI (s_ns σ)), .ref (w.1 46 0), .ref (w.1 47 0), .ref (w.1 48 0), .ref (w.1 49 0), .ref (w.1 50 0), .int (nI (s_nw σ)), .ref (w.1 52 0), .ref (w.1 53 0), .long (s_ck σ), .int 0, .int (b2i z0), .ref (w.1 57 0), .ref (w.1 58 0), .ref (w.1 59 0), .ref (w.1 60 0), .ref (w.1 61 0)]))).2 := ⟨_, rfl⟩
  have hw0 : (fset w 20 0 (oO 5 [.int (nI (s_np σ)), .int (nI (s_nr σ)), .ref (w.1 32 0), .ref (w.1 33 0), .ref (w.1 34 0), .ref (w.1 35 0), .int (nI (s_nt σ)), .ref (w.1 37 0), .ref (w.1 38 0), .ref (w.1 39 0), .ref (w.1 40 0), .ref (w.1 41 0), .ref (w.1 42 0), .ref (w.1 43 0), .ref (w.1 44 0), .int (nI (s_ns σ)), .ref (w.1 46 0), .ref (w.1 47 0), .ref (w.1 48 0), .ref (w.1 49 0), .ref (w.1 50 0), .int (nI (s_nw σ)), .ref (w.1 52 0), .ref (w.1 53 0), .long (s_ck σ), .int 0, .int (b2i z0), .ref (w.1 57 0), .ref (w.1 58 0), .ref (w.1 59 0), .ref (w.1 60 0), .ref (w.1 61 0)])) = (w.1, u0) := by rw [hu0]; rfl
  rw [hw0] at hP
  have hR0 : Rm σ 0 (w.1, u0) := by rw [← hw0]; exact Rm_th0 nA nT nS nO nH
  have hf0 : frm w (w.1, u0) := by rw [← hw0]; exact frm_set (by decide)
  clear hw0 hu0 n20 nA nT nS nO nH
  obtain ⟨z, m20, mA, mT, mS, mO, mH⟩ := id hR0
  obtain ⟨⟨f32, g32, v32⟩, ⟨f33, g33, v33⟩, ⟨f34, g34, v34⟩, ⟨f35, g35, v35⟩⟩ := id mA
  obtain ⟨⟨f37, g37, v37⟩, ⟨f38, g38, v38⟩, ⟨f39, g39, v39⟩, ⟨f40, g40, v40⟩, ⟨f41, g41, v41⟩, ⟨f42, g42, v42⟩, ⟨f43, g43, v43⟩, ⟨f44, g44, v44⟩⟩ := id mT
  obtain ⟨⟨f46, g46, v46⟩, ⟨f47, g47, v47⟩, ⟨f48, g48, v48⟩, ⟨f49, g49, v49⟩, ⟨f50, g50, v50⟩, ⟨f52, g52, v52⟩⟩ := id mS
  obtain ⟨f53, g53, v53⟩ := id mO
  obtain ⟨⟨f57, g57, v57⟩, ⟨f58, g58, v58⟩, ⟨f59, g59⟩, ⟨f60, g60⟩, ⟨f61, g61⟩⟩ := id mH
  refine lv_aload_n hx hb dX5_complete_5 rfl (lv_at hl 0 rfl) ?_
  refine lv_iload_n hx hb dX5_complete_6 rfl (lv_at hl 1 rfl) ?_
  refine fw_ci0 (w := (w.1, u0)) hS (fw_rV (rest := []) (As := [.int tx]) C hP hS wV_X5_114 (k_X5_isThing l Γ (w.1, u0) σ 0 z tx hnt m20) m20 rfl rfl (fRm_mk rfl rfl (Nat.le_of_ble_eq_true rfl) (Nat.le_of_ble_eq_true rfl) (Nat.le_of_ble_eq_true rfl) (Nat.le_of_ble_eq_true rfl) (Nat.le_of_ble_eq_true rfl)) rfl hl.1 rfl dX5_complete_7) (fun H locs hP hS => ?_)
  refine fw_ineB (tgt := 15) hx hb dX5_complete_10 (by decide) (fun c_10 => ?_) (fun c_10 => ?_)
  · obtain ⟨tt, htt, rfl⟩ := fIn_t c_10 (by omega)
    obtain ⟨hln, hcn, hdn, hmk, -⟩ := hIt tt
    refine lv_iconst (v := nI 0) hx hb dX5_complete_15 (by decide) ?_
    refine lv_istore_n (lv' := [(2, .int (nI 0)), (0, .ref (w.1 20 0)), (1, .int (nI tt))]) hx hb dX5_complete_16 rfl hl (by decide) rfl (fun ls hl => ?_)
    refine W.widen (k := 0) (n := 0) (Nat.le_of_ble_eq_true rfl) (Nat.le_of_ble_eq_true rfl) ?_
    have loop : ∀ (fu : Nat) (i : Nat) (H : Heap) (locs : List Loc) (ls : Array Slot), 11 - i < fu → (i ≤ s_dn σ tt) → (s_cp σ tt (s_dn σ tt) 0 = s_cp σ tt (s_dn σ tt - i) i) → fP Γ (w.1, u0) H → va_S (fA Γ) s.heap H locs → lv_has ls 3 [(2, .int (nI i)), (0, .ref (w.1 20 0)), (1, .int (nI tt))] → W p l e (rmD 12 0 0) s m [.ref (w.1 20 0), .int (nI tt)].toArray below meth c H locs 0 0 (MQ below (va_Qi (fun r w1 => r = a_complete σ (nI tt) ∧ Rm σ 0 w1 ∧ frm w w1) (fI Γ) (fA Γ)) [.ref (w.1 20 0), .int (nI tt)].toArray s 0 0 (fA Γ)) (F0 m 17 ls []) := by
      intro fu
      induction fu with
      | zero =>
        intro i H locs ls hf
        exact absurd hf (Nat.not_lt_zero _)
      | succ fu ih =>
        intro i H locs ls hf hi hz hP hS hl
        have hnd9 := (hIb tt i).2.2
        refine lv_iload_n hx hb dX5_complete_17 rfl (lv_at hl 0 rfl) ?_
        refine lv_aload_n hx hb dX5_complete_18 rfl (lv_at hl 1 rfl) ?_
        refine gf_X5_41 C hP m20 rfl rfl dX5_complete_19 ?_
        refine lv_iload_n hx hb dX5_complete_22 rfl (lv_at hl 2 rfl) ?_
        refine fw_iald C hP g43 rfl tt rfl (by omega) (by decide) dX5_complete_23 ?_
        refine fw_E (show f43 tt = nI (s_dn σ tt) from v43 tt (by omega)) ?_
        refine fw_geN (tgt := 57) hx hb (by omega) (by omega) dX5_complete_24 (by decide) (fun c_24 => ?_) (fun c_24 => ?_)
        · refine lv_iconst (v := nI 0) hx hb dX5_complete_57 (by decide) ?_
          exact fw_reti C hr hlk rfl hP hS (⟨by rw [cp_t c_10 (by omega), hz, (by omega : s_dn σ tt - i = 0)]; rfl, hR0, hf0⟩) (Nat.le_of_ble_eq_true rfl) (Nat.le_of_ble_eq_true rfl) dX5_complete_58
        · refine lv_aload_n hx hb dX5_complete_27 rfl (lv_at hl 1 rfl) ?_
          refine lv_iload_n hx hb dX5_complete_28 rfl (lv_at hl 2 rfl) ?_
          refine lv_aload_n hx hb dX5_complete_29 rfl (lv_at hl 1 rfl) ?_
          refine gf_X5_44 C hP m20 rfl rfl dX5_complete_30 ?_
          refine lv_bipush (v := nI 10) hx hb dX5_complete_33 (by decide) ?_
          refine lv_iload_n hx hb dX5_complete_35 rfl (lv_at hl 2 rfl) ?_
          refine fw_mulN hx hb dX5_complete_36 ?_
          refine lv_iload_n hx hb dX5_complete_37 rfl (lv_at hl 0 rfl) ?_
          refine fw_addN hx hb dX5_complete_38 ?_
          refine fw_iald C hP g44 rfl (10 * tt + i) rfl (by omega) (by decide) dX5_complete_39 ?_
          refine fw_E (show f44 (10 * tt + i) = nI (s_nd σ tt i) from v44 tt (by omega) i (by omega)) ?_
          refine lv_iconst (v := (-1)) hx hb dX5_complete_40 (by decide) ?_
          refine fw_ci0 (w := (w.1, u0)) hS (fw_rV (rest := []) (As := [.int (nI tt), .int (nI (s_nd σ tt i)), .int (-1)]) C hP hS wV_X5_127 (k_X5_has l Γ (w.1, u0) σ 0 z tt (s_nd σ tt i) (-1) none (by omega) (by omega) ho_n hI m20 ⟨⟨_, g37, v37⟩, ⟨_, g38, v38⟩, ⟨_, g39, v39⟩, ⟨_, g40, v40⟩, ⟨_, g41, v41⟩, ⟨_, g42, v42⟩, ⟨_, g43, v43⟩, ⟨_, g44, v44⟩⟩ ⟨⟨_, g46, v46⟩, ⟨_, g47, v47⟩, ⟨_, g48, v48⟩, ⟨_, g49, v49⟩, ⟨_, g50, v50⟩, ⟨_, g52, v52⟩⟩) m20 rfl rfl (fRm_mk rfl rfl (Nat.le_of_ble_eq_true rfl) (Nat.le_of_ble_eq_true rfl) (Nat.le_of_ble_eq_true rfl) (Nat.le_of_ble_eq_true rfl) (Nat.le_of_ble_eq_true rfl)) rfl hl.1 rfl dX5_complete_41) (fun H locs hP hS => ?_)
          refine fw_ineB (tgt := 51) hx hb dX5_complete_44 (by decide) (fun c_44 => ?_) (fun c_44 => ?_)
          · refine lv_iinc (v := nI (i + 1)) (lv' := [(2, .int (nI (i + 1))), (0, .ref (w.1 20 0)), (1, .int (nI tt))]) hx hb dX5_complete_51 hl (k := 0) rfl (by rw [show Int32.ofInt 1 = nI 1 from rfl, nI_add]) (by decide) rfl (fun ls hl => ?_)
            refine lv_goto (tgt := 17) hx hb dX5_complete_54 (by decide) ?_
            refine W.widen (k := 0) (n := 0) (Nat.le_of_ble_eq_true rfl) (Nat.le_of_ble_eq_true rfl) ?_
            exact ih (i + 1) H locs ls (by omega) (by omega) (by rw [hz, cp_s c_44 (by omega)]; rfl) hP hS (lv_sub hl [0, 1, 2] rfl)
          · refine lv_iconst (v := nI 1) hx hb dX5_complete_47 (by decide) ?_
            refine lv_iload_n hx hb dX5_complete_48 rfl (lv_at hl 0 rfl) ?_
            refine fw_addN hx hb dX5_complete_49 ?_
            exact fw_reti C hr hlk rfl hP hS (⟨by rw [cp_t c_10 (by omega), hz, cp_e c_44 (by omega)], hR0, hf0⟩) (Nat.le_of_ble_eq_true rfl) (Nat.le_of_ble_eq_true rfl) dX5_complete_50
    exact loop 12 0 _ _ _ (by omega) (by omega) rfl hP hS (lv_sub hl [0, 1, 2] rfl)
  · refine lv_iconst (v := (-1)) hx hb dX5_complete_13 (by decide) ?_
    exact fw_reti C hr hlk rfl hP hS (⟨(cp_f c_10).symm, hR0, hf0⟩) (Nat.le_of_ble_eq_true rfl) (Nat.le_of_ble_eq_true rfl) dX5_complete_14
set_option maxHeartbeats 8000000 in
set_option maxRecDepth 100000 in
theorem k_X5_comment (l : Launch) (Γ : FG) (w : FW) (σ : St) (th : Int32) (tx bx : Int32) (x : Int64) (hI : Inv σ) (hR : Rm σ th w) : Met l yX5_comment (ws_ yX5_comment cX5_comment 5 (some .boolean)) (rmD 12 0 0) (va_Pc [.ref (w.1 20 0), .int tx, .int bx, .long x] (fI Γ w)) (va_Qi (fun r w1 => r = b2i (a_comment σ tx bx x) ∧ Rm (n_comment σ tx bx x) 0 w1 ∧ frm w w1) (fI Γ) (fA Γ)) 0 0 (fA Γ) := by
  refine fw_met (by decide) (Nat.le_of_ble_eq_true rfl) ?_
  intro p e s m below meth c ls C hP hS hr hlk hin hl
  have C : fC p s m [.ref (w.1 20 0), .int tx, .int bx, .long x].toArray c cX5_comment 5 RX5 Γ := C
  have hx := C.1.1
  have hb := C.1.2.1
  have hl : lv_has ls 5 [(0, .ref (w.1 20 0)), (1, .int tx), (2, .int bx), (3, .long x)] := hl
  obtain ⟨⟨hnp, hnr, hnt, hns, hnw, hck0, hck1⟩, hIr, hIt, hIb, hIn, hIs, hIg, hIw, hIa⟩ := id hI
  obtain ⟨z0, n20, nA, nT, nS, nO, nH⟩ := id hR
  refine lv_aload_n hx hb dX5_comment_0 rfl (lv_at hl 0 rfl) ?_
  refine lv_iconst (v := 0) hx hb dX5_comment_1 (by decide) ?_
  refine pf_X5_84 C hP hS rfl rfl n20 rfl (Nat.le_of_ble_eq_true rfl) dX5_comment_2 (fun H locs hP hS => ?_)
  have hP : fP Γ (fset w 20 0 (oO 5 [.int (nI (s_np σ)), .int (nI (s_nr σ)), .ref (w.1 32 0), .ref (w.1 33 0), .ref (w.1 34 0), .ref (w.1 35 0), .int (nI (s_nt σ)), .ref (w.1 37 0), .ref (w.1 38 0), .ref (w.1 39 0), .ref (w.1 40 0), .ref (w.1 41 0), .ref (w.1 42 0), .ref (w.1 43 0), .ref (w.1 44 0), .int (nI (s_ns σ)), .ref (w.1 46 0), .ref (w.1 47 0), .ref (w.1 48 0), .ref (w.1 49 0), .ref (w.1 50 0), .int (nI (s_nw σ)), .ref (w.1 52 0), .ref (w.1 53 0), .long (s_ck σ), .int 0, .int (b2i z0), .ref (w.1 57 0), .ref (w.1 58 0), .ref (w.1 59 0), .ref (w.1 60 0), .ref (w.1 61 0)])) H := hP
  obtain ⟨u0, hu0⟩ : ∃ u, u = ((fset w 20 0 (oO 5 [.int (nI (s_np σ)), .int (nI (s_nr σ)), .ref (w.1 32 0), .ref (w.1 33 0), .ref (w.1 34 0), .ref (w.1 35 0), .int (nI (s_nt σ)), .ref (w.1 37 0), .ref (w.1 38 0), .ref (w.1 39 0), .ref (w.1 40 0), .ref (w.1 41 0), .ref (w.1 42 0), .ref (w.1 43 0), .ref (w.1 44 0), .int (nI (s_ns σ)), .ref (w.1 46 0), .ref (w.1 47 0), .ref (w.1 48 0), .ref (w.1 49 0), .ref (w.1 50 0), .int (nI (s_nw σ)), .ref (w.1 52 0), .ref (w.1 53 0), .long (s_ck σ), .int 0, .int (b2i z0), .ref (w.1 57 0), .ref (w.1 58 0), .ref (w.1 59 0), .ref (w.1 60 0), .ref (w.1 61 0)]))).2 := ⟨_, rfl⟩
  have hw0 : (fset w 20 0 (oO 5 [.int (nI (s_np σ)), .int (nI (s_nr σ)), .ref (w.1 32 0), .ref (w.1 33 0), .ref (w.1 34 0), .ref (w.1 35 0), .int (nI (s_nt σ)), .ref (w.1 37 0), .ref (w.1 38 0), .ref (w.1 39 0), .ref (w.1 40 0), .ref (w.1 41 0), .ref (w.1 42 0), .ref (w.1 43 0), .ref (w.1 44 0), .int (nI (s_ns σ)), .ref (w.1 46 0), .ref (w.1 47 0), .ref (w.1 48 0), .ref (w.1 49 0), .ref (w.1 50 0), .int (nI (s_nw σ)), .ref (w.1 52 0), .ref (w.1 53 0), .long (s_ck σ), .int 0, .int (b2i z0), .ref (w.1 57 0), .ref (w.1 58 0), .ref (w.1 59 0), .ref (w.1 60 0), .ref (w.1 61 0)])) = (w.1, u0) := by rw [hu0]; rfl
  rw [hw0] at hP
  have hR0 : Rm σ 0 (w.1, u0) := by rw [← hw0]; exact Rm_th0 nA nT nS nO nH
  have hf0 : frm w (w.1, u0) := by rw [← hw0]; exact frm_set (by decide)
  clear hw0 hu0 n20 nA nT nS nO nH
  obtain ⟨z, m20, mA, mT, mS, mO, mH⟩ := id hR0
  obtain ⟨⟨f32, g32, v32⟩, ⟨f33, g33, v33⟩, ⟨f34, g34, v34⟩, ⟨f35, g35, v35⟩⟩ := id mA
  obtain ⟨⟨f37, g37, v37⟩, ⟨f38, g38, v38⟩, ⟨f39, g39, v39⟩, ⟨f40, g40, v40⟩, ⟨f41, g41, v41⟩, ⟨f42, g42, v42⟩, ⟨f43, g43, v43⟩, ⟨f44, g44, v44⟩⟩ := id mT
  obtain ⟨⟨f46, g46, v46⟩, ⟨f47, g47, v47⟩, ⟨f48, g48, v48⟩, ⟨f49, g49, v49⟩, ⟨f50, g50, v50⟩, ⟨f52, g52, v52⟩⟩ := id mS
  obtain ⟨f53, g53, v53⟩ := id mO
  obtain ⟨⟨f57, g57, v57⟩, ⟨f58, g58, v58⟩, ⟨f59, g59⟩, ⟨f60, g60⟩, ⟨f61, g61⟩⟩ := id mH
  refine lv_aload_n hx hb dX5_comment_5 rfl (lv_at hl 0 rfl) ?_
  refine lv_iload_n hx hb dX5_comment_6 rfl (lv_at hl 1 rfl) ?_
  refine fw_ci0 (w := (w.1, u0)) hS (fw_rV (rest := []) (As := [.int tx]) C hP hS wV_X5_114 (k_X5_isThing l Γ (w.1, u0) σ 0 z tx hnt m20) m20 rfl rfl (fRm_mk rfl rfl (Nat.le_of_ble_eq_true rfl) (Nat.le_of_ble_eq_true rfl) (Nat.le_of_ble_eq_true rfl) (Nat.le_of_ble_eq_true rfl) (Nat.le_of_ble_eq_true rfl)) rfl hl.1 rfl dX5_comment_7) (fun H locs hP hS => ?_)
  refine fw_ieqB (tgt := 52) hx hb dX5_comment_10 (by decide) (fun c_10 => ?_) (fun c_10 => ?_)
  · refine lv_iconst (v := 0) hx hb dX5_comment_52 (by decide) ?_
    exact fw_reti C hr hlk rfl hP hS (⟨b2i_f (co_f (Or.inl c_10)), by rw [co_n (co_f (Or.inl c_10))]; exact hR0, hf0⟩) (Nat.le_of_ble_eq_true rfl) (Nat.le_of_ble_eq_true rfl) dX5_comment_53
  · obtain ⟨tt, htt, rfl⟩ := fIn_t c_10 (by omega)
    refine lv_iload_n hx hb dX5_comment_13 rfl (lv_at hl 2 rfl) ?_
    refine lv_if_lt (tgt := 52) hx hb dX5_comment_14 (by decide) (fun c_14 => ?_) (fun c_14 => ?_)
    · refine lv_iconst (v := 0) hx hb dX5_comment_52 (by decide) ?_
      exact fw_reti C hr hlk rfl hP hS (⟨b2i_f (co_f (Or.inr (Or.inl (fIn_lt c_14)))), by rw [co_n (co_f (Or.inr (Or.inl (fIn_lt c_14))))]; exact hR0, hf0⟩) (Nat.le_of_ble_eq_true rfl) (Nat.le_of_ble_eq_true rfl) dX5_comment_53
    · refine lv_iload_n hx hb dX5_comment_17 rfl (lv_at hl 2 rfl) ?_
      refine lv_sipush (v := nI 255) hx hb dX5_comment_18 (by decide) ?_
      refine lv_icmp_gt (tgt := 52) hx hb dX5_comment_21 (by decide) (fun c_21 => ?_) (fun c_21 => ?_)
      · refine lv_iconst (v := 0) hx hb dX5_comment_52 (by decide) ?_
        exact fw_reti C hr hlk rfl hP hS (⟨b2i_f (co_f (Or.inr (Or.inl (fIn_ge (by decide) (fa_ge256 c_21))))), by rw [co_n (co_f (Or.inr (Or.inl (fIn_ge (by decide) (fa_ge256 c_21)))))]; exact hR0, hf0⟩) (Nat.le_of_ble_eq_true rfl) (Nat.le_of_ble_eq_true rfl) dX5_comment_53
      · have c_bb : fIn bx 256 = true := fIn_in (by decide) c_14 (fun q => c_21 (fa_lt255 q))
        obtain ⟨bb, hbb, rfl⟩ := fIn_t c_bb (by omega)
        obtain ⟨hln, hcn, hdn, hmk, -⟩ := hIt tt
        refine lv_lload_n hx hb dX5_comment_24 rfl (lv_at hl 3 rfl) ?_
        refine fw_ci0 (w := (w.1, u0)) hS (fw_rS (rest := []) (As := [.long x]) C hP hS wS_X5_103 (k_X5_isSecond l Γ (w.1, u0) x) (fRm_mk rfl rfl (Nat.le_of_ble_eq_true rfl) (Nat.le_of_ble_eq_true rfl) (Nat.le_of_ble_eq_true rfl) (Nat.le_of_ble_eq_true rfl) (Nat.le_of_ble_eq_true rfl)) rfl hl.1 rfl dX5_comment_25) (fun H locs hP hS => ?_)
        refine fw_ieqB (tgt := 52) hx hb dX5_comment_28 (by decide) (fun c_28 => ?_) (fun c_28 => ?_)
        · refine lv_iconst (v := 0) hx hb dX5_comment_52 (by decide) ?_
          exact fw_reti C hr hlk rfl hP hS (⟨b2i_f (co_f (Or.inr (Or.inr (Or.inl (by rw [c_28]; rfl))))), by rw [co_n (co_f (Or.inr (Or.inr (Or.inl (by rw [c_28]; rfl)))))]; exact hR0, hf0⟩) (Nat.le_of_ble_eq_true rfl) (Nat.le_of_ble_eq_true rfl) dX5_comment_53
        · refine lv_lload_n hx hb dX5_comment_31 rfl (lv_at hl 3 rfl) ?_
          refine lv_aload_n hx hb dX5_comment_32 rfl (lv_at hl 0 rfl) ?_
          refine gf_X5_123 C hP m20 rfl rfl dX5_comment_33 ?_
          refine W.lcmp hx hb dX5_comment_36 ?_
          refine fw_llt (tgt := 52) hx hb dX5_comment_37 (by decide) (fun c_37 => ?_) (fun c_37 => ?_)
          · refine lv_iconst (v := 0) hx hb dX5_comment_52 (by decide) ?_
            exact fw_reti C hr hlk rfl hP hS (⟨b2i_f (co_f (Or.inr (Or.inr (Or.inl (by rw [decide_eq_false (Int64.not_le.mpr c_37), Bool.and_false]))))), by rw [co_n (co_f (Or.inr (Or.inr (Or.inl (by rw [decide_eq_false (Int64.not_le.mpr c_37), Bool.and_false])))))]; exact hR0, hf0⟩) (Nat.le_of_ble_eq_true rfl) (Nat.le_of_ble_eq_true rfl) dX5_comment_53
          · refine lv_aload_n hx hb dX5_comment_40 rfl (lv_at hl 0 rfl) ?_
            refine gf_X5_35 C hP m20 rfl rfl dX5_comment_41 ?_
            refine lv_iload_n hx hb dX5_comment_44 rfl (lv_at hl 1 rfl) ?_
            refine fw_iald C hP g41 rfl tt rfl (by omega) (by decide) dX5_comment_45 ?_
            refine fw_E (show f41 tt = nI (s_cn σ tt) from v41 tt (by omega)) ?_
            refine lv_sipush (v := nI 200) hx hb dX5_comment_46 (by decide) ?_
            refine fw_neN (tgt := 54) hx hb (by omega) (by omega) dX5_comment_49 (by decide) (fun c_49 => ?_) (fun c_49 => ?_)
            · refine lv_aload_n hx hb dX5_comment_54 rfl (lv_at hl 0 rfl) ?_
              refine gf_X5_38 C hP m20 rfl rfl dX5_comment_55 ?_
              refine lv_sipush (v := nI 200) hx hb dX5_comment_58 (by decide) ?_
              refine lv_iload_n hx hb dX5_comment_61 rfl (lv_at hl 1 rfl) ?_
              refine fw_mulN hx hb dX5_comment_62 ?_
              refine lv_aload_n hx hb dX5_comment_63 rfl (lv_at hl 0 rfl) ?_
              refine gf_X5_35 C hP m20 rfl rfl dX5_comment_64 ?_
              refine lv_iload_n hx hb dX5_comment_67 rfl (lv_at hl 1 rfl) ?_
              refine fw_iald C hP g41 rfl tt rfl (by omega) (by decide) dX5_comment_68 ?_
              refine fw_E (show f41 tt = nI (s_cn σ tt) from v41 tt (by omega)) ?_
              refine fw_addN hx hb dX5_comment_69 ?_
              refine lv_iload_n hx hb dX5_comment_70 rfl (lv_at hl 2 rfl) ?_
              refine fw_iast C hP hS g42 rfl (200 * tt + (s_cn σ tt)) rfl (by omega) (by decide) dX5_comment_71 (fun H locs hP hS => ?_)
              have hP : fP Γ (fset (w.1, u0) 42 0 (aI 1 3200 (upd f42 (200 * tt + (s_cn σ tt)) (nI bb)))) H := hP
              refine lv_aload_n hx hb dX5_comment_72 rfl (lv_at hl 0 rfl) ?_
              refine gf_X5_35 C hP ((fset_ne (by decide)).trans m20) rfl rfl dX5_comment_73 ?_
              refine lv_iload_n hx hb dX5_comment_76 rfl (lv_at hl 1 rfl) ?_
              refine lv_dup2_11 hx hb dX5_comment_77 rfl rfl ?_
              refine fw_iald C hP ((fset_ne (by decide)).trans g41) rfl tt rfl (by omega) (by decide) dX5_comment_78 ?_
              refine fw_E (show f41 tt = nI (s_cn σ tt) from v41 tt (by omega)) ?_
              refine lv_iconst (v := nI 1) hx hb dX5_comment_79 (by decide) ?_
              refine fw_addN hx hb dX5_comment_80 ?_
              refine fw_iast C hP hS ((fset_ne (by decide)).trans g41) rfl tt rfl (by omega) (by decide) dX5_comment_81 (fun H locs hP hS => ?_)
              have hP : fP Γ (fset (fset (w.1, u0) 42 0 (aI 1 3200 (upd f42 (200 * tt + (s_cn σ tt)) (nI bb)))) 41 0 (aI 1 16 (upd f41 tt (nI (s_cn σ tt + 1))))) H := hP
              refine lv_aload_n hx hb dX5_comment_82 rfl (lv_at hl 0 rfl) ?_
              refine lv_lload_n hx hb dX5_comment_83 rfl (lv_at hl 3 rfl) ?_
              refine pf_X5_123 C hP hS rfl rfl ((fset_ne (by decide)).trans ((fset_ne (by decide)).trans m20)) rfl (Nat.le_of_ble_eq_true rfl) dX5_comment_84 (fun H locs hP hS => ?_)
              have hP : fP Γ (fset (fset (fset (w.1, u0) 42 0 (aI 1 3200 (upd f42 (200 * tt + (s_cn σ tt)) (nI bb)))) 41 0 (aI 1 16 (upd f41 tt (nI (s_cn σ tt + 1))))) 20 0 (oO 5 [.int (nI (s_np σ)), .int (nI (s_nr σ)), .ref (w.1 32 0), .ref (w.1 33 0), .ref (w.1 34 0), .ref (w.1 35 0), .int (nI (s_nt σ)), .ref (w.1 37 0), .ref (w.1 38 0), .ref (w.1 39 0), .ref (w.1 40 0), .ref (w.1 41 0), .ref (w.1 42 0), .ref (w.1 43 0), .ref (w.1 44 0), .int (nI (s_ns σ)), .ref (w.1 46 0), .ref (w.1 47 0), .ref (w.1 48 0), .ref (w.1 49 0), .ref (w.1 50 0), .int (nI (s_nw σ)), .ref (w.1 52 0), .ref (w.1 53 0), .long x, .int 0, .int (b2i z), .ref (w.1 57 0), .ref (w.1 58 0), .ref (w.1 59 0), .ref (w.1 60 0), .ref (w.1 61 0)])) H := hP
              refine lv_iconst (v := 1) hx hb dX5_comment_87 (by decide) ?_
              have hl9 : (isSec x && decide (s_ck σ ≤ x)) = true := by rw [c_28, decide_eq_true (Int64.not_lt.mp c_37)]; rfl
              have htt1 := co_t c_10 c_bb hl9 (by omega) (by omega : s_cn σ tt ≠ 200)
              exact fw_reti C hr hlk rfl hP hS (⟨b2i_t htt1, by rw [co_m htt1 (by omega) (by omega)]; exact ⟨z, fset_at, ⟨⟨_, ((fset_ne (by decide)).trans ((fset_ne (by decide)).trans ((fset_ne (by decide)).trans g32))), v32⟩, ⟨_, ((fset_ne (by decide)).trans ((fset_ne (by decide)).trans ((fset_ne (by decide)).trans g33))), v33⟩, ⟨_, ((fset_ne (by decide)).trans ((fset_ne (by decide)).trans ((fset_ne (by decide)).trans g34))), v34⟩, ⟨_, ((fset_ne (by decide)).trans ((fset_ne (by decide)).trans ((fset_ne (by decide)).trans g35))), v35⟩⟩, ⟨⟨_, ((fset_ne (by decide)).trans ((fset_ne (by decide)).trans ((fset_ne (by decide)).trans g37))), v37⟩, ⟨_, ((fset_ne (by decide)).trans ((fset_ne (by decide)).trans ((fset_ne (by decide)).trans g38))), v38⟩, ⟨_, ((fset_ne (by decide)).trans ((fset_ne (by decide)).trans ((fset_ne (by decide)).trans g39))), v39⟩, ⟨_, ((fset_ne (by decide)).trans ((fset_ne (by decide)).trans ((fset_ne (by decide)).trans g40))), v40⟩, ⟨_, ((fset_ne (by decide)).trans fset_at), up_T v41⟩, ⟨_, ((fset_ne (by decide)).trans ((fset_ne (by decide)).trans fset_at)), up_R (by omega) (fun t ht => (hIt t).2.1) (by omega) v42⟩, ⟨_, ((fset_ne (by decide)).trans ((fset_ne (by decide)).trans ((fset_ne (by decide)).trans g43))), v43⟩, ⟨_, ((fset_ne (by decide)).trans ((fset_ne (by decide)).trans ((fset_ne (by decide)).trans g44))), v44⟩⟩, ⟨⟨_, ((fset_ne (by decide)).trans ((fset_ne (by decide)).trans ((fset_ne (by decide)).trans g46))), v46⟩, ⟨_, ((fset_ne (by decide)).trans ((fset_ne (by decide)).trans ((fset_ne (by decide)).trans g47))), v47⟩, ⟨_, ((fset_ne (by decide)).trans ((fset_ne (by decide)).trans ((fset_ne (by decide)).trans g48))), v48⟩, ⟨_, ((fset_ne (by decide)).trans ((fset_ne (by decide)).trans ((fset_ne (by decide)).trans g49))), v49⟩, ⟨_, ((fset_ne (by decide)).trans ((fset_ne (by decide)).trans ((fset_ne (by decide)).trans g50))), v50⟩, ⟨_, ((fset_ne (by decide)).trans ((fset_ne (by decide)).trans ((fset_ne (by decide)).trans g52))), v52⟩⟩, ⟨_, ((fset_ne (by decide)).trans ((fset_ne (by decide)).trans ((fset_ne (by decide)).trans g53))), v53⟩, ⟨⟨_, ((fset_ne (by decide)).trans ((fset_ne (by decide)).trans ((fset_ne (by decide)).trans g57))), v57⟩, ⟨_, ((fset_ne (by decide)).trans ((fset_ne (by decide)).trans ((fset_ne (by decide)).trans g58))), v58⟩, ⟨_, ((fset_ne (by decide)).trans ((fset_ne (by decide)).trans ((fset_ne (by decide)).trans g59)))⟩, ⟨_, ((fset_ne (by decide)).trans ((fset_ne (by decide)).trans ((fset_ne (by decide)).trans g60)))⟩, ⟨_, ((fset_ne (by decide)).trans ((fset_ne (by decide)).trans ((fset_ne (by decide)).trans g61)))⟩⟩⟩, (frm_tr (frm_tr (frm_tr hf0 (frm_set (by decide))) (frm_set (by decide))) (frm_set (by decide)))⟩) (Nat.le_of_ble_eq_true rfl) (Nat.le_of_ble_eq_true rfl) dX5_comment_88
            · refine lv_iconst (v := 0) hx hb dX5_comment_52 (by decide) ?_
              exact fw_reti C hr hlk rfl hP hS (⟨b2i_f (co_f (Or.inr (Or.inr (Or.inr (by rw [n_of_nI (by omega)]; omega))))), by rw [co_n (co_f (Or.inr (Or.inr (Or.inr (by rw [n_of_nI (by omega)]; omega)))))]; exact hR0, hf0⟩) (Nat.le_of_ble_eq_true rfl) (Nat.le_of_ble_eq_true rfl) dX5_comment_53
set_option maxHeartbeats 8000000 in
set_option maxRecDepth 100000 in
theorem k_X5_digest (l : Launch) (Γ : FG) (w : FW) (σ : St) (th : Int32) (tx ix : Int32) (hI : Inv σ) (hR : Rm σ th w) : Met l yX5_digest (ws_ yX5_digest cX5_digest 3 (some .int)) (rmD 12 0 0) (va_Pc [.ref (w.1 20 0), .int tx, .int ix] (fI Γ w)) (va_Qi (fun r w1 => r = a_digest σ tx ix ∧ Rm σ 0 w1 ∧ frm w w1) (fI Γ) (fA Γ)) 0 0 (fA Γ) := by
  refine fw_met (by decide) (Nat.le_of_ble_eq_true rfl) ?_
  intro p e s m below meth c ls C hP hS hr hlk hin hl
  have C : fC p s m [.ref (w.1 20 0), .int tx, .int ix].toArray c cX5_digest 3 RX5 Γ := C
  have hx := C.1.1
  have hb := C.1.2.1
  have hl : lv_has ls 3 [(0, .ref (w.1 20 0)), (1, .int tx), (2, .int ix)] := hl
  obtain ⟨⟨hnp, hnr, hnt, hns, hnw, hck0, hck1⟩, hIr, hIt, hIb, hIn, hIs, hIg, hIw, hIa⟩ := id hI
  obtain ⟨z0, n20, nA, nT, nS, nO, nH⟩ := id hR
  refine lv_aload_n hx hb dX5_digest_0 rfl (lv_at hl 0 rfl) ?_
  refine lv_iconst (v := 0) hx hb dX5_digest_1 (by decide) ?_
  refine pf_X5_84 C hP hS rfl rfl n20 rfl (Nat.le_of_ble_eq_true rfl) dX5_digest_2 (fun H locs hP hS => ?_)
  have hP : fP Γ (fset w 20 0 (oO 5 [.int (nI (s_np σ)), .int (nI (s_nr σ)), .ref (w.1 32 0), .ref (w.1 33 0), .ref (w.1 34 0), .ref (w.1 35 0), .int (nI (s_nt σ)), .ref (w.1 37 0), .ref (w.1 38 0), .ref (w.1 39 0), .ref (w.1 40 0), .ref (w.1 41 0), .ref (w.1 42 0), .ref (w.1 43 0), .ref (w.1 44 0), .int (nI (s_ns σ)), .ref (w.1 46 0), .ref (w.1 47 0), .ref (w.1 48 0), .ref (w.1 49 0), .ref (w.1 50 0), .int (nI (s_nw σ)), .ref (w.1 52 0), .ref (w.1 53 0), .long (s_ck σ), .int 0, .int (b2i z0), .ref (w.1 57 0), .ref (w.1 58 0), .ref (w.1 59 0), .ref (w.1 60 0), .ref (w.1 61 0)])) H := hP
  obtain ⟨u0, hu0⟩ : ∃ u, u = ((fset w 20 0 (oO 5 [.int (nI (s_np σ)), .int (nI (s_nr σ)), .ref (w.1 32 0), .ref (w.1 33 0), .ref (w.1 34 0), .ref (w.1 35 0), .int (nI (s_nt σ)), .ref (w.1 37 0), .ref (w.1 38 0), .ref (w.1 39 0), .ref (w.1 40 0), .ref (w.1 41 0), .ref (w.1 42 0), .ref (w.1 43 0), .ref (w.1 44 0), .int (nI (s_ns σ)), .ref (w.1 46 0), .ref (w.1 47 0), .ref (w.1 48 0), .ref (w.1 49 0), .ref (w.1 50 0), .int (nI (s_nw σ)), .ref (w.1 52 0), .ref (w.1 53 0), .long (s_ck σ), .int 0, .int (b2i z0), .ref (w.1 57 0), .ref (w.1 58 0), .ref (w.1 59 0), .ref (w.1 60 0), .ref (w.1 61 0)]))).2 := ⟨_, rfl⟩
  have hw0 : (fset w 20 0 (oO 5 [.int (nI (s_np σ)), .int (nI (s_nr σ)), .ref (w.1 32 0), .ref (w.1 33 0), .ref (w.1 34 0), .ref (w.1 35 0), .int (nI (s_nt σ)), .ref (w.1 37 0), .ref (w.1 38 0), .ref (w.1 39 0), .ref (w.1 40 0), .ref (w.1 41 0), .ref (w.1 42 0), .ref (w.1 43 0), .ref (w.1 44 0), .int (nI (s_ns σ)), .ref (w.1 46 0), .ref (w.1 47 0), .ref (w.1 48 0), .ref (w.1 49 0), .ref (w.1 50 0), .int (nI (s_nw σ)), .ref (w.1 52 0), .ref (w.1 53 0), .long (s_ck σ), .int 0, .int (b2i z0), .ref (w.1 57 0), .ref (w.1 58 0), .ref (w.1 59 0), .ref (w.1 60 0), .ref (w.1 61 0)])) = (w.1, u0) := by rw [hu0]; rfl
  rw [hw0] at hP
  have hR0 : Rm σ 0 (w.1, u0) := by rw [← hw0]; exact Rm_th0 nA nT nS nO nH
  have hf0 : frm w (w.1, u0) := by rw [← hw0]; exact frm_set (by decide)
  clear hw0 hu0 n20 nA nT nS nO nH
  obtain ⟨z, m20, mA, mT, mS, mO, mH⟩ := id hR0
  obtain ⟨⟨f32, g32, v32⟩, ⟨f33, g33, v33⟩, ⟨f34, g34, v34⟩, ⟨f35, g35, v35⟩⟩ := id mA
  obtain ⟨⟨f37, g37, v37⟩, ⟨f38, g38, v38⟩, ⟨f39, g39, v39⟩, ⟨f40, g40, v40⟩, ⟨f41, g41, v41⟩, ⟨f42, g42, v42⟩, ⟨f43, g43, v43⟩, ⟨f44, g44, v44⟩⟩ := id mT
  obtain ⟨⟨f46, g46, v46⟩, ⟨f47, g47, v47⟩, ⟨f48, g48, v48⟩, ⟨f49, g49, v49⟩, ⟨f50, g50, v50⟩, ⟨f52, g52, v52⟩⟩ := id mS
  obtain ⟨f53, g53, v53⟩ := id mO
  obtain ⟨⟨f57, g57, v57⟩, ⟨f58, g58, v58⟩, ⟨f59, g59⟩, ⟨f60, g60⟩, ⟨f61, g61⟩⟩ := id mH
  refine lv_aload_n hx hb dX5_digest_5 rfl (lv_at hl 0 rfl) ?_
  refine lv_iload_n hx hb dX5_digest_6 rfl (lv_at hl 1 rfl) ?_
  refine fw_ci0 (w := (w.1, u0)) hS (fw_rV (rest := []) (As := [.int tx]) C hP hS wV_X5_114 (k_X5_isThing l Γ (w.1, u0) σ 0 z tx hnt m20) m20 rfl rfl (fRm_mk rfl rfl (Nat.le_of_ble_eq_true rfl) (Nat.le_of_ble_eq_true rfl) (Nat.le_of_ble_eq_true rfl) (Nat.le_of_ble_eq_true rfl) (Nat.le_of_ble_eq_true rfl)) rfl hl.1 rfl dX5_digest_7) (fun H locs hP hS => ?_)
  refine fw_ieqB (tgt := 30) hx hb dX5_digest_10 (by decide) (fun c_10 => ?_) (fun c_10 => ?_)
  · refine lv_iconst (v := (-1)) hx hb dX5_digest_30 (by decide) ?_
    exact fw_reti C hr hlk rfl hP hS (⟨(di_f (Or.inl c_10)).symm, hR0, hf0⟩) (Nat.le_of_ble_eq_true rfl) (Nat.le_of_ble_eq_true rfl) dX5_digest_31
  · obtain ⟨tt, htt, rfl⟩ := fIn_t c_10 (by omega)
    obtain ⟨hln, hcn, hdn, hmk, -⟩ := hIt tt
    refine lv_iload_n hx hb dX5_digest_13 rfl (lv_at hl 2 rfl) ?_
    refine lv_if_lt (tgt := 30) hx hb dX5_digest_14 (by decide) (fun c_14 => ?_) (fun c_14 => ?_)
    · refine lv_iconst (v := (-1)) hx hb dX5_digest_30 (by decide) ?_
      exact fw_reti C hr hlk rfl hP hS (⟨(di_f (Or.inr (fIn_lt c_14))).symm, hR0, hf0⟩) (Nat.le_of_ble_eq_true rfl) (Nat.le_of_ble_eq_true rfl) dX5_digest_31
    · refine lv_iload_n hx hb dX5_digest_17 rfl (lv_at hl 2 rfl) ?_
      refine lv_bipush (v := nI 32) hx hb dX5_digest_18 (by decide) ?_
      refine lv_aload_n hx hb dX5_digest_20 rfl (lv_at hl 0 rfl) ?_
      refine gf_X5_35 C hP m20 rfl rfl dX5_digest_21 ?_
      refine lv_iload_n hx hb dX5_digest_24 rfl (lv_at hl 1 rfl) ?_
      refine fw_iald C hP g41 rfl tt rfl (by omega) (by decide) dX5_digest_25 ?_
      refine fw_E (show f41 tt = nI (s_cn σ tt) from v41 tt (by omega)) ?_
      refine fw_addN hx hb dX5_digest_26 ?_
      refine lv_icmp_lt (tgt := 32) hx hb dX5_digest_27 (by decide) (fun c_27 => ?_) (fun c_27 => ?_)
      · have c_in : fIn ix (32 + s_cn σ tt) = true := fIn_inL (by omega) c_14 c_27
        obtain ⟨ii, hii, rfl⟩ := fIn_t c_in (by omega)
        refine lv_iload_n hx hb dX5_digest_32 rfl (lv_at hl 2 rfl) ?_
        refine lv_bipush (v := nI 32) hx hb dX5_digest_33 (by decide) ?_
        refine fw_ltN (tgt := 54) hx hb (by omega) (by omega) dX5_digest_35 (by decide) (fun c_35 => ?_) (fun c_35 => ?_)
        · refine lv_aload_n hx hb dX5_digest_54 rfl (lv_at hl 0 rfl) ?_
          refine gf_X5_29 C hP m20 rfl rfl dX5_digest_55 ?_
          refine lv_bipush (v := nI 8) hx hb dX5_digest_58 (by decide) ?_
          refine lv_iload_n hx hb dX5_digest_60 rfl (lv_at hl 1 rfl) ?_
          refine fw_mulN hx hb dX5_digest_61 ?_
          refine lv_iload_n hx hb dX5_digest_62 rfl (lv_at hl 2 rfl) ?_
          refine lv_iconst (v := nI 4) hx hb dX5_digest_63 (by decide) ?_
          refine fw_divN hx hb (by omega) (by omega) (by omega) dX5_digest_64 ?_
          refine fw_addN hx hb dX5_digest_65 ?_
          refine fw_iald C hP g39 rfl (8 * tt + (ii / 4)) rfl (by omega) (by decide) dX5_digest_66 ?_
          refine fw_E (show f39 (8 * tt + (ii / 4)) = s_dg σ tt (ii / 4) from v39 tt (by omega) (ii / 4) (by omega)) ?_
          refine lv_bipush (v := nI 24) hx hb dX5_digest_67 (by decide) ?_
          refine lv_bipush (v := nI 8) hx hb dX5_digest_69 (by decide) ?_
          refine lv_iload_n hx hb dX5_digest_71 rfl (lv_at hl 2 rfl) ?_
          refine lv_iconst (v := nI 4) hx hb dX5_digest_72 (by decide) ?_
          refine fw_remN hx hb (by omega) (by omega) (by omega) dX5_digest_73 ?_
          refine fw_mulN hx hb dX5_digest_74 ?_
          refine fw_subN hx hb (by omega) dX5_digest_75 ?_
          refine lv_iushr (v := ush (s_dg σ tt (ii / 4)) (nI (24 - (8 * (ii % 4))))) hx hb dX5_digest_76 rfl ?_
          refine lv_sipush (v := 255) hx hb dX5_digest_77 (by decide) ?_
          refine lv_iand hx hb dX5_digest_80 ?_
          exact fw_reti C hr hlk rfl hP hS (⟨(di_w c_10 (by omega) (by omega)).symm, hR0, hf0⟩) (Nat.le_of_ble_eq_true rfl) (Nat.le_of_ble_eq_true rfl) dX5_digest_81
        · refine lv_aload_n hx hb dX5_digest_38 rfl (lv_at hl 0 rfl) ?_
          refine gf_X5_38 C hP m20 rfl rfl dX5_digest_39 ?_
          refine lv_sipush (v := nI 200) hx hb dX5_digest_42 (by decide) ?_
          refine lv_iload_n hx hb dX5_digest_45 rfl (lv_at hl 1 rfl) ?_
          refine fw_mulN hx hb dX5_digest_46 ?_
          refine lv_iload_n hx hb dX5_digest_47 rfl (lv_at hl 2 rfl) ?_
          refine fw_addN hx hb dX5_digest_48 ?_
          refine lv_bipush (v := nI 32) hx hb dX5_digest_49 (by decide) ?_
          refine fw_subN hx hb (by omega) dX5_digest_51 ?_
          refine fw_iald C hP g42 rfl (200 * tt + (ii - 32)) (by rw [(by omega : 200 * tt + ii - 32 = 200 * tt + (ii - 32))]) (by omega) (by decide) dX5_digest_52 ?_
          refine fw_E (show f42 (200 * tt + (ii - 32)) = nI (s_cm σ tt (ii - 32)) from v42 tt (by omega) (ii - 32) (by omega)) ?_
          exact fw_reti C hr hlk rfl hP hS (⟨(di_c c_10 (by omega) (by omega) (by omega) (by omega)).symm, hR0, hf0⟩) (Nat.le_of_ble_eq_true rfl) (Nat.le_of_ble_eq_true rfl) dX5_digest_53
      · refine lv_iconst (v := (-1)) hx hb dX5_digest_30 (by decide) ?_
        exact fw_reti C hr hlk rfl hP hS (⟨(di_f (Or.inr (by rw [n_of_nI (by omega)]; exact fIn_geL (by omega) c_27))).symm, hR0, hf0⟩) (Nat.le_of_ble_eq_true rfl) (Nat.le_of_ble_eq_true rfl) dX5_digest_31
set_option maxHeartbeats 8000000 in
set_option maxRecDepth 100000 in
theorem k_X5_listed (l : Launch) (Γ : FG) (w : FW) (σ : St) (th : Int32) (kx : Int32) (hI : Inv σ) (hR : Rm σ th w) : Met l yX5_listed (ws_ yX5_listed cX5_listed 2 (some .int)) (rmD 12 0 0) (va_Pc [.ref (w.1 20 0), .int kx] (fI Γ w)) (va_Qi (fun r w1 => r = a_listed σ kx ∧ Rm σ 0 w1 ∧ frm w w1) (fI Γ) (fA Γ)) 0 0 (fA Γ) := by
  refine fw_met (by decide) (Nat.le_of_ble_eq_true rfl) ?_
  intro p e s m below meth c ls C hP hS hr hlk hin hl
  have C : fC p s m [.ref (w.1 20 0), .int kx].toArray c cX5_listed 2 RX5 Γ := C
  have hx := C.1.1
  have hb := C.1.2.1
  have hl : lv_has ls 2 [(0, .ref (w.1 20 0)), (1, .int kx)] := hl
  obtain ⟨⟨hnp, hnr, hnt, hns, hnw, hck0, hck1⟩, hIr, hIt, hIb, hIn, hIs, hIg, hIw, hIa⟩ := id hI
  obtain ⟨z0, n20, nA, nT, nS, nO, nH⟩ := id hR
  refine lv_aload_n hx hb dX5_listed_0 rfl (lv_at hl 0 rfl) ?_
  refine lv_iconst (v := 0) hx hb dX5_listed_1 (by decide) ?_
  refine pf_X5_84 C hP hS rfl rfl n20 rfl (Nat.le_of_ble_eq_true rfl) dX5_listed_2 (fun H locs hP hS => ?_)
  have hP : fP Γ (fset w 20 0 (oO 5 [.int (nI (s_np σ)), .int (nI (s_nr σ)), .ref (w.1 32 0), .ref (w.1 33 0), .ref (w.1 34 0), .ref (w.1 35 0), .int (nI (s_nt σ)), .ref (w.1 37 0), .ref (w.1 38 0), .ref (w.1 39 0), .ref (w.1 40 0), .ref (w.1 41 0), .ref (w.1 42 0), .ref (w.1 43 0), .ref (w.1 44 0), .int (nI (s_ns σ)), .ref (w.1 46 0), .ref (w.1 47 0), .ref (w.1 48 0), .ref (w.1 49 0), .ref (w.1 50 0), .int (nI (s_nw σ)), .ref (w.1 52 0), .ref (w.1 53 0), .long (s_ck σ), .int 0, .int (b2i z0), .ref (w.1 57 0), .ref (w.1 58 0), .ref (w.1 59 0), .ref (w.1 60 0), .ref (w.1 61 0)])) H := hP
  obtain ⟨u0, hu0⟩ : ∃ u, u = ((fset w 20 0 (oO 5 [.int (nI (s_np σ)), .int (nI (s_nr σ)), .ref (w.1 32 0), .ref (w.1 33 0), .ref (w.1 34 0), .ref (w.1 35 0), .int (nI (s_nt σ)), .ref (w.1 37 0), .ref (w.1 38 0), .ref (w.1 39 0), .ref (w.1 40 0), .ref (w.1 41 0), .ref (w.1 42 0), .ref (w.1 43 0), .ref (w.1 44 0), .int (nI (s_ns σ)), .ref (w.1 46 0), .ref (w.1 47 0), .ref (w.1 48 0), .ref (w.1 49 0), .ref (w.1 50 0), .int (nI (s_nw σ)), .ref (w.1 52 0), .ref (w.1 53 0), .long (s_ck σ), .int 0, .int (b2i z0), .ref (w.1 57 0), .ref (w.1 58 0), .ref (w.1 59 0), .ref (w.1 60 0), .ref (w.1 61 0)]))).2 := ⟨_, rfl⟩
  have hw0 : (fset w 20 0 (oO 5 [.int (nI (s_np σ)), .int (nI (s_nr σ)), .ref (w.1 32 0), .ref (w.1 33 0), .ref (w.1 34 0), .ref (w.1 35 0), .int (nI (s_nt σ)), .ref (w.1 37 0), .ref (w.1 38 0), .ref (w.1 39 0), .ref (w.1 40 0), .ref (w.1 41 0), .ref (w.1 42 0), .ref (w.1 43 0), .ref (w.1 44 0), .int (nI (s_ns σ)), .ref (w.1 46 0), .ref (w.1 47 0), .ref (w.1 48 0), .ref (w.1 49 0), .ref (w.1 50 0), .int (nI (s_nw σ)), .ref (w.1 52 0), .ref (w.1 53 0), .long (s_ck σ), .int 0, .int (b2i z0), .ref (w.1 57 0), .ref (w.1 58 0), .ref (w.1 59 0), .ref (w.1 60 0), .ref (w.1 61 0)])) = (w.1, u0) := by rw [hu0]; rfl
  rw [hw0] at hP
  have hR0 : Rm σ 0 (w.1, u0) := by rw [← hw0]; exact Rm_th0 nA nT nS nO nH
  have hf0 : frm w (w.1, u0) := by rw [← hw0]; exact frm_set (by decide)
  clear hw0 hu0 n20 nA nT nS nO nH
  obtain ⟨z, m20, mA, mT, mS, mO, mH⟩ := id hR0
  obtain ⟨⟨f32, g32, v32⟩, ⟨f33, g33, v33⟩, ⟨f34, g34, v34⟩, ⟨f35, g35, v35⟩⟩ := id mA
  obtain ⟨⟨f37, g37, v37⟩, ⟨f38, g38, v38⟩, ⟨f39, g39, v39⟩, ⟨f40, g40, v40⟩, ⟨f41, g41, v41⟩, ⟨f42, g42, v42⟩, ⟨f43, g43, v43⟩, ⟨f44, g44, v44⟩⟩ := id mT
  obtain ⟨⟨f46, g46, v46⟩, ⟨f47, g47, v47⟩, ⟨f48, g48, v48⟩, ⟨f49, g49, v49⟩, ⟨f50, g50, v50⟩, ⟨f52, g52, v52⟩⟩ := id mS
  obtain ⟨f53, g53, v53⟩ := id mO
  obtain ⟨⟨f57, g57, v57⟩, ⟨f58, g58, v58⟩, ⟨f59, g59⟩, ⟨f60, g60⟩, ⟨f61, g61⟩⟩ := id mH
  refine lv_iload_n hx hb dX5_listed_5 rfl (lv_at hl 1 rfl) ?_
  refine lv_if_lt (tgt := 17) hx hb dX5_listed_6 (by decide) (fun c_6 => ?_) (fun c_6 => ?_)
  · refine lv_iconst (v := (-1)) hx hb dX5_listed_17 (by decide) ?_
    refine lv_goto (tgt := 27) hx hb dX5_listed_18 (by decide) ?_
    exact fw_reti C hr hlk rfl hP hS (⟨(li_f (fIn_lt c_6)).symm, hR0, hf0⟩) (Nat.le_of_ble_eq_true rfl) (Nat.le_of_ble_eq_true rfl) dX5_listed_27
  · refine lv_iload_n hx hb dX5_listed_9 rfl (lv_at hl 1 rfl) ?_
    refine lv_aload_n hx hb dX5_listed_10 rfl (lv_at hl 0 rfl) ?_
    refine gf_X5_137 C hP m20 rfl rfl dX5_listed_11 ?_
    refine lv_icmp_lt (tgt := 21) hx hb dX5_listed_14 (by decide) (fun c_14 => ?_) (fun c_14 => ?_)
    · have hnw4 : s_nw σ ≤ 400 := by rw [hnw]; exact Nat.le_trans (fb_ct_le _ _) hns
      obtain ⟨kk, hkk, rfl⟩ := fIn_t (fIn_inL (n := s_nw σ) (by omega) c_6 c_14) (by omega)
      refine lv_aload_n hx hb dX5_listed_21 rfl (lv_at hl 0 rfl) ?_
      refine gf_X5_63 C hP m20 rfl rfl dX5_listed_22 ?_
      refine lv_iload_n hx hb dX5_listed_25 rfl (lv_at hl 1 rfl) ?_
      refine fw_iald C hP g52 rfl kk rfl (by omega) (by decide) dX5_listed_26 ?_
      refine fw_E (show f52 kk = nI (s_wl σ kk) from v52 kk (by omega)) ?_
      exact fw_reti C hr hlk rfl hP hS (⟨(li_t hkk hnw4).symm, hR0, hf0⟩) (Nat.le_of_ble_eq_true rfl) (Nat.le_of_ble_eq_true rfl) dX5_listed_27
    · refine lv_iconst (v := (-1)) hx hb dX5_listed_17 (by decide) ?_
      refine lv_goto (tgt := 27) hx hb dX5_listed_18 (by decide) ?_
      have hnw4 : s_nw σ ≤ 400 := by rw [hnw]; exact Nat.le_trans (fb_ct_le _ _) hns
      exact fw_reti C hr hlk rfl hP hS ⟨(li_f (fIn_geL (by omega) c_14)).symm, hR0, hf0⟩ (Nat.le_of_ble_eq_true rfl) (Nat.le_of_ble_eq_true rfl) dX5_listed_27
set_option maxHeartbeats 8000000 in
set_option maxRecDepth 100000 in
theorem k_X5_needs (l : Launch) (Γ : FG) (w : FW) (σ : St) (th : Int32) (tx mx : Int32) (hI : Inv σ) (hR : Rm σ th w) : Met l yX5_needs (ws_ yX5_needs cX5_needs 5 (some .int)) (rmD 12 0 0) (va_Pc [.ref (w.1 20 0), .int tx, .int mx] (fI Γ w)) (va_Qi (fun r w1 => r = a_needs σ tx mx ∧ Rm (n_needs σ tx mx) 0 w1 ∧ frm w w1) (fI Γ) (fA Γ)) 0 0 (fA Γ) := by
  refine fw_met (by decide) (Nat.le_of_ble_eq_true rfl) ?_
  intro p e s m below meth c ls C hP hS hr hlk hin hl
  have C : fC p s m [.ref (w.1 20 0), .int tx, .int mx].toArray c cX5_needs 5 RX5 Γ := C
  have hx := C.1.1
  have hb := C.1.2.1
  have hl : lv_has ls 5 [(0, .ref (w.1 20 0)), (1, .int tx), (2, .int mx)] := hl
  obtain ⟨⟨hnp, hnr, hnt, hns, hnw, hck0, hck1⟩, hIr, hIt, hIb, hIn, hIs, hIg, hIw, hIa⟩ := id hI
  obtain ⟨z0, n20, nA, nT, nS, nO, nH⟩ := id hR
  refine lv_aload_n hx hb dX5_needs_0 rfl (lv_at hl 0 rfl) ?_
  refine lv_iconst (v := 0) hx hb dX5_needs_1 (by decide) ?_
  refine pf_X5_84 C hP hS rfl rfl n20 rfl (Nat.le_of_ble_eq_true rfl) dX5_needs_2 (fun H locs hP hS => ?_)
  have hP : fP Γ (fset w 20 0 (oO 5 [.int (nI (s_np σ)), .int (nI (s_nr σ)), .ref (w.1 32 0), .ref (w.1 33 0), .ref (w.1 34 0), .ref (w.1 35 0), .int (nI (s_nt σ)), .ref (w.1 37 0), .ref (w.1 38 0), .ref (w.1 39 0), .ref (w.1 40 0), .ref (w.1 41 0), .ref (w.1 42 0), .ref (w.1 43 0), .ref (w.1 44 0), .int (nI (s_ns σ)), .ref (w.1 46 0), .ref (w.1 47 0), .ref (w.1 48 0), .ref (w.1 49 0), .ref (w.1 50 0), .int (nI (s_nw σ)), .ref (w.1 52 0), .ref (w.1 53 0), .long (s_ck σ), .int 0, .int (b2i z0), .ref (w.1 57 0), .ref (w.1 58 0), .ref (w.1 59 0), .ref (w.1 60 0), .ref (w.1 61 0)])) H := hP
  obtain ⟨u0, hu0⟩ : ∃ u, u = ((fset w 20 0 (oO 5 [.int (nI (s_np σ)), .int (nI (s_nr σ)), .ref (w.1 32 0), .ref (w.1 33 0), .ref (w.1 34 0), .ref (w.1 35 0), .int (nI (s_nt σ)), .ref (w.1 37 0), .ref (w.1 38 0), .ref (w.1 39 0), .ref (w.1 40 0), .ref (w.1 41 0), .ref (w.1 42 0), .ref (w.1 43 0), .ref (w.1 44 0), .int (nI (s_ns σ)), .ref (w.1 46 0), .ref (w.1 47 0), .ref (w.1 48 0), .ref (w.1 49 0), .ref (w.1 50 0), .int (nI (s_nw σ)), .ref (w.1 52 0), .ref (w.1 53 0), .long (s_ck σ), .int 0, .int (b2i z0), .ref (w.1 57 0), .ref (w.1 58 0), .ref (w.1 59 0), .ref (w.1 60 0), .ref (w.1 61 0)]))).2 := ⟨_, rfl⟩
  have hw0 : (fset w 20 0 (oO 5 [.int (nI (s_np σ)), .int (nI (s_nr σ)), .ref (w.1 32 0), .ref (w.1 33 0), .ref (w.1 34 0), .ref (w.1 35 0), .int (nI (s_nt σ)), .ref (w.1 37 0), .ref (w.1 38 0), .ref (w.1 39 0), .ref (w.1 40 0), .ref (w.1 41 0), .ref (w.1 42 0), .ref (w.1 43 0), .ref (w.1 44 0), .int (nI (s_ns σ)), .ref (w.1 46 0), .ref (w.1 47 0), .ref (w.1 48 0), .ref (w.1 49 0), .ref (w.1 50 0), .int (nI (s_nw σ)), .ref (w.1 52 0), .ref (w.1 53 0), .long (s_ck σ), .int 0, .int (b2i z0), .ref (w.1 57 0), .ref (w.1 58 0), .ref (w.1 59 0), .ref (w.1 60 0), .ref (w.1 61 0)])) = (w.1, u0) := by rw [hu0]; rfl
  rw [hw0] at hP
  have hR0 : Rm σ 0 (w.1, u0) := by rw [← hw0]; exact Rm_th0 nA nT nS nO nH
  have hf0 : frm w (w.1, u0) := by rw [← hw0]; exact frm_set (by decide)
  clear hw0 hu0 n20 nA nT nS nO nH
  obtain ⟨z, m20, mA, mT, mS, mO, mH⟩ := id hR0
  obtain ⟨⟨f32, g32, v32⟩, ⟨f33, g33, v33⟩, ⟨f34, g34, v34⟩, ⟨f35, g35, v35⟩⟩ := id mA
  obtain ⟨⟨f37, g37, v37⟩, ⟨f38, g38, v38⟩, ⟨f39, g39, v39⟩, ⟨f40, g40, v40⟩, ⟨f41, g41, v41⟩, ⟨f42, g42, v42⟩, ⟨f43, g43, v43⟩, ⟨f44, g44, v44⟩⟩ := id mT
  obtain ⟨⟨f46, g46, v46⟩, ⟨f47, g47, v47⟩, ⟨f48, g48, v48⟩, ⟨f49, g49, v49⟩, ⟨f50, g50, v50⟩, ⟨f52, g52, v52⟩⟩ := id mS
  obtain ⟨f53, g53, v53⟩ := id mO
  obtain ⟨⟨f57, g57, v57⟩, ⟨f58, g58, v58⟩, ⟨f59, g59⟩, ⟨f60, g60⟩, ⟨f61, g61⟩⟩ := id mH
  refine lv_aload_n hx hb dX5_needs_5 rfl (lv_at hl 0 rfl) ?_
  refine lv_iload_n hx hb dX5_needs_6 rfl (lv_at hl 1 rfl) ?_
  refine fw_ci0 (w := (w.1, u0)) hS (fw_rV (rest := []) (As := [.int tx]) C hP hS wV_X5_114 (k_X5_isThing l Γ (w.1, u0) σ 0 z tx hnt m20) m20 rfl rfl (fRm_mk rfl rfl (Nat.le_of_ble_eq_true rfl) (Nat.le_of_ble_eq_true rfl) (Nat.le_of_ble_eq_true rfl) (Nat.le_of_ble_eq_true rfl) (Nat.le_of_ble_eq_true rfl)) rfl hl.1 rfl dX5_needs_7) (fun H locs hP hS => ?_)
  refine fw_ieqB (tgt := 20) hx hb dX5_needs_10 (by decide) (fun c_10 => ?_) (fun c_10 => ?_)
  · refine lv_iconst (v := (-1)) hx hb dX5_needs_20 (by decide) ?_
    exact fw_reti C hr hlk rfl hP hS (⟨(ne_f (Or.inl c_10)).1.symm, by rw [(ne_f (Or.inl c_10)).2]; exact hR0, hf0⟩) (Nat.le_of_ble_eq_true rfl) (Nat.le_of_ble_eq_true rfl) dX5_needs_21
  · obtain ⟨tt, htt, rfl⟩ := fIn_t c_10 (by omega)
    refine lv_iload_n hx hb dX5_needs_13 rfl (lv_at hl 2 rfl) ?_
    refine fw_ci0 (w := (w.1, u0)) hS (fw_rS (rest := []) (As := [.int mx]) C hP hS wS_X5_100 (k_X5_isTen l Γ (w.1, u0) mx) (fRm_mk rfl rfl (Nat.le_of_ble_eq_true rfl) (Nat.le_of_ble_eq_true rfl) (Nat.le_of_ble_eq_true rfl) (Nat.le_of_ble_eq_true rfl) (Nat.le_of_ble_eq_true rfl)) rfl hl.1 rfl dX5_needs_14) (fun H locs hP hS => ?_)
    refine fw_ineB (tgt := 22) hx hb dX5_needs_17 (by decide) (fun c_17 => ?_) (fun c_17 => ?_)
    · obtain ⟨mm, hmm, rfl⟩ := fIn_t c_17 (by omega)
      obtain ⟨hln, hcn, hdn, hmk, -⟩ := hIt tt
      refine lv_aload_n hx hb dX5_needs_22 rfl (lv_at hl 0 rfl) ?_
      refine gf_X5_41 C hP m20 rfl rfl dX5_needs_23 ?_
      refine lv_iload_n hx hb dX5_needs_26 rfl (lv_at hl 1 rfl) ?_
      refine fw_iald C hP g43 rfl tt rfl (by omega) (by decide) dX5_needs_27 ?_
      refine fw_E (show f43 tt = nI (s_dn σ tt) from v43 tt (by omega)) ?_
      refine lv_istore_n (lv' := [(3, .int (nI (s_dn σ tt))), (0, .ref (w.1 20 0)), (1, .int (nI tt)), (2, .int (nI mm))]) hx hb dX5_needs_28 rfl hl (by decide) rfl (fun ls hl => ?_)
      refine lv_iconst (v := nI 0) hx hb dX5_needs_29 (by decide) ?_
      refine lv_istore (lv' := [(4, .int (nI 0)), (3, .int (nI (s_dn σ tt))), (0, .ref (w.1 20 0)), (1, .int (nI tt)), (2, .int (nI mm))]) hx hb dX5_needs_30 hl (by decide) rfl (fun ls hl => ?_)
      refine W.widen (k := 0) (n := 0) (Nat.le_of_ble_eq_true rfl) (Nat.le_of_ble_eq_true rfl) ?_
      have loop : ∀ (fu : Nat) (i : Nat) (H : Heap) (locs : List Loc) (ls : Array Slot), 11 - i < fu → (i ≤ s_dn σ tt) → (∀ j, j < i → s_nd σ tt j ≠ mm) → fP Γ (w.1, u0) H → va_S (fA Γ) s.heap H locs → lv_has ls 5 [(4, .int (nI i)), (3, .int (nI (s_dn σ tt))), (0, .ref (w.1 20 0)), (1, .int (nI tt)), (2, .int (nI mm))] → W p l e (rmD 12 0 0) s m [.ref (w.1 20 0), .int (nI tt), .int (nI mm)].toArray below meth c H locs 0 0 (MQ below (va_Qi (fun r w1 => r = a_needs σ (nI tt) (nI mm) ∧ Rm (n_needs σ (nI tt) (nI mm)) 0 w1 ∧ frm w w1) (fI Γ) (fA Γ)) [.ref (w.1 20 0), .int (nI tt), .int (nI mm)].toArray s 0 0 (fA Γ)) (F0 m 32 ls []) := by
        intro fu
        induction fu with
        | zero =>
          intro i H locs ls hf
          exact absurd hf (Nat.not_lt_zero _)
        | succ fu ih =>
          intro i H locs ls hf hi hz hP hS hl
          have hnd9 := (hIb tt i).2.2
          refine lv_iload hx hb dX5_needs_32 (lv_at hl 0 rfl) ?_
          refine lv_iload_n hx hb dX5_needs_34 rfl (lv_at hl 1 rfl) ?_
          refine fw_geN (tgt := 63) hx hb (by omega) (by omega) dX5_needs_35 (by decide) (fun c_35 => ?_) (fun c_35 => ?_)
          · have hdn9 : s_dn σ tt ≠ 10 := fun q => by
              obtain ⟨j9, hj9, hq9⟩ := ne_ten hI hmm q
              exact hz j9 (by omega) hq9
            refine lv_aload_n hx hb dX5_needs_63 rfl (lv_at hl 2 rfl) ?_
            refine gf_X5_44 C hP m20 rfl rfl dX5_needs_64 ?_
            refine lv_bipush (v := nI 10) hx hb dX5_needs_67 (by decide) ?_
            refine lv_iload_n hx hb dX5_needs_69 rfl (lv_at hl 3 rfl) ?_
            refine fw_mulN hx hb dX5_needs_70 ?_
            refine lv_iload_n hx hb dX5_needs_71 rfl (lv_at hl 1 rfl) ?_
            refine fw_addN hx hb dX5_needs_72 ?_
            refine lv_iload_n hx hb dX5_needs_73 rfl (lv_at hl 4 rfl) ?_
            refine fw_iast C hP hS g44 rfl (10 * tt + (s_dn σ tt)) rfl (by omega) (by decide) dX5_needs_74 (fun H locs hP hS => ?_)
            have hP : fP Γ (fset (w.1, u0) 44 0 (aI 1 160 (upd f44 (10 * tt + (s_dn σ tt)) (nI mm)))) H := hP
            refine lv_aload_n hx hb dX5_needs_75 rfl (lv_at hl 2 rfl) ?_
            refine gf_X5_41 C hP ((fset_ne (by decide)).trans m20) rfl rfl dX5_needs_76 ?_
            refine lv_iload_n hx hb dX5_needs_79 rfl (lv_at hl 3 rfl) ?_
            refine lv_dup2_11 hx hb dX5_needs_80 rfl rfl ?_
            refine fw_iald C hP ((fset_ne (by decide)).trans g43) rfl tt rfl (by omega) (by decide) dX5_needs_81 ?_
            refine fw_E (show f43 tt = nI (s_dn σ tt) from v43 tt (by omega)) ?_
            refine lv_iconst (v := nI 1) hx hb dX5_needs_82 (by decide) ?_
            refine fw_addN hx hb dX5_needs_83 ?_
            refine fw_iast C hP hS ((fset_ne (by decide)).trans g43) rfl tt rfl (by omega) (by decide) dX5_needs_84 (fun H locs hP hS => ?_)
            have hP : fP Γ (fset (fset (w.1, u0) 44 0 (aI 1 160 (upd f44 (10 * tt + (s_dn σ tt)) (nI mm)))) 43 0 (aI 1 16 (upd f43 tt (nI (s_dn σ tt + 1))))) H := hP
            refine lv_iload_n hx hb dX5_needs_85 rfl (lv_at hl 1 rfl) ?_
            have hok := ne_new c_10 c_17 (by omega) (by omega) (fun j hj => hz j (by omega))
            exact fw_reti C hr hlk rfl hP hS (⟨hok.1.symm, by rw [hok.2]; exact ⟨z, ((fset_ne (by decide)).trans ((fset_ne (by decide)).trans m20)), ⟨⟨_, ((fset_ne (by decide)).trans ((fset_ne (by decide)).trans g32)), v32⟩, ⟨_, ((fset_ne (by decide)).trans ((fset_ne (by decide)).trans g33)), v33⟩, ⟨_, ((fset_ne (by decide)).trans ((fset_ne (by decide)).trans g34)), v34⟩, ⟨_, ((fset_ne (by decide)).trans ((fset_ne (by decide)).trans g35)), v35⟩⟩, ⟨⟨_, ((fset_ne (by decide)).trans ((fset_ne (by decide)).trans g37)), v37⟩, ⟨_, ((fset_ne (by decide)).trans ((fset_ne (by decide)).trans g38)), v38⟩, ⟨_, ((fset_ne (by decide)).trans ((fset_ne (by decide)).trans g39)), v39⟩, ⟨_, ((fset_ne (by decide)).trans ((fset_ne (by decide)).trans g40)), v40⟩, ⟨_, ((fset_ne (by decide)).trans ((fset_ne (by decide)).trans g41)), v41⟩, ⟨_, ((fset_ne (by decide)).trans ((fset_ne (by decide)).trans g42)), v42⟩, ⟨_, fset_at, up_T v43⟩, ⟨_, ((fset_ne (by decide)).trans fset_at), up_R (by omega) (fun t ht => (hIt t).2.2.1) (by omega) v44⟩⟩, ⟨⟨_, ((fset_ne (by decide)).trans ((fset_ne (by decide)).trans g46)), v46⟩, ⟨_, ((fset_ne (by decide)).trans ((fset_ne (by decide)).trans g47)), v47⟩, ⟨_, ((fset_ne (by decide)).trans ((fset_ne (by decide)).trans g48)), v48⟩, ⟨_, ((fset_ne (by decide)).trans ((fset_ne (by decide)).trans g49)), v49⟩, ⟨_, ((fset_ne (by decide)).trans ((fset_ne (by decide)).trans g50)), v50⟩, ⟨_, ((fset_ne (by decide)).trans ((fset_ne (by decide)).trans g52)), v52⟩⟩, ⟨_, ((fset_ne (by decide)).trans ((fset_ne (by decide)).trans g53)), v53⟩, ⟨⟨_, ((fset_ne (by decide)).trans ((fset_ne (by decide)).trans g57)), v57⟩, ⟨_, ((fset_ne (by decide)).trans ((fset_ne (by decide)).trans g58)), v58⟩, ⟨_, ((fset_ne (by decide)).trans ((fset_ne (by decide)).trans g59))⟩, ⟨_, ((fset_ne (by decide)).trans ((fset_ne (by decide)).trans g60))⟩, ⟨_, ((fset_ne (by decide)).trans ((fset_ne (by decide)).trans g61))⟩⟩⟩, (frm_tr (frm_tr hf0 (frm_set (by decide))) (frm_set (by decide)))⟩) (Nat.le_of_ble_eq_true rfl) (Nat.le_of_ble_eq_true rfl) dX5_needs_86
          · refine lv_aload_n hx hb dX5_needs_38 rfl (lv_at hl 2 rfl) ?_
            refine gf_X5_44 C hP m20 rfl rfl dX5_needs_39 ?_
            refine lv_bipush (v := nI 10) hx hb dX5_needs_42 (by decide) ?_
            refine lv_iload_n hx hb dX5_needs_44 rfl (lv_at hl 3 rfl) ?_
            refine fw_mulN hx hb dX5_needs_45 ?_
            refine lv_iload hx hb dX5_needs_46 (lv_at hl 0 rfl) ?_
            refine fw_addN hx hb dX5_needs_48 ?_
            refine fw_iald C hP g44 rfl (10 * tt + i) rfl (by omega) (by decide) dX5_needs_49 ?_
            refine fw_E (show f44 (10 * tt + i) = nI (s_nd σ tt i) from v44 tt (by omega) i (by omega)) ?_
            refine lv_iload_n hx hb dX5_needs_50 rfl (lv_at hl 4 rfl) ?_
            refine fw_neN (tgt := 57) hx hb (by omega) (by omega) dX5_needs_51 (by decide) (fun c_51 => ?_) (fun c_51 => ?_)
            · refine lv_iinc (v := nI (i + 1)) (lv' := [(4, .int (nI (i + 1))), (3, .int (nI (s_dn σ tt))), (0, .ref (w.1 20 0)), (1, .int (nI tt)), (2, .int (nI mm))]) hx hb dX5_needs_57 hl (k := 0) rfl (by rw [show Int32.ofInt 1 = nI 1 from rfl, nI_add]) (by decide) rfl (fun ls hl => ?_)
              refine lv_goto (tgt := 32) hx hb dX5_needs_60 (by decide) ?_
              refine W.widen (k := 0) (n := 0) (Nat.le_of_ble_eq_true rfl) (Nat.le_of_ble_eq_true rfl) ?_
              exact ih (i + 1) H locs ls (by omega) (by omega) (lt_s hz c_51) hP hS (lv_sub hl [0, 1, 2, 3, 4] rfl)
            · refine lv_iload hx hb dX5_needs_54 (lv_at hl 0 rfl) ?_
              exact fw_reti C hr hlk rfl hP hS (⟨(ne_in c_10 c_17 (by omega) (by omega) c_51 hz (by omega)).1.symm, by rw [(ne_in c_10 c_17 (by omega) (by omega) c_51 hz (by omega)).2]; exact hR0, hf0⟩) (Nat.le_of_ble_eq_true rfl) (Nat.le_of_ble_eq_true rfl) dX5_needs_56
      exact loop 12 0 _ _ _ (by omega) (by omega) (fun j hj => absurd hj (Nat.not_lt_zero j)) hP hS (lv_sub hl [0, 1, 2, 3, 4] rfl)
    · refine lv_iconst (v := (-1)) hx hb dX5_needs_20 (by decide) ?_
      exact fw_reti C hr hlk rfl hP hS (⟨(ne_f (Or.inr c_17)).1.symm, by rw [(ne_f (Or.inr c_17)).2]; exact hR0, hf0⟩) (Nat.le_of_ble_eq_true rfl) (Nat.le_of_ble_eq_true rfl) dX5_needs_21
