theorem dg_up {n u : Nat} {d f : Nat → Int32} {g : Nat → Nat → Int32} (h1 : ∀ j, j < 8 → d (8 * u + j) = g u j) (h2 : ∀ i, ¬ (8 * u ≤ i ∧ i < 8 * u + 8) → d i = f i) (h3 : ∀ t, t < n → t ≠ u → ∀ j, j < 8 → f (8 * t + j) = g t j) : ∀ t, t < n → ∀ j, j < 8 → d (8 * t + j) = g t j := by
  intro t ht j hj
  by_cases e : t = u
  · subst e; exact h1 j hj
  · rw [h2 _ (by omega)]; exact h3 t ht e j hj
theorem dg_ne {σ : St} {u v b t : Nat} (h : t ≠ u) : shD (f2 (s_by σ) u v b t) (va_up (s_ln σ) u (v + 1) t) = s_dg σ t := by
  have e1 : f2 (s_by σ) u v b t = s_by σ t := funext fun _ => f2_k h
  rw [e1, va_up_ne _ _ h]
  rfl
set_option maxHeartbeats 8000000 in
set_option maxRecDepth 100000 in
theorem k_X5_thing (l : Launch) (Γ : FG) (w : FW) (σ : St) (th : Int32) (px : Int32) (hI : Inv σ) (hR : Rm σ th w) : Met l yX5_thing (ws_ yX5_thing cX5_thing 2 (some .int)) (rmD 12 0 0) (va_Pc [.ref (w.1 20 0), .int px] (fI Γ w)) (va_Qi (fun r w1 => r = a_thing σ px ∧ Rm (n_thing σ px) 0 w1 ∧ frm w w1) (fI Γ) (fA Γ)) 0 0 (fA Γ) := by
  refine fw_met (by decide) (Nat.le_of_ble_eq_true rfl) ?_
  intro p e s m below meth c ls C hP hS hr hlk hin hl
  have C : fC p s m [.ref (w.1 20 0), .int px].toArray c cX5_thing 2 RX5 Γ := C
  have hx := C.1.1
  have hb := C.1.2.1
  have hl : lv_has ls 2 [(0, .ref (w.1 20 0)), (1, .int px)] := hl
  obtain ⟨⟨hnp, hnr, hnt, hns, hnw, hck0, hck1⟩, hIr, hIt, hIb, hIn, hIs, hIg, hIw, hIa⟩ := id hI
  obtain ⟨z0, n20, nA, nT, nS, nO, nH⟩ := id hR
  refine lv_aload_n hx hb dX5_thing_0 rfl (lv_at hl 0 rfl) ?_
  refine lv_iconst (v := 0) hx hb dX5_thing_1 (by decide) ?_
  refine pf_X5_84 C hP hS rfl rfl n20 rfl (Nat.le_of_ble_eq_true rfl) dX5_thing_2 (fun H locs hP hS => ?_)
  have hP : fP Γ (fset w 20 0 (oO 5 [.int (nI (s_np σ)), .int (nI (s_nr σ)), .ref (w.1 32 0), .ref (w.1 33 0), .ref (w.1 34 0), .ref (w.1 35 0), .int (nI (s_nt σ)), .ref (w.1 37 0), .ref (w.1 38 0), .ref (w.1 39 0), .ref (w.1 40 0), .ref (w.1 41 0), .ref (w.1 42 0), .ref (w.1 43 0), .ref (w.1 44 0), .int (nI (s_ns σ)), .ref (w.1 46 0), .ref (w.1 47 0), .ref (w.1 48 0), .ref (w.1 49 0), .ref (w.1 50 0), .int (nI (s_nw σ)), .ref (w.1 52 0), .ref (w.1 53 0), .long (s_ck σ), .int 0, .int (b2i z0), .ref (w.1 57 0), .ref (w.1 58 0), .ref (w.1 59 0), .ref (w.1 60 0), .ref (w.1 61 0)])) H := hP
  obtain ⟨u0, hu0⟩ : ∃ u, u = ((fset w 20 0 (oO 5 [.int (nI (s_np σ)), .int (nI (s_nr σ)), .ref (w.1 32 0), .ref (w.1 33 0), .ref (w.1 34 0), .ref (w.1 35 0), .int (nI (s_nt σ)), .ref (w.1 37 0), .ref (w.1 38 0), .ref (w.1 39 0), .ref (w.1 40 0), .ref (w.1 41 0), .ref (w.1 42 0), .ref (w.1 43 0), .ref (w.1 44 0), .int (nI (s_ns σ)), .ref (w.1 46 0), .ref (w.1 47 0), .ref (w.1 48 0), .ref (w.1 49 0), .ref (w.1 50 0), .int (nI (s_nw σ)), .ref (w.1 52 0), .ref (w.1 53 0), .long (s_ck σ), .int 0, .int (b2i z0), .ref (w.1 57 0), .ref (w.1 58 0), .ref (w.1 59 0), .ref (w.1 60 0), .ref (w.1 61 0)]))).2 := ⟨_, rfl⟩
  have hw0 : (fset w 20 0 (oO 5 [.int (nI (s_np σ)), .int (nI (s_nr σ)), .ref (w.1 32 0), .ref (w.1 33 0), .ref (w.1 34 0), .ref (w.1 35 0), .int (nI (s_nt σ)), .ref (w.1 37 0), .ref (w.1 38 0), .ref (w.1 39 0), .ref (w.1 40 0), .ref (w.1 41 0), .ref (w.1 42 0), .ref (w.1 43 0), .ref (w.1 44 0), .int (nI (s_ns σ)), .ref (w.1 46 0), .ref (w.1 47 0), .ref (w.1 48 0), .ref (w.1 49 0), .ref (w.1 50 0), .int (nI (s_nw σ)), .ref (w.1 52 0), .ref (w.1 53 0), .long (s_ck σ), .int 0, .int (b2i z0), .ref (w.1 57 0), .ref (w.1 58 0), .ref (w.1 59 0), .ref (w.1 60 0), .ref (w.1 61 0)])) = (w.1, u0) := by rw [hu0]; rfl
  rw [hw0] at hP
  have hR0 : Rm σ 0 (w.1, u0) := by rw [← hw0]; exact Rm_th0 nA nT nS nO nH
  have hf0 : frm w (w.1, u0) := by rw [← hw0]; exact frm_set (by decide)
  clear hw0 hu0 n20 nA nT nS nO nH
  obtain ⟨z, m20, mA, mT, mS, mO, mH⟩ := id hR0
  obtain ⟨⟨f32, g32, v32⟩, ⟨f33, g33, v33⟩, ⟨f34, g34, v34⟩, ⟨f35, g35, v35⟩⟩ := id mA
  obtain ⟨⟨f37, g37, v37⟩, ⟨f38, g38, v38⟩, ⟨f39, g39, v39⟩, ⟨f40, g40, v40⟩, ⟨f41, g41, v41⟩, ⟨f42, g42, v42⟩, ⟨f43, g43, v43⟩, ⟨f44, g44, v44⟩⟩ := id mT
  obtain ⟨⟨f46, g46, v46⟩, ⟨f47, g47, v47⟩, ⟨f48, g48, v48⟩, ⟨f49, g49, v49⟩, ⟨f50, g50, v50⟩, ⟨f52, g52, v52⟩⟩ := id mS
  obtain ⟨f53, g53, v53⟩ := id mO
  obtain ⟨⟨f57, g57, v57⟩, ⟨f58, g58, v58⟩, ⟨f59, g59⟩, ⟨f60, g60⟩, ⟨f61, g61⟩⟩ := id mH
  refine lv_aload_n hx hb dX5_thing_5 rfl (lv_at hl 0 rfl) ?_
  refine lv_iload_n hx hb dX5_thing_6 rfl (lv_at hl 1 rfl) ?_
  refine fw_ci0 (w := (w.1, u0)) hS (fw_rV (rest := []) (As := [.int px]) C hP hS wV_X5_96 (k_X5_isPerson l Γ (w.1, u0) σ 0 z px hnp m20) m20 rfl rfl (fRm_mk rfl rfl (Nat.le_of_ble_eq_true rfl) (Nat.le_of_ble_eq_true rfl) (Nat.le_of_ble_eq_true rfl) (Nat.le_of_ble_eq_true rfl) (Nat.le_of_ble_eq_true rfl)) rfl hl.1 rfl dX5_thing_7) (fun H locs hP hS => ?_)
  refine fw_ineB (tgt := 15) hx hb dX5_thing_10 (by decide) (fun c_10 => ?_) (fun c_10 => ?_)
  · obtain ⟨pp, hpp, rfl⟩ := fIn_t c_10 (by omega)
    refine lv_aload_n hx hb dX5_thing_15 rfl (lv_at hl 0 rfl) ?_
    refine gf_X5_91 C hP m20 rfl rfl dX5_thing_16 ?_
    refine lv_bipush (v := nI 16) hx hb dX5_thing_19 (by decide) ?_
    refine fw_neN (tgt := 27) hx hb (by omega) (by omega) dX5_thing_21 (by decide) (fun c_21 => ?_) (fun c_21 => ?_)
    · refine lv_aload_n hx hb dX5_thing_27 rfl (lv_at hl 0 rfl) ?_
      refine gf_X5_23 C hP m20 rfl rfl dX5_thing_28 ?_
      refine lv_aload_n hx hb dX5_thing_31 rfl (lv_at hl 0 rfl) ?_
      refine gf_X5_91 C hP m20 rfl rfl dX5_thing_32 ?_
      refine lv_iload_n hx hb dX5_thing_35 rfl (lv_at hl 1 rfl) ?_
      refine fw_iast C hP hS g37 rfl (s_nt σ) rfl (by omega) (by decide) dX5_thing_36 (fun H locs hP hS => ?_)
      have hP : fP Γ (fset (w.1, u0) 37 0 (aI 1 16 (upd f37 (s_nt σ) (nI pp)))) H := hP
      refine lv_aload_n hx hb dX5_thing_37 rfl (lv_at hl 0 rfl) ?_
      refine lv_aload_n hx hb dX5_thing_38 rfl (lv_at hl 0 rfl) ?_
      refine gf_X5_91 C hP ((fset_ne (by decide)).trans m20) rfl rfl dX5_thing_39 ?_
      refine fw_cv hS (fw_rV (rest := []) (As := [.int (nI (s_nt σ))]) C hP hS wV_X5_110 (k_X5_reckon l Γ (fset (w.1, u0) 37 0 (aI 1 16 (upd f37 (s_nt σ) (nI pp)))) σ 0 z (s_nt σ) (s_ln σ (s_nt σ)) (s_by σ (s_nt σ)) _ _ (by omega) (hIt (s_nt σ)).1 ((fset_ne (by decide)).trans g38) (v38 (s_nt σ) (by omega)) ((fset_ne (by decide)).trans g40) (fun j hj => v40 (s_nt σ) (by omega) j hj) _ ((fset_ne (by decide)).trans g39) ((fset_ne (by decide)).trans m20) ⟨⟨_, ((fset_ne (by decide)).trans g57), v57⟩, ⟨_, ((fset_ne (by decide)).trans g58), v58⟩, ⟨_, ((fset_ne (by decide)).trans g59)⟩, ⟨_, ((fset_ne (by decide)).trans g60)⟩, ⟨_, ((fset_ne (by decide)).trans g61)⟩⟩) ((fset_ne (by decide)).trans m20) rfl rfl (fRm_mk rfl rfl (Nat.le_of_ble_eq_true rfl) (Nat.le_of_ble_eq_true rfl) (Nat.le_of_ble_eq_true rfl) (Nat.le_of_ble_eq_true rfl) (Nat.le_of_ble_eq_true rfl)) rfl hl.1 rfl dX5_thing_42) (fun w1 H locs hp hP hS => ?_)
      obtain ⟨ad1, u1⟩ := w1
      obtain ⟨ha1, hqfr, hq20, hqH, d39, hq39, hd1, hd2⟩ := hp
      have ha1 : ad1 = w.1 := ha1
      subst ha1
      have hf1 : frm w (w.1, u1) := ⟨rfl, fun k i h => (hqfr k i (by omega)).trans (((frm_tr hf0 (frm_set (by decide)))).2 k i h)⟩
      have hq20 : u1 20 0 = some (oMo σ w 0 true) := hq20
      obtain ⟨⟨f57, g57, v57⟩, ⟨f58, g58, v58⟩, ⟨f59, g59⟩, ⟨f60, g60⟩, ⟨f61, g61⟩⟩ := id hqH
      refine lv_aload_n hx hb dX5_thing_45 rfl (lv_at hl 0 rfl) ?_
      refine lv_dup hx hb dX5_thing_46 rfl ?_
      refine gf_X5_91 C hP hq20 rfl rfl dX5_thing_47 ?_
      refine lv_iconst (v := nI 1) hx hb dX5_thing_50 (by decide) ?_
      refine fw_addN hx hb dX5_thing_51 ?_
      refine pf_X5_91 C hP hS rfl rfl hq20 rfl (Nat.le_of_ble_eq_true rfl) dX5_thing_52 (fun H locs hP hS => ?_)
      have hP : fP Γ (fset (w.1, u1) 20 0 (oO 5 [.int (nI (s_np σ)), .int (nI (s_nr σ)), .ref (w.1 32 0), .ref (w.1 33 0), .ref (w.1 34 0), .ref (w.1 35 0), .int (nI (s_nt σ + 1)), .ref (w.1 37 0), .ref (w.1 38 0), .ref (w.1 39 0), .ref (w.1 40 0), .ref (w.1 41 0), .ref (w.1 42 0), .ref (w.1 43 0), .ref (w.1 44 0), .int (nI (s_ns σ)), .ref (w.1 46 0), .ref (w.1 47 0), .ref (w.1 48 0), .ref (w.1 49 0), .ref (w.1 50 0), .int (nI (s_nw σ)), .ref (w.1 52 0), .ref (w.1 53 0), .long (s_ck σ), .int 0, .int (b2i true), .ref (w.1 57 0), .ref (w.1 58 0), .ref (w.1 59 0), .ref (w.1 60 0), .ref (w.1 61 0)])) H := hP
      refine lv_aload_n hx hb dX5_thing_55 rfl (lv_at hl 0 rfl) ?_
      refine gf_X5_91 C hP fset_at rfl rfl dX5_thing_56 ?_
      refine lv_iconst (v := nI 1) hx hb dX5_thing_59 (by decide) ?_
      refine fw_subN hx hb (by omega) dX5_thing_60 ?_
      have hok := th_ok c_10 (by omega : s_nt σ ≠ 16) (by omega)
      exact fw_reti C hr hlk rfl hP hS (⟨by rw [hok.1, (by omega : s_nt σ + 1 - 1 = s_nt σ)], by rw [hok.2]; exact ⟨true, fset_at, ⟨⟨_, ((fset_ne (by decide)).trans ((hqfr 32 0 (by omega)).trans ((fset_ne (by decide)).trans g32))), v32⟩, ⟨_, ((fset_ne (by decide)).trans ((hqfr 33 0 (by omega)).trans ((fset_ne (by decide)).trans g33))), v33⟩, ⟨_, ((fset_ne (by decide)).trans ((hqfr 34 0 (by omega)).trans ((fset_ne (by decide)).trans g34))), v34⟩, ⟨_, ((fset_ne (by decide)).trans ((hqfr 35 0 (by omega)).trans ((fset_ne (by decide)).trans g35))), v35⟩⟩, ⟨⟨_, ((fset_ne (by decide)).trans ((hqfr 37 0 (by omega)).trans fset_at)), up_N v37⟩, ⟨_, ((fset_ne (by decide)).trans ((hqfr 38 0 (by omega)).trans ((fset_ne (by decide)).trans g38))), v38⟩, ⟨_, ((fset_ne (by decide)).trans hq39), dg_up (n := s_nt σ + 1) (g := s_dg σ) hd1 hd2 (fun t ht hne => v39 t (by omega))⟩, ⟨_, ((fset_ne (by decide)).trans ((hqfr 40 0 (by omega)).trans ((fset_ne (by decide)).trans g40))), v40⟩, ⟨_, ((fset_ne (by decide)).trans ((hqfr 41 0 (by omega)).trans ((fset_ne (by decide)).trans g41))), v41⟩, ⟨_, ((fset_ne (by decide)).trans ((hqfr 42 0 (by omega)).trans ((fset_ne (by decide)).trans g42))), v42⟩, ⟨_, ((fset_ne (by decide)).trans ((hqfr 43 0 (by omega)).trans ((fset_ne (by decide)).trans g43))), v43⟩, ⟨_, ((fset_ne (by decide)).trans ((hqfr 44 0 (by omega)).trans ((fset_ne (by decide)).trans g44))), v44⟩⟩, ⟨⟨_, ((fset_ne (by decide)).trans ((hqfr 46 0 (by omega)).trans ((fset_ne (by decide)).trans g46))), v46⟩, ⟨_, ((fset_ne (by decide)).trans ((hqfr 47 0 (by omega)).trans ((fset_ne (by decide)).trans g47))), v47⟩, ⟨_, ((fset_ne (by decide)).trans ((hqfr 48 0 (by omega)).trans ((fset_ne (by decide)).trans g48))), v48⟩, ⟨_, ((fset_ne (by decide)).trans ((hqfr 49 0 (by omega)).trans ((fset_ne (by decide)).trans g49))), v49⟩, ⟨_, ((fset_ne (by decide)).trans ((hqfr 50 0 (by omega)).trans ((fset_ne (by decide)).trans g50))), v50⟩, ⟨_, ((fset_ne (by decide)).trans ((hqfr 52 0 (by omega)).trans ((fset_ne (by decide)).trans g52))), v52⟩⟩, ⟨_, ((fset_ne (by decide)).trans ((hqfr 53 0 (by omega)).trans ((fset_ne (by decide)).trans g53))), v53⟩, ⟨⟨_, ((fset_ne (by decide)).trans g57), v57⟩, ⟨_, ((fset_ne (by decide)).trans g58), v58⟩, ⟨_, ((fset_ne (by decide)).trans g59)⟩, ⟨_, ((fset_ne (by decide)).trans g60)⟩, ⟨_, ((fset_ne (by decide)).trans g61)⟩⟩⟩, (frm_tr hf1 (frm_set (by decide)))⟩) (Nat.le_of_ble_eq_true rfl) (Nat.le_of_ble_eq_true rfl) dX5_thing_61
    · refine lv_bipush (v := (-2)) hx hb dX5_thing_24 (by decide) ?_
      exact fw_reti C hr hlk rfl hP hS (⟨(th_full c_10 (by omega)).1.symm, by rw [(th_full c_10 (by omega)).2]; exact hR0, hf0⟩) (Nat.le_of_ble_eq_true rfl) (Nat.le_of_ble_eq_true rfl) dX5_thing_26
  · refine lv_iconst (v := (-1)) hx hb dX5_thing_13 (by decide) ?_
    exact fw_reti C hr hlk rfl hP hS (⟨(th_no c_10).1.symm, by rw [(th_no c_10).2]; exact hR0, hf0⟩) (Nat.le_of_ble_eq_true rfl) (Nat.le_of_ble_eq_true rfl) dX5_thing_14
set_option maxHeartbeats 8000000 in
set_option maxRecDepth 100000 in
theorem k_X5_byteOf (l : Launch) (Γ : FG) (w : FW) (σ : St) (th : Int32) (tx bx : Int32) (hI : Inv σ) (hR : Rm σ th w) : Met l yX5_byteOf (ws_ yX5_byteOf cX5_byteOf 3 (some .boolean)) (rmD 12 0 0) (va_Pc [.ref (w.1 20 0), .int tx, .int bx] (fI Γ w)) (va_Qi (fun r w1 => r = b2i (a_byteOf σ tx bx) ∧ Rm (n_byteOf σ tx bx) 0 w1 ∧ frm w w1) (fI Γ) (fA Γ)) 0 0 (fA Γ) := by
  refine fw_met (by decide) (Nat.le_of_ble_eq_true rfl) ?_
  intro p e s m below meth c ls C hP hS hr hlk hin hl
  have C : fC p s m [.ref (w.1 20 0), .int tx, .int bx].toArray c cX5_byteOf 3 RX5 Γ := C
  have hx := C.1.1
  have hb := C.1.2.1
  have hl : lv_has ls 3 [(0, .ref (w.1 20 0)), (1, .int tx), (2, .int bx)] := hl
  obtain ⟨⟨hnp, hnr, hnt, hns, hnw, hck0, hck1⟩, hIr, hIt, hIb, hIn, hIs, hIg, hIw, hIa⟩ := id hI
  obtain ⟨z0, n20, nA, nT, nS, nO, nH⟩ := id hR
  refine lv_aload_n hx hb dX5_byteOf_0 rfl (lv_at hl 0 rfl) ?_
  refine lv_iconst (v := 0) hx hb dX5_byteOf_1 (by decide) ?_
  refine pf_X5_84 C hP hS rfl rfl n20 rfl (Nat.le_of_ble_eq_true rfl) dX5_byteOf_2 (fun H locs hP hS => ?_)
  have hP : fP Γ (fset w 20 0 (oO 5 [.int (nI (s_np σ)), .int (nI (s_nr σ)), .ref (w.1 32 0), .ref (w.1 33 0), .ref (w.1 34 0), .ref (w.1 35 0), .int (nI (s_nt σ)), .ref (w.1 37 0), .ref (w.1 38 0), .ref (w.1 39 0), .ref (w.1 40 0), .ref (w.1 41 0), .ref (w.1 42 0), .ref (w.1 43 0), .ref (w.1 44 0), .int (nI (s_ns σ)), .ref (w.1 46 0), .ref (w.1 47 0), .ref (w.1 48 0), .ref (w.1 49 0), .ref (w.1 50 0), .int (nI (s_nw σ)), .ref (w.1 52 0), .ref (w.1 53 0), .long (s_ck σ), .int 0, .int (b2i z0), .ref (w.1 57 0), .ref (w.1 58 0), .ref (w.1 59 0), .ref (w.1 60 0), .ref (w.1 61 0)])) H := hP
  obtain ⟨u0, hu0⟩ : ∃ u, u = ((fset w 20 0 (oO 5 [.int (nI (s_np σ)), .int (nI (s_nr σ)), .ref (w.1 32 0), .ref (w.1 33 0), .ref (w.1 34 0), .ref (w.1 35 0), .int (nI (s_nt σ)), .ref (w.1 37 0), .ref (w.1 38 0), .ref (w.1 39 0), .ref (w.1 40 0), .ref (w.1 41 0), .ref (w.1 42 0), .ref (w.1 43 0), .ref (w.1 44 0), .int (nI (s_ns σ)), .ref (w.1 46 0), .ref (w.1 47 0), .ref (w.1 48 0), .ref (w.1 49 0), .ref (w.1 50 0), .int (nI (s_nw σ)), .ref (w.1 52 0), .ref (w.1 53 0), .long (s_ck σ), .int 0, .int (b2i z0), .ref (w.1 57 0), .ref (w.1 58 0), .ref (w.1 59 0), .ref (w.1 60 0), .ref (w.1 61 0)]))).2 := ⟨_, rfl⟩
  have hw0 : (fset w 20 0 (oO 5 [.int (nI (s_np σ)), .int (nI (s_nr σ)), .ref (w.1 32 0), .ref (w.1 33 0), .ref (w.1 34 0), .ref (w.1 35 0), .int (nI (s_nt σ)), .ref (w.1 37 0), .ref (w.1 38 0), .ref (w.1 39 0), .ref (w.1 40 0), .ref (w.1 41 0), .ref (w.1 42 0), .ref (w.1 43 0), .ref (w.1 44 0), .int (nI (s_ns σ)), .ref (w.1 46 0), .ref (w.1 47 0), .ref (w.1 48 0), .ref (w.1 49 0), .ref (w.1 50 0), .int (nI (s_nw σ)), .ref (w.1 52 0), .ref (w.1 53 0), .long (s_ck σ), .int 0, .int (b2i z0), .ref (w.1 57 0), .ref (w.1 58 0), .ref (w.1 59 0), .ref (w.1 60 0), .ref (w.1 61 0)])) = (w.1, u0) := by rw [hu0]; rfl
  rw [hw0] at hP
  have hR0 : Rm σ 0 (w.1, u0) := by rw [← hw0]; exact Rm_th0 nA nT nS nO nH
  have hf0 : frm w (w.1, u0) := by rw [← hw0]; exact frm_set (by decide)
  clear hw0 hu0 n20 nA nT nS nO nH
  obtain ⟨z, m20, mA, mT, mS, mO, mH⟩ := id hR0
  obtain ⟨⟨f32, g32, v32⟩, ⟨f33, g33, v33⟩, ⟨f34, g34, v34⟩, ⟨f35, g35, v35⟩⟩ := id mA
  obtain ⟨⟨f37, g37, v37⟩, ⟨f38, g38, v38⟩, ⟨f39, g39, v39⟩, ⟨f40, g40, v40⟩, ⟨f41, g41, v41⟩, ⟨f42, g42, v42⟩, ⟨f43, g43, v43⟩, ⟨f44, g44, v44⟩⟩ := id mT
  obtain ⟨⟨f46, g46, v46⟩, ⟨f47, g47, v47⟩, ⟨f48, g48, v48⟩, ⟨f49, g49, v49⟩, ⟨f50, g50, v50⟩, ⟨f52, g52, v52⟩⟩ := id mS
  obtain ⟨f53, g53, v53⟩ := id mO
  obtain ⟨⟨f57, g57, v57⟩, ⟨f58, g58, v58⟩, ⟨f59, g59⟩, ⟨f60, g60⟩, ⟨f61, g61⟩⟩ := id mH
  refine lv_aload_n hx hb dX5_byteOf_5 rfl (lv_at hl 0 rfl) ?_
  refine lv_iload_n hx hb dX5_byteOf_6 rfl (lv_at hl 1 rfl) ?_
  refine fw_ci0 (w := (w.1, u0)) hS (fw_rV (rest := []) (As := [.int tx]) C hP hS wV_X5_114 (k_X5_isThing l Γ (w.1, u0) σ 0 z tx hnt m20) m20 rfl rfl (fRm_mk rfl rfl (Nat.le_of_ble_eq_true rfl) (Nat.le_of_ble_eq_true rfl) (Nat.le_of_ble_eq_true rfl) (Nat.le_of_ble_eq_true rfl) (Nat.le_of_ble_eq_true rfl)) rfl hl.1 rfl dX5_byteOf_7) (fun H locs hP hS => ?_)
  refine fw_ieqB (tgt := 36) hx hb dX5_byteOf_10 (by decide) (fun c_10 => ?_) (fun c_10 => ?_)
  · refine lv_iconst (v := 0) hx hb dX5_byteOf_36 (by decide) ?_
    exact fw_reti C hr hlk rfl hP hS (⟨b2i_f (bo_f (Or.inl c_10)), by rw [bo_n (bo_f (Or.inl c_10))]; exact hR0, hf0⟩) (Nat.le_of_ble_eq_true rfl) (Nat.le_of_ble_eq_true rfl) dX5_byteOf_37
  · obtain ⟨tt, htt, rfl⟩ := fIn_t c_10 (by omega)
    refine lv_iload_n hx hb dX5_byteOf_13 rfl (lv_at hl 2 rfl) ?_
    refine lv_if_lt (tgt := 36) hx hb dX5_byteOf_14 (by decide) (fun c_14 => ?_) (fun c_14 => ?_)
    · refine lv_iconst (v := 0) hx hb dX5_byteOf_36 (by decide) ?_
      exact fw_reti C hr hlk rfl hP hS (⟨b2i_f (bo_f (Or.inr (Or.inl (fIn_lt c_14)))), by rw [bo_n (bo_f (Or.inr (Or.inl (fIn_lt c_14))))]; exact hR0, hf0⟩) (Nat.le_of_ble_eq_true rfl) (Nat.le_of_ble_eq_true rfl) dX5_byteOf_37
    · refine lv_iload_n hx hb dX5_byteOf_17 rfl (lv_at hl 2 rfl) ?_
      refine lv_sipush (v := nI 255) hx hb dX5_byteOf_18 (by decide) ?_
      refine lv_icmp_gt (tgt := 36) hx hb dX5_byteOf_21 (by decide) (fun c_21 => ?_) (fun c_21 => ?_)
      · refine lv_iconst (v := 0) hx hb dX5_byteOf_36 (by decide) ?_
        exact fw_reti C hr hlk rfl hP hS (⟨b2i_f (bo_f (Or.inr (Or.inl (fIn_ge (by decide) (fa_ge256 c_21))))), by rw [bo_n (bo_f (Or.inr (Or.inl (fIn_ge (by decide) (fa_ge256 c_21)))))]; exact hR0, hf0⟩) (Nat.le_of_ble_eq_true rfl) (Nat.le_of_ble_eq_true rfl) dX5_byteOf_37
      · have c_bb : fIn bx 256 = true := fIn_in (by decide) c_14 (fun q => c_21 (fa_lt255 q))
        obtain ⟨bb, hbb, rfl⟩ := fIn_t c_bb (by omega)
        obtain ⟨hln, hcn, hdn, hmk, -⟩ := hIt tt
        refine lv_aload_n hx hb dX5_byteOf_24 rfl (lv_at hl 0 rfl) ?_
        refine gf_X5_26 C hP m20 rfl rfl dX5_byteOf_25 ?_
        refine lv_iload_n hx hb dX5_byteOf_28 rfl (lv_at hl 1 rfl) ?_
        refine fw_iald C hP g38 rfl tt rfl (by omega) (by decide) dX5_byteOf_29 ?_
        refine fw_E (show f38 tt = nI (s_ln σ tt) from v38 tt (by omega)) ?_
        refine lv_sipush (v := nI 1000) hx hb dX5_byteOf_30 (by decide) ?_
        refine fw_neN (tgt := 38) hx hb (by omega) (by omega) dX5_byteOf_33 (by decide) (fun c_33 => ?_) (fun c_33 => ?_)
        · refine lv_aload_n hx hb dX5_byteOf_38 rfl (lv_at hl 0 rfl) ?_
          refine gf_X5_32 C hP m20 rfl rfl dX5_byteOf_39 ?_
          refine lv_sipush (v := nI 1000) hx hb dX5_byteOf_42 (by decide) ?_
          refine lv_iload_n hx hb dX5_byteOf_45 rfl (lv_at hl 1 rfl) ?_
          refine fw_mulN hx hb dX5_byteOf_46 ?_
          refine lv_aload_n hx hb dX5_byteOf_47 rfl (lv_at hl 0 rfl) ?_
          refine gf_X5_26 C hP m20 rfl rfl dX5_byteOf_48 ?_
          refine lv_iload_n hx hb dX5_byteOf_51 rfl (lv_at hl 1 rfl) ?_
          refine fw_iald C hP g38 rfl tt rfl (by omega) (by decide) dX5_byteOf_52 ?_
          refine fw_E (show f38 tt = nI (s_ln σ tt) from v38 tt (by omega)) ?_
          refine fw_addN hx hb dX5_byteOf_53 ?_
          refine lv_iload_n hx hb dX5_byteOf_54 rfl (lv_at hl 2 rfl) ?_
          refine fw_iast C hP hS g40 rfl (1000 * tt + (s_ln σ tt)) rfl (by omega) (by decide) dX5_byteOf_55 (fun H locs hP hS => ?_)
          have hP : fP Γ (fset (w.1, u0) 40 0 (aI 1 16000 (upd f40 (1000 * tt + (s_ln σ tt)) (nI bb)))) H := hP
          refine lv_aload_n hx hb dX5_byteOf_56 rfl (lv_at hl 0 rfl) ?_
          refine gf_X5_26 C hP ((fset_ne (by decide)).trans m20) rfl rfl dX5_byteOf_57 ?_
          refine lv_iload_n hx hb dX5_byteOf_60 rfl (lv_at hl 1 rfl) ?_
          refine lv_dup2_11 hx hb dX5_byteOf_61 rfl rfl ?_
          refine fw_iald C hP ((fset_ne (by decide)).trans g38) rfl tt rfl (by omega) (by decide) dX5_byteOf_62 ?_
          refine fw_E (show f38 tt = nI (s_ln σ tt) from v38 tt (by omega)) ?_
          refine lv_iconst (v := nI 1) hx hb dX5_byteOf_63 (by decide) ?_
          refine fw_addN hx hb dX5_byteOf_64 ?_
          refine fw_iast C hP hS ((fset_ne (by decide)).trans g38) rfl tt rfl (by omega) (by decide) dX5_byteOf_65 (fun H locs hP hS => ?_)
          have hP : fP Γ (fset (fset (w.1, u0) 40 0 (aI 1 16000 (upd f40 (1000 * tt + (s_ln σ tt)) (nI bb)))) 38 0 (aI 1 16 (upd f38 tt (nI (s_ln σ tt + 1))))) H := hP
          refine lv_aload_n hx hb dX5_byteOf_66 rfl (lv_at hl 0 rfl) ?_
          refine lv_iload_n hx hb dX5_byteOf_67 rfl (lv_at hl 1 rfl) ?_
          refine fw_cv hS (fw_rV (rest := []) (As := [.int (nI tt)]) C hP hS wV_X5_110 (k_X5_reckon l Γ (fset (fset (w.1, u0) 40 0 (aI 1 16000 (upd f40 (1000 * tt + (s_ln σ tt)) (nI bb)))) 38 0 (aI 1 16 (upd f38 tt (nI (s_ln σ tt + 1))))) σ 0 z tt (s_ln σ tt + 1) (f2 (s_by σ) tt (s_ln σ tt) bb tt) _ _ (by omega) (by omega) fset_at ((up_T v38 tt (by omega)).trans (by rw [va_up_self])) ((fset_ne (by decide)).trans fset_at) (fun j hj => up_R (by omega) (fun t ht => (hIt t).1) (by omega) v40 tt (by omega) j (by rw [va_up_self]; exact hj)) _ ((fset_ne (by decide)).trans ((fset_ne (by decide)).trans g39)) ((fset_ne (by decide)).trans ((fset_ne (by decide)).trans m20)) ⟨⟨_, ((fset_ne (by decide)).trans ((fset_ne (by decide)).trans g57)), v57⟩, ⟨_, ((fset_ne (by decide)).trans ((fset_ne (by decide)).trans g58)), v58⟩, ⟨_, ((fset_ne (by decide)).trans ((fset_ne (by decide)).trans g59))⟩, ⟨_, ((fset_ne (by decide)).trans ((fset_ne (by decide)).trans g60))⟩, ⟨_, ((fset_ne (by decide)).trans ((fset_ne (by decide)).trans g61))⟩⟩) ((fset_ne (by decide)).trans ((fset_ne (by decide)).trans m20)) rfl rfl (fRm_mk rfl rfl (Nat.le_of_ble_eq_true rfl) (Nat.le_of_ble_eq_true rfl) (Nat.le_of_ble_eq_true rfl) (Nat.le_of_ble_eq_true rfl) (Nat.le_of_ble_eq_true rfl)) rfl hl.1 rfl dX5_byteOf_68) (fun w1 H locs hp hP hS => ?_)
          obtain ⟨ad1, u1⟩ := w1
          obtain ⟨ha1, hqfr, hq20, hqH, d39, hq39, hd1, hd2⟩ := hp
          have ha1 : ad1 = w.1 := ha1
          subst ha1
          have hf1 : frm w (w.1, u1) := ⟨rfl, fun k i h => (hqfr k i (by omega)).trans (((frm_tr (frm_tr hf0 (frm_set (by decide))) (frm_set (by decide)))).2 k i h)⟩
          have hq20 : u1 20 0 = some (oMo σ w 0 true) := hq20
          obtain ⟨⟨f57, g57, v57⟩, ⟨f58, g58, v58⟩, ⟨f59, g59⟩, ⟨f60, g60⟩, ⟨f61, g61⟩⟩ := id hqH
          refine lv_iconst (v := 1) hx hb dX5_byteOf_71 (by decide) ?_
          have htt1 := bo_t c_10 c_bb (by omega) (by omega : s_ln σ tt ≠ 1000)
          exact fw_reti C hr hlk rfl hP hS (⟨b2i_t htt1, by rw [bo_m htt1 (by omega) (by omega)]; exact ⟨true, hq20, ⟨⟨_, ((hqfr 32 0 (by omega)).trans ((fset_ne (by decide)).trans ((fset_ne (by decide)).trans g32))), v32⟩, ⟨_, ((hqfr 33 0 (by omega)).trans ((fset_ne (by decide)).trans ((fset_ne (by decide)).trans g33))), v33⟩, ⟨_, ((hqfr 34 0 (by omega)).trans ((fset_ne (by decide)).trans ((fset_ne (by decide)).trans g34))), v34⟩, ⟨_, ((hqfr 35 0 (by omega)).trans ((fset_ne (by decide)).trans ((fset_ne (by decide)).trans g35))), v35⟩⟩, ⟨⟨_, ((hqfr 37 0 (by omega)).trans ((fset_ne (by decide)).trans ((fset_ne (by decide)).trans g37))), v37⟩, ⟨_, ((hqfr 38 0 (by omega)).trans fset_at), up_T v38⟩, ⟨_, hq39, dg_up (n := s_nt σ) (g := fun t => shD (f2 (s_by σ) tt (s_ln σ tt) bb t) (va_up (s_ln σ) tt (s_ln σ tt + 1) t)) (fun j hj => by rw [va_up_self]; exact hd1 j hj) hd2 (fun t ht hne j hj => by rw [dg_ne hne]; exact v39 t ht j hj)⟩, ⟨_, ((hqfr 40 0 (by omega)).trans ((fset_ne (by decide)).trans fset_at)), up_R (by omega) (fun t ht => (hIt t).1) (by omega) v40⟩, ⟨_, ((hqfr 41 0 (by omega)).trans ((fset_ne (by decide)).trans ((fset_ne (by decide)).trans g41))), v41⟩, ⟨_, ((hqfr 42 0 (by omega)).trans ((fset_ne (by decide)).trans ((fset_ne (by decide)).trans g42))), v42⟩, ⟨_, ((hqfr 43 0 (by omega)).trans ((fset_ne (by decide)).trans ((fset_ne (by decide)).trans g43))), v43⟩, ⟨_, ((hqfr 44 0 (by omega)).trans ((fset_ne (by decide)).trans ((fset_ne (by decide)).trans g44))), v44⟩⟩, ⟨⟨_, ((hqfr 46 0 (by omega)).trans ((fset_ne (by decide)).trans ((fset_ne (by decide)).trans g46))), v46⟩, ⟨_, ((hqfr 47 0 (by omega)).trans ((fset_ne (by decide)).trans ((fset_ne (by decide)).trans g47))), v47⟩, ⟨_, ((hqfr 48 0 (by omega)).trans ((fset_ne (by decide)).trans ((fset_ne (by decide)).trans g48))), v48⟩, ⟨_, ((hqfr 49 0 (by omega)).trans ((fset_ne (by decide)).trans ((fset_ne (by decide)).trans g49))), v49⟩, ⟨_, ((hqfr 50 0 (by omega)).trans ((fset_ne (by decide)).trans ((fset_ne (by decide)).trans g50))), v50⟩, ⟨_, ((hqfr 52 0 (by omega)).trans ((fset_ne (by decide)).trans ((fset_ne (by decide)).trans g52))), v52⟩⟩, ⟨_, ((hqfr 53 0 (by omega)).trans ((fset_ne (by decide)).trans ((fset_ne (by decide)).trans g53))), v53⟩, ⟨⟨_, g57, v57⟩, ⟨_, g58, v58⟩, ⟨_, g59⟩, ⟨_, g60⟩, ⟨_, g61⟩⟩⟩, hf1⟩) (Nat.le_of_ble_eq_true rfl) (Nat.le_of_ble_eq_true rfl) dX5_byteOf_72
        · refine lv_iconst (v := 0) hx hb dX5_byteOf_36 (by decide) ?_
          exact fw_reti C hr hlk rfl hP hS (⟨b2i_f (bo_f (Or.inr (Or.inr (by rw [n_of_nI (by omega)]; omega)))), by rw [bo_n (bo_f (Or.inr (Or.inr (by rw [n_of_nI (by omega)]; omega))))]; exact hR0, hf0⟩) (Nat.le_of_ble_eq_true rfl) (Nat.le_of_ble_eq_true rfl) dX5_byteOf_37
