/-! the law's start: what the tables give, the two objects, the array of the answer -/
theorem lw_tt {w : Cond} (i : Nat) (h : tables_1[i]? = some w) : w ∈ lw_tbl := List.mem_append_right _ (List.mem_of_getElem? h)
theorem arr_prim {s : State} {args : Array Value} {ty : FieldType} (h : (Cond.arrayClass ty).before args s = true) (hr : ∀ cA, s.vm.findClass ("[" ++ ty.toString) = some cA → va_RA s cA ty) : ∃ cA, ArrOfT s cA ty ∧ va_RA s cA ty := by
  obtain ⟨cA, k, comp, h1, h2, h3⟩ := Cond.arrayClass_spec h
  exact ⟨cA, fun n z => ⟨fun k h => (by cases h), k, h2, comp, h3⟩, hr cA h1⟩
theorem arr_obj {s : State} {args : Array Value} {Cn : String} (h : (Cond.arrayOver (.object Cn)).before args s = true) : ∃ cA, ArrOfT s cA (.object Cn) ∧ va_RA s cA (.object Cn) := by
  obtain ⟨comp, cA, k, h1, h2, h3, h4, h5⟩ := Cond.arrayOver_spec h
  exact ⟨cA, fun n z => ⟨fun k h => (by cases h), k, h3, comp, h4⟩, k, comp, h3, h4, h1, h5⟩
theorem eq_ev {args : Array Value} {s : State} {tm : Term} {z : Int32} (h : (Cond.eq tm (.int z)).before args s = true) : tm.eval args s none [] s = some (.int z) := by
  cases hv : tm.eval args s none [] s with
  | none => simp [Cond.before, Cond.holds, Cond.value, hv] at h
  | some w =>
    have hz : (Term.int z).eval args s none [] s = some (.int z) := rfl
    simp only [Cond.before, Cond.holds, Cond.value, hv, hz] at h
    cases w <;> simp_all
abbrev tmF : Term := .static RX1 "FIRST_STATE" "[I"
abbrev tmR : Term := .static RX1 "ROUND_WORDS" "[I"
theorem nw_F : ∀ j, j < 8 → Cond.eq (.elem tmF (.int (Int32.ofNat j))) (.int (shH j)) ∈ flatC (Jvm.Cond.and given_1 narrow_1) := by decide +kernel
theorem nw_R : ∀ j, j < 64 → Cond.eq (.elem tmR (.int (Int32.ofNat j))) (.int (shK j)) ∈ flatC (Jvm.Cond.and given_1 narrow_1) := by decide +kernel
theorem nw_nest : ∀ q ∈ fNest, Cond.fieldLinkNest RX4 q.1 q.2.1 q.2.2.1 q.2.2.2 RX4 ∈ lw_tbl := by decide +kernel
theorem nw_ext : ∀ w ∈ [Cond.castable fISE fISE, .declares (Bundle.initS "java/lang/RuntimeException"), .declares (Bundle.initS "java/lang/Exception"), .declares (Bundle.initS Bundle.tN), .methodLinkNest RX1 21 yX4_copyWords RX4, .arrayOver (.object RX0), .arrayOver (.object RX2), .arrayOver (.object RX3), .stringRef RX4 97 fTxt, .laysStatic RX1 "FIRST_STATE" "[I", .laysStatic RX1 "ROUND_WORDS" "[I", .laysStatic Bundle.tN "UNASSIGNED_STACK" Bundle.steD, .laysStatic Bundle.tN "SUPPRESSED_SENTINEL" Bundle.listD, .initialized Bundle.tN], w ∈ lw_tbl := by decide +kernel
theorem nw_nar : ∀ w ∈ [Cond.arrayOf tmF .int, .eq (.length tmF) (.int 8), .arrayOf tmR .int, .eq (.length tmR) (.int 64), .isRef (.static Bundle.tN "UNASSIGNED_STACK" Bundle.steD), .isRef (.static Bundle.tN "SUPPRESSED_SENTINEL" Bundle.listD), .exactly (.string RX4 97) "java/lang/String"], w ∈ flatC (Jvm.Cond.and given_1 narrow_1) := by decide +kernel
set_option maxHeartbeats 4000000 in
/-- the tables, as the layer wants them -/
theorem law_G {s : State} {args : Array Value} (hts : ∀ w ∈ lw_tbl, w.before args s = true) (hgv : (Jvm.Cond.and given_1 narrow_1).before args s = true) : ∃ Γ : FG, Γ.2.2.1 = s.heap.size ∧ fK Γ s ∧ fT Γ s s.heap := by
  have htA : ∀ w ∈ lw_all, w.before args s = true := fun w h => hts w (lw_all_tbl h)
  have hex := fun w h => hts w (nw_ext w h)
  have hn := flat_of_before _ hgv
  have hna := fun w h => hn w (nw_nar w h)
  obtain ⟨c0, i0, k0⟩ := u_known (C := RX0) (T := TX0) (N := 4) htA qy_X0 (htA _ qx_X0)
  obtain ⟨c1, i1, k1⟩ := u_known (C := RX1) (T := TX1) (N := 2) htA qy_X1 (htA _ qx_X1)
  obtain ⟨c2, i2, k2⟩ := u_known (C := RX2) (T := TX2) (N := 5) htA qy_X2 (htA _ qx_X2)
  obtain ⟨c3, i3, k3⟩ := u_known (C := RX3) (T := TX3) (N := 9) htA qy_X3 (htA _ qx_X3)
  obtain ⟨c4, i4, k4⟩ := u_known (C := RX4) (T := TX4) (N := 13) htA qy_X4 (htA _ qx_X4)
  obtain ⟨c5, i5, k5⟩ := u_known (C := RX5) (T := TX5) (N := 32) htA qy_X5 (htA _ qx_X5)
  have hC : ∀ k : Nat, ∃ x : ClassId × (Nat → Nat), ∀ q : vw_C, vwCl[k]? = some q → u_Kn s q.1 q.2.1 q.2.2 x.1 x.2 := by
    intro k
    match k with
    | 0 => exact ⟨(c0, i0), fun q hq => by cases hq; exact k0⟩
    | 1 => exact ⟨(c1, i1), fun q hq => by cases hq; exact k1⟩
    | 2 => exact ⟨(c2, i2), fun q hq => by cases hq; exact k2⟩
    | 3 => exact ⟨(c3, i3), fun q hq => by cases hq; exact k3⟩
    | 4 => exact ⟨(c4, i4), fun q hq => by cases hq; exact k4⟩
    | 5 => exact ⟨(c5, i5), fun q hq => by cases hq; exact k5⟩
    | k + 6 => exact ⟨(c0, i0), fun q hq => by simp [vwCl] at hq⟩
  have hA : ∀ k : Nat, ∃ cA : ClassId, k < 7 → ArrOfT s cA (fTy k) ∧ va_RA s cA (fTy k) := by
    intro k
    match k with
    | 0 => obtain ⟨a, h⟩ := arr_prim (htA _ qa_byte) (fun _ h => h); exact ⟨a, fun _ => h⟩
    | 1 => obtain ⟨a, h⟩ := arr_prim (htA _ qa_int) (fun _ h => h); exact ⟨a, fun _ => h⟩
    | 2 => obtain ⟨a, h⟩ := arr_prim (htA _ qa_long) (fun _ h => h); exact ⟨a, fun _ => h⟩
    | 3 => obtain ⟨a, h⟩ := arr_prim (htA _ qa_boolean) (fun _ h => h); exact ⟨a, fun _ => h⟩
    | 4 => obtain ⟨a, h⟩ := arr_obj (hex (.arrayOver (.object RX0)) (by simp)); exact ⟨a, fun _ => h⟩
    | 5 => obtain ⟨a, h⟩ := arr_obj (hex (.arrayOver (.object RX2)) (by simp)); exact ⟨a, fun _ => h⟩
    | 6 => obtain ⟨a, h⟩ := arr_obj (hex (.arrayOver (.object RX3)) (by simp)); exact ⟨a, fun _ => h⟩
    | k + 7 => exact ⟨c0, fun h => absurd h (by omega)⟩
  obtain ⟨fD, hD⟩ : ∃ f : Nat → ClassId × (Nat → Nat), ∀ k (q : vw_C), vwCl[k]? = some q → u_Kn s q.1 q.2.1 q.2.2 (f k).1 (f k).2 := ⟨fun k => Classical.choose (hC k), fun k => Classical.choose_spec (hC k)⟩
  obtain ⟨gA, hgA⟩ : ∃ g : Nat → ClassId, ∀ k, k < 7 → ArrOfT s (g k) (fTy k) ∧ va_RA s (g k) (fTy k) := ⟨fun k => Classical.choose (hA k), fun k => Classical.choose_spec (hA k)⟩
  obtain ⟨sa, sc, scell, sk9, hsa, -⟩ := Cond.exactly_spec (hna (.exactly (.string RX4 97) "java/lang/String") (by simp))
  have hout : ∀ a : Nat, a < s.heap.size → ¬ (fun q : Nat => s.heap.size ≤ q) a := fun a h q => absurd h (Nat.not_lt.mpr q)
  obtain ⟨tF, eF, hF⟩ := va_Tof (tm := tmF) (ty := .int) (N := 8) (f := fun j => .int (shH j)) (A := fun q : Nat => s.heap.size ≤ q) (by decide) (hna (.arrayOf tmF .int) (by simp)) (eq_ev (hna (.eq (.length tmF) (.int 8)) (by simp))) (fun j hj => eq_ev (hn _ (nw_F j hj))) hout
  obtain ⟨tR, eR, hR⟩ := va_Tof (tm := tmR) (ty := .int) (N := 64) (f := fun j => .int (shK j)) (A := fun q : Nat => s.heap.size ≤ q) (by decide) (hna (.arrayOf tmR .int) (by simp)) (eq_ev (hna (.eq (.length tmR) (.int 64)) (by simp))) (fun j hj => eq_ev (hn _ (nw_R j hj))) hout
  refine ⟨((fun k => (fD k).1, fun k => (fD k).2), gA, s.heap.size, tF, tR, sa), rfl, ⟨⟨hD, ?_⟩, ?_, ?_, ⟨?_, ?_, ?_⟩, ⟨?_, ?_, ?_, ?_⟩, ?_⟩, ⟨?_, hF⟩, ⟨?_, hR⟩, ?_, ?_⟩
  · intro k q hq
    by_cases h7 : k < 7
    · rw [fTys_at h7] at hq
      cases hq
      exact hgA k h7
    · rw [fTys, List.getElem?_map, List.getElem?_eq_none (by simp; omega)] at hq
      cases hq
  · exact fun q hq => va_Nw.of rfl (hts _ (nw_nest q hq))
  · exact va_Nw.of rfl (hex (.methodLinkNest RX1 21 yX4_copyWords RX4) (by simp))
  · exact va_AO.of (hex (.arrayOver (.object RX0)) (by simp))
  · exact va_AO.of (hex (.arrayOver (.object RX2)) (by simp))
  · exact va_AO.of (hex (.arrayOver (.object RX3)) (by simp))
  · exact va_Nw.of rfl (hex (.castable fISE fISE) (by simp))
  · exact va_Nw.of rfl (hex (.declares (Bundle.initS "java/lang/RuntimeException")) (by simp))
  · exact va_Nw.of rfl (hex (.declares (Bundle.initS "java/lang/Exception")) (by simp))
  · exact va_Nw.of rfl (hex (.declares (Bundle.initS Bundle.tN)) (by simp))
  · exact vk_R.of (hex (.stringRef RX4 97 fTxt) (by simp)) (by rw [Term.string_eval_of_vm (U := s) (args := args) rfl]; exact hsa)
  · exact va_Zof (hex (.laysStatic RX1 "FIRST_STATE" "[I") (by simp)) (htA _ qn_X1) eF hout
  · exact va_Zof (hex (.laysStatic RX1 "ROUND_WORDS" "[I") (by simp)) (htA _ qn_X1) eR hout
  · exact vx_Zqof (hex (.laysStatic Bundle.tN "UNASSIGNED_STACK" Bundle.steD) (by simp)) (hex (.initialized Bundle.tN) (by simp)) (hna (.isRef (.static Bundle.tN "UNASSIGNED_STACK" Bundle.steD)) (by simp)) hout
  · exact vx_Zqof (hex (.laysStatic Bundle.tN "SUPPRESSED_SENTINEL" Bundle.listD) (by simp)) (hex (.initialized Bundle.tN) (by simp)) (hna (.isRef (.static Bundle.tN "SUPPRESSED_SENTINEL" Bundle.listD)) (by simp)) hout
theorem fP_0 {Γ : FG} {H : Heap} : fP Γ (fun _ _ => 0, fun _ _ => none) H := ⟨[], fun k i => by simp, fun k q h => by simp [fL] at h, ⟨fun i j a b h => by simp [fL] at h, fun k q h => by simp [fL] at h⟩⟩
theorem Lw_0 {w1 w2 : FW} {q0 q8 q16 : Nat} {en : FE} (hR1 : Rc s_0 w1) (e01 : w1.1 0 0 = q0) (hR2 : Rm s_0 0 w2) (hf2 : ∀ k i, k < 20 ∨ 62 ≤ k → w2.2 k i = (fnew w1 20 0 en q8).2 k i ∧ w2.1 k i = (fnew w1 20 0 en q8).1 k i) (e12 : w2.1 20 0 = q8) : Lw q0 q8 q16 s_0 (fnew w2 70 0 (aL 1 (fun _ => 0)) q16) := by
  have hR3 : Rc s_0 w2 := Rc_same hR1 fun k hk i => ⟨(hf2 k i (Or.inl hk)).1.trans (fnew_ne (by omega)), (hf2 k i (Or.inl hk)).2.trans (fnew_ane (by omega))⟩
  refine ⟨Inv_0, Rc_same hR3 fun k hk => sk_new sk_rf (by omega), ⟨0, Rm_same hR2 (fun k h1 h2 => fnew_ne (by omega)) (fun k h1 h2 _ => fnew_ane (by omega))⟩, ⟨_, fnew_at⟩, ?_, (fnew_ane (by decide)).trans e12, fnew_aat⟩
  exact (fnew_ane (by decide)).trans ((hf2 0 0 (Or.inl (by decide))).2.trans ((fnew_ane (by decide)).trans e01))
set_option maxHeartbeats 4000000 in
set_option maxRecDepth 100000 in
theorem whole_start {p : Program} {e : Env} {s : State} {m : MethodId} {below : List Frame} {meth : Method} {c : Code} (l : Launch) (hflags : l.flags = flags0) {b L : Nat} {xs : Nat → Int32} (hL : L ≤ 3584) (C0 : lw_At p s m meth c b L xs) : W p l e room_1 s m #[Value.ref b] below meth c s.heap [] 0 0 (lw_Z below #[Value.ref b] s) (entryFrame m ([Value.ref b] : List Value).toArray 7) := by
  obtain ⟨hx, hb, hr, hml, hown, hts, hX, hbl, hlk, hgv⟩ := id C0
  have hs9 : l.stackTraces = false := by
    show (!(l.flags.contains noTraceFlag)) = false
    rw [hflags]
    decide +kernel
  obtain ⟨Γ, hG, hK, hT⟩ := law_G hts hgv
  have C : fC p s m #[Value.ref b] c cL_law 7 RL Γ := ⟨⟨hx, hb, hml, hown, fun w h => hts w (lw_all_tbl h)⟩, hK, hT, Nat.le_of_eq hG⟩
  have hbA : ¬ fA Γ b := by
    show ¬ Γ.2.2.1 ≤ b
    rw [hG]
    exact Nat.not_le.mpr hbl
  have hS : va_S (fA Γ) s.heap s.heap [] := va_S.rf
  have hP : fP Γ (fun _ _ => 0, fun _ _ => none) s.heap := fP_0
  have hl := lv_entry ([.ref b]) (n := 7) (Nat.le_of_ble_eq_true rfl)
  rw [lg_entry_eq]
  generalize (lg_sl ([.ref b]) ++ List.replicate (7 - (lg_sl ([.ref b])).length) Slot.unset).toArray = ls at hl ⊢
  have hl : lv_has ls 7 [(0, .ref b)] := hl
  refine fw_new (ci := 4) (fs := [.int 0, .null, .int 0, .null, .int 0, .null, .int 0, .null, .int 0, .null, .null, .long 0, .null]) C hP hS 0 0 qy_X4 tyX4 tyX4_ok rfl ⟨ql_L_8, qx_X4, qn_X4⟩ (by intro j hj; match j, hj with | 0, _ => rfl | 1, _ => rfl | 2, _ => rfl | 3, _ => rfl | 4, _ => rfl | 5, _ => rfl | 6, _ => rfl | 7, _ => rfl | 8, _ => rfl | 9, _ => rfl | 10, _ => rfl | 11, _ => rfl | 12, _ => rfl | k + 13, hj => exact absurd hj (by omega)) rfl (Nat.le_of_ble_eq_true rfl) (Nat.le_of_ble_eq_true rfl) dL_law_0 (fun q0 H hP hS => ?_)
  have hP : fP Γ (fnew ((fun _ _ => 0, fun _ _ => none) : FW) 0 0 (oO 4 [.int 0, .null, .int 0, .null, .int 0, .null, .int 0, .null, .int 0, .null, .null, .long 0, .null]) q0) H := hP
  refine lv_dup hx hb dL_law_3 rfl ?_
  have hm := k_X4_init l Γ (fnew ((fun _ _ => 0, fun _ _ => none) : FW) 0 0 (oO 4 [.int 0, .null, .int 0, .null, .int 0, .null, .int 0, .null, .int 0, .null, .null, .long 0, .null]) q0) fnew_at (fun k i h1 h2 => fnew_ne h2)
  rw [show (fnew ((fun _ _ => 0, fun _ _ => none) : FW) 0 0 (oO 4 [.int 0, .null, .int 0, .null, .int 0, .null, .int 0, .null, .int 0, .null, .null, .long 0, .null]) q0).1 0 0 = q0 from fnew_aat] at hm
  refine fw_cv hS (fw_rI (rest := [.ref q0]) (As := []) C hP hS wI_L_15 (hm) (fRm_mk rfl rfl (Nat.le_of_ble_eq_true rfl) (Nat.le_of_ble_eq_true rfl) (Nat.le_of_ble_eq_true rfl) (Nat.le_of_ble_eq_true rfl) (Nat.le_of_ble_eq_true rfl)) rfl hl.1 rfl dL_law_4) (fun w1 H locs hp hP hS => ?_)
  obtain ⟨hR1, hf1, ha1⟩ := hp
  have e01 : w1.1 0 0 = q0 := ha1
  refine lv_astore_n (lv' := [(1, .ref q0), (0, .ref b)]) hx hb dL_law_7 rfl hl (by decide) rfl (fun ls hl => ?_)
  refine fw_new (ci := 5) (fs := [.int 0, .int 0, .null, .null, .null, .null, .int 0, .null, .null, .null, .null, .null, .null, .null, .null, .int 0, .null, .null, .null, .null, .null, .int 0, .null, .null, .long 0, .int 0, .int (b2i false), .null, .null, .null, .null, .null]) C hP hS 20 0 qy_X5 tyX5 tyX5_ok rfl ⟨ql_L_16, qx_X5, qn_X5⟩ (by intro j hj; match j, hj with | 0, _ => rfl | 1, _ => rfl | 2, _ => rfl | 3, _ => rfl | 4, _ => rfl | 5, _ => rfl | 6, _ => rfl | 7, _ => rfl | 8, _ => rfl | 9, _ => rfl | 10, _ => rfl | 11, _ => rfl | 12, _ => rfl | 13, _ => rfl | 14, _ => rfl | 15, _ => rfl | 16, _ => rfl | 17, _ => rfl | 18, _ => rfl | 19, _ => rfl | 20, _ => rfl | 21, _ => rfl | 22, _ => rfl | 23, _ => rfl | 24, _ => rfl | 25, _ => rfl | 26, _ => rfl | 27, _ => rfl | 28, _ => rfl | 29, _ => rfl | 30, _ => rfl | 31, _ => rfl | k + 32, hj => exact absurd hj (by omega)) ((hf1 20 0 (by decide)).trans (fnew_ne (by decide))) (Nat.le_of_ble_eq_true rfl) (Nat.le_of_ble_eq_true rfl) dL_law_8 (fun q8 H hP hS => ?_)
  have hP : fP Γ (fnew w1 20 0 (oO 5 [.int 0, .int 0, .null, .null, .null, .null, .int 0, .null, .null, .null, .null, .null, .null, .null, .null, .int 0, .null, .null, .null, .null, .null, .int 0, .null, .null, .long 0, .int 0, .int (b2i false), .null, .null, .null, .null, .null]) q8) H := hP
  refine lv_dup hx hb dL_law_11 rfl ?_
  have hm := k_X5_init l Γ (fnew w1 20 0 (oO 5 [.int 0, .int 0, .null, .null, .null, .null, .int 0, .null, .null, .null, .null, .null, .null, .null, .null, .int 0, .null, .null, .null, .null, .null, .int 0, .null, .null, .long 0, .int 0, .int (b2i false), .null, .null, .null, .null, .null]) q8) fnew_at (fun k h1 h2 => (fnew_ne (by omega)).trans ((hf1 k 0 (by omega)).trans (fnew_ne (by omega))))
  rw [show (fnew w1 20 0 (oO 5 [.int 0, .int 0, .null, .null, .null, .null, .int 0, .null, .null, .null, .null, .null, .null, .null, .null, .int 0, .null, .null, .null, .null, .null, .int 0, .null, .null, .long 0, .int 0, .int (b2i false), .null, .null, .null, .null, .null]) q8).1 20 0 = q8 from fnew_aat] at hm
  refine fw_cv hS (fw_rI (rest := [.ref q8]) (As := []) C hP hS wI_L_18 (hm) (fRm_mk rfl rfl (Nat.le_of_ble_eq_true rfl) (Nat.le_of_ble_eq_true rfl) (Nat.le_of_ble_eq_true rfl) (Nat.le_of_ble_eq_true rfl) (Nat.le_of_ble_eq_true rfl)) rfl hl.1 rfl dL_law_12) (fun w2 H locs hp hP hS => ?_)
  obtain ⟨hR2, hf2, ha2⟩ := hp
  have e12 : w2.1 20 0 = q8 := ha2
  refine lv_astore_n (lv' := [(2, .ref q8), (1, .ref q0), (0, .ref b)]) hx hb dL_law_15 rfl hl (by decide) rfl (fun ls hl => ?_)
  refine lv_iconst (v := 1) hx hb dL_law_16 (by decide) ?_
  refine fw_newL C hP hS 70 0 (N := 1) (by decide) (by decide) (Nat.le_of_ble_eq_true rfl) ((hf2 70 0 (Or.inr (by decide))).1.trans ((fnew_ne (by decide)).trans ((hf1 70 0 (by decide)).trans (fnew_ne (by decide))))) (Nat.le_of_ble_eq_true rfl) (Nat.le_of_ble_eq_true rfl) dL_law_17 (fun q17 H hP hS => ?_)
  have hP : fP Γ (fnew w2 70 0 (aL 1 (fun _ => 0)) q17) H := hP
  refine lv_astore_n (lv' := [(3, .ref q17), (2, .ref q8), (1, .ref q0), (0, .ref b)]) hx hb dL_law_19 rfl hl (by decide) rfl (fun ls hl => ?_)
  refine lv_iconst (v := nI 0) hx hb dL_law_20 (by decide) ?_
  refine lv_istore (lv' := [(4, .int (nI 0)), (3, .ref q17), (2, .ref q8), (1, .ref q0), (0, .ref b)]) hx hb dL_law_21 hl (by decide) rfl (fun ls hl => ?_)
  refine W.widen (k := 36 + 5 * 0) (n := 26460 + 1230 * 0) (Nat.le_of_ble_eq_true rfl) (Nat.le_of_ble_eq_true rfl) ?_
  exact law_loop C hX hbl hbA hL hs9 (Nat.le_of_eq hG.symm) hr hlk 514 0 0 s_0 _ _ _ _ rfl rfl (Nat.zero_le _) (Lw_0 hR1 e01 hR2 hf2 e12) hP hS (lv_sub hl [0, 1, 2, 3, 4] rfl)
