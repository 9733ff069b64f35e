/-- an object under construction: of the arrays ks those that are made lie at A and hold E; all else is as it was -/
def Mi (ko : Nat) (w w1 : FW) (ks : List Nat) (A : Nat → Nat) (E : Nat → FE) : Prop := (∀ k, k ∈ ks → k ≠ ko ∧ w1.2 k 0 = some (E k) ∧ w1.1 k 0 = A k) ∧ (∀ k i, k ≠ ko → k ∉ ks → w1.2 k i = w.2 k i ∧ w1.1 k i = w.1 k i) ∧ w1.1 ko 0 = w.1 ko 0
theorem Mi_0 {ko : Nat} {w : FW} : Mi ko w w [] (fun _ => 0) (fun _ => fE0) := ⟨fun _ h => absurd h List.not_mem_nil, fun _ _ _ _ => ⟨rfl, rfl⟩, rfl⟩
theorem Mi_s {ko k q : Nat} {w w1 : FW} {ks : List Nat} {A : Nat → Nat} {E : Nat → FE} {e o : FE} (h : Mi ko w w1 ks A E) (hk : k ∉ ks) (hne : k ≠ ko) : Mi ko w (fset (fnew w1 k 0 e q) ko 0 o) (k :: ks) (va_up A k q) (va_up E k e) := by
  refine ⟨fun j hj => ?_, fun j i h1 h2 => ?_, ?_⟩
  · by_cases e1 : j = k
    · subst e1
      rw [va_up_self, va_up_self]
      exact ⟨hne, (fset_ne hne).trans fnew_at, fset_ad.trans fnew_aat⟩
    · rw [va_up_ne _ _ e1, va_up_ne _ _ e1]
      have hj2 : j ∈ ks := by
        rcases List.mem_cons.mp hj with r | r
        · exact absurd r e1
        · exact r
      obtain ⟨e2, h3, h4⟩ := h.1 j hj2
      exact ⟨e2, (fset_ne e2).trans ((fnew_ne e1).trans h3), fset_ad.trans ((fnew_ane e1).trans h4)⟩
  · have e1 : j ≠ k := fun z => h2 (by rw [z]; exact List.mem_cons_self)
    have e2 : j ∉ ks := fun z => h2 (List.mem_cons_of_mem _ z)
    exact ⟨(fset_ne h1).trans ((fnew_ne e1).trans (h.2.1 j i h1 e2).1), fset_ad.trans ((fnew_ane e1).trans (h.2.1 j i h1 e2).2)⟩
  · exact fset_ad.trans ((fnew_ane (Ne.symm hne)).trans h.2.2)
set_option maxHeartbeats 4000000 in
set_option maxRecDepth 100000 in
theorem k_X1_init (l : Launch) (Γ : FG) (w : FW) (h0 : w.2 7 0 = some (oO 1 [.null, .null])) (h8 : w.2 8 0 = none) (h9 : w.2 9 0 = none) : Met l yX1_init (ws_ yX1_init cX1_init 1 none) (rmD 1 2 72) (va_Pc [.ref (w.1 7 0)] (fI Γ w)) (va_Qv (fun w1 => ∃ q1 q2, Mi 7 w w1 [9, 8] (va_up (va_up (fun _ => 0) 8 q1) 9 q2) (va_up (va_up (fun _ => fE0) 8 (aI 1 8 (fun _ => 0))) 9 (aI 1 64 (fun _ => 0))) ∧ w1.2 7 0 = some (oO 1 [.ref q1, .ref q2])) (fI Γ) (fA Γ)) 2 72 (fA Γ) := by
  refine fw_met (by decide) (Nat.le_of_ble_eq_true rfl) ?_
  intro p e s m below meth c ls C hP hS hr hlk hin hl
  have C : fC p s m [.ref (w.1 7 0)].toArray c cX1_init 1 RX1 Γ := C
  have hx := C.1.1
  have hb := C.1.2.1
  have hl : lv_has ls 1 [(0, .ref (w.1 7 0))] := hl
  refine lv_aload_n hx hb dX1_init_0 rfl (lv_at hl 0 rfl) ?_
  refine fw_obj C qm_X1_3 hl.1 ⟨(Nat.le_of_ble_eq_true rfl), (Nat.le_of_ble_eq_true rfl)⟩ (Nat.le_of_ble_eq_true rfl) dX1_init_1 ?_
  refine lv_aload_n hx hb dX1_init_4 rfl (lv_at hl 0 rfl) ?_
  refine lv_bipush (v := nI 8) hx hb dX1_init_5 (by decide) ?_
  refine fw_newI (atype := .int) C hP hS 8 0 (t := 1) (N := 8) (by decide) rfl rfl qa_int (by decide) (by decide) (Nat.le_of_ble_eq_true rfl) h8 (Nat.le_of_ble_eq_true rfl) (Nat.le_of_ble_eq_true rfl) dX1_init_7 (fun q7 H hP hS => ?_)
  have hP : fP Γ (fnew w 8 0 (aI 1 8 (fun _ => 0)) q7) H := hP
  refine pf_X1_9 C hP hS hin rfl rfl ((fnew_ne (by decide)).trans h0) ((fnew_ane (by decide)).trans rfl) (Nat.le_of_ble_eq_true rfl) dX1_init_9 (fun H locs hP hS => ?_)
  have hP : fP Γ (fset (fnew w 8 0 (aI 1 8 (fun _ => 0)) q7) 7 0 (oO 1 [.ref q7, .null])) H := hP
  obtain ⟨z1, hz1⟩ : ∃ z, z = (fset (fnew w 8 0 (aI 1 8 (fun _ => 0)) q7) 7 0 (oO 1 [.ref q7, .null])) := ⟨_, rfl⟩
  rw [← hz1] at hP
  have hM1 : Mi 7 w z1 [8] (va_up (fun _ => 0) 8 q7) (va_up (fun _ => fE0) 8 (aI 1 8 (fun _ => 0))) := by rw [hz1]; exact Mi_s (Mi_0 (ko := 7) (w := w)) (by decide) (by decide)
  have ho1 : z1.2 7 0 = some (oO 1 [.ref q7, .null]) := by rw [hz1]; exact fset_at
  clear hz1
  refine lv_aload_n hx hb dX1_init_12 rfl (lv_at hl 0 rfl) ?_
  refine lv_bipush (v := nI 64) hx hb dX1_init_13 (by decide) ?_
  refine fw_newI (atype := .int) C hP hS 9 0 (t := 1) (N := 64) (by decide) rfl rfl qa_int (by decide) (by decide) (Nat.le_of_ble_eq_true rfl) ((hM1.2.1 9 0 (by decide) (by decide)).1.trans h9) (Nat.le_of_ble_eq_true rfl) (Nat.le_of_ble_eq_true rfl) dX1_init_15 (fun q15 H hP hS => ?_)
  have hP : fP Γ (fnew z1 9 0 (aI 1 64 (fun _ => 0)) q15) H := hP
  refine pf_X1_15 C hP hS hin rfl rfl ((fnew_ne (by decide)).trans ho1) ((fnew_ane (by decide)).trans hM1.2.2) (Nat.le_of_ble_eq_true rfl) dX1_init_17 (fun H locs hP hS => ?_)
  have hP : fP Γ (fset (fnew z1 9 0 (aI 1 64 (fun _ => 0)) q15) 7 0 (oO 1 [.ref q7, .ref q15])) H := hP
  obtain ⟨z2, hz2⟩ : ∃ z, z = (fset (fnew z1 9 0 (aI 1 64 (fun _ => 0)) q15) 7 0 (oO 1 [.ref q7, .ref q15])) := ⟨_, rfl⟩
  rw [← hz2] at hP
  have hM2 : Mi 7 w z2 [9, 8] (va_up (va_up (fun _ => 0) 8 q7) 9 q15) (va_up (va_up (fun _ => fE0) 8 (aI 1 8 (fun _ => 0))) 9 (aI 1 64 (fun _ => 0))) := by rw [hz2]; exact Mi_s hM1 (by decide) (by decide)
  have ho2 : z2.2 7 0 = some (oO 1 [.ref q7, .ref q15]) := by rw [hz2]; exact fset_at
  clear hz2
  exact fw_retv C hr hlk hP hS (⟨_, _, hM2, ho2⟩) (Nat.le_of_ble_eq_true rfl) (Nat.le_of_ble_eq_true rfl) dX1_init_20
theorem cmx_00 : ∀ (k m b : Nat), cmx (fun _ _ => false) k m b = false
  | 0, _, _ => rfl
  | _ + 1, _, _ => rfl
set_option maxHeartbeats 4000000 in
set_option maxRecDepth 100000 in
theorem k_X4_init (l : Launch) (Γ : FG) (w : FW) (h0 : w.2 0 0 = some (oO 4 [.int 0, .null, .int 0, .null, .int 0, .null, .int 0, .null, .int 0, .null, .null, .long 0, .null])) (hf : ∀ k i, k < 20 → k ≠ 0 → w.2 k i = none) : Met l yX4_init (ws_ yX4_init cX4_init 1 none) (rmD 3 9 1010) (va_Pc [.ref (w.1 0 0)] (fI Γ w)) (va_Qv (fun w1 => Rc s_0 w1 ∧ (∀ k i, 20 ≤ k → w1.2 k i = w.2 k i) ∧ w1.1 0 0 = w.1 0 0) (fI Γ) (fA Γ)) 9 1010 (fA Γ) := by
  refine fw_met (by decide) (Nat.le_of_ble_eq_true rfl) ?_
  intro p e s m below meth c ls C hP hS hr hlk hin hl
  have C : fC p s m [.ref (w.1 0 0)].toArray c cX4_init 1 RX4 Γ := C
  have hx := C.1.1
  have hb := C.1.2.1
  have hl : lv_has ls 1 [(0, .ref (w.1 0 0))] := hl
  refine lv_aload_n hx hb dX4_init_0 rfl (lv_at hl 0 rfl) ?_
  refine fw_obj C qm_X4_1 hl.1 ⟨(Nat.le_of_ble_eq_true rfl), (Nat.le_of_ble_eq_true rfl)⟩ (Nat.le_of_ble_eq_true rfl) dX4_init_1 ?_
  refine lv_aload_n hx hb dX4_init_4 rfl (lv_at hl 0 rfl) ?_
  refine lv_bipush (v := nI 100) hx hb dX4_init_5 (by decide) ?_
  refine fw_newR C hP hS 1 0 (t := 4) (Cn := RX0) (N := 100) (by decide) rfl ql_X4_9 C.2.1.2.2.2.1.1 (by decide) (by decide) (Nat.le_of_ble_eq_true rfl) (hf 1 0 (by decide) (by decide)) (Nat.le_of_ble_eq_true rfl) (Nat.le_of_ble_eq_true rfl) dX4_init_7 (fun q7 H hP hS => ?_)
  have hP : fP Γ (fnew w 1 0 (aR 4 100 (fun _ => none)) q7) H := hP
  refine pf_X4_11 C hP hS hin rfl rfl ((fnew_ne (by decide)).trans h0) ((fnew_ane (by decide)).trans rfl) (Nat.le_of_ble_eq_true rfl) dX4_init_10 (fun H locs hP hS => ?_)
  have hP : fP Γ (fset (fnew w 1 0 (aR 4 100 (fun _ => none)) q7) 0 0 (oO 4 [.int 0, .ref q7, .int 0, .null, .int 0, .null, .int 0, .null, .int 0, .null, .null, .long 0, .null])) H := hP
  obtain ⟨z1, hz1⟩ : ∃ z, z = (fset (fnew w 1 0 (aR 4 100 (fun _ => none)) q7) 0 0 (oO 4 [.int 0, .ref q7, .int 0, .null, .int 0, .null, .int 0, .null, .int 0, .null, .null, .long 0, .null])) := ⟨_, rfl⟩
  rw [← hz1] at hP
  have hM1 : Mi 0 w z1 [1] (va_up (fun _ => 0) 1 q7) (va_up (fun _ => fE0) 1 (aR 4 100 (fun _ => none))) := by rw [hz1]; exact Mi_s (Mi_0 (ko := 0) (w := w)) (by decide) (by decide)
  have ho1 : z1.2 0 0 = some (oO 4 [.int 0, .ref q7, .int 0, .null, .int 0, .null, .int 0, .null, .int 0, .null, .null, .long 0, .null]) := by rw [hz1]; exact fset_at
  clear hz1
  refine lv_aload_n hx hb dX4_init_13 rfl (lv_at hl 0 rfl) ?_
  refine lv_bipush (v := nI 16) hx hb dX4_init_14 (by decide) ?_
  refine fw_newR C hP hS 2 0 (t := 6) (Cn := RX3) (N := 16) (by decide) rfl ql_X4_15 C.2.1.2.2.2.1.2.2 (by decide) (by decide) (Nat.le_of_ble_eq_true rfl) ((hM1.2.1 2 0 (by decide) (by decide)).1.trans (hf 2 0 (by decide) (by decide))) (Nat.le_of_ble_eq_true rfl) (Nat.le_of_ble_eq_true rfl) dX4_init_16 (fun q16 H hP hS => ?_)
  have hP : fP Γ (fnew z1 2 0 (aR 6 16 (fun _ => none)) q16) H := hP
  refine pf_X4_17 C hP hS hin rfl rfl ((fnew_ne (by decide)).trans ho1) ((fnew_ane (by decide)).trans hM1.2.2) (Nat.le_of_ble_eq_true rfl) dX4_init_19 (fun H locs hP hS => ?_)
  have hP : fP Γ (fset (fnew z1 2 0 (aR 6 16 (fun _ => none)) q16) 0 0 (oO 4 [.int 0, .ref q7, .int 0, .ref q16, .int 0, .null, .int 0, .null, .int 0, .null, .null, .long 0, .null])) H := hP
  obtain ⟨z2, hz2⟩ : ∃ z, z = (fset (fnew z1 2 0 (aR 6 16 (fun _ => none)) q16) 0 0 (oO 4 [.int 0, .ref q7, .int 0, .ref q16, .int 0, .null, .int 0, .null, .int 0, .null, .null, .long 0, .null])) := ⟨_, rfl⟩
  rw [← hz2] at hP
  have hM2 : Mi 0 w z2 [2, 1] (va_up (va_up (fun _ => 0) 1 q7) 2 q16) (va_up (va_up (fun _ => fE0) 1 (aR 4 100 (fun _ => none))) 2 (aR 6 16 (fun _ => none))) := by rw [hz2]; exact Mi_s hM1 (by decide) (by decide)
  have ho2 : z2.2 0 0 = some (oO 4 [.int 0, .ref q7, .int 0, .ref q16, .int 0, .null, .int 0, .null, .int 0, .null, .null, .long 0, .null]) := by rw [hz2]; exact fset_at
  clear hz2
  refine lv_aload_n hx hb dX4_init_22 rfl (lv_at hl 0 rfl) ?_
  refine lv_sipush (v := nI 400) hx hb dX4_init_23 (by decide) ?_
  refine fw_newR C hP hS 3 0 (t := 5) (Cn := RX2) (N := 400) (by decide) rfl ql_X4_21 C.2.1.2.2.2.1.2.1 (by decide) (by decide) (Nat.le_of_ble_eq_true rfl) ((hM2.2.1 3 0 (by decide) (by decide)).1.trans (hf 3 0 (by decide) (by decide))) (Nat.le_of_ble_eq_true rfl) (Nat.le_of_ble_eq_true rfl) dX4_init_26 (fun q26 H hP hS => ?_)
  have hP : fP Γ (fnew z2 3 0 (aR 5 400 (fun _ => none)) q26) H := hP
  refine pf_X4_23 C hP hS hin rfl rfl ((fnew_ne (by decide)).trans ho2) ((fnew_ane (by decide)).trans hM2.2.2) (Nat.le_of_ble_eq_true rfl) dX4_init_29 (fun H locs hP hS => ?_)
  have hP : fP Γ (fset (fnew z2 3 0 (aR 5 400 (fun _ => none)) q26) 0 0 (oO 4 [.int 0, .ref q7, .int 0, .ref q16, .int 0, .ref q26, .int 0, .null, .int 0, .null, .null, .long 0, .null])) H := hP
  obtain ⟨z3, hz3⟩ : ∃ z, z = (fset (fnew z2 3 0 (aR 5 400 (fun _ => none)) q26) 0 0 (oO 4 [.int 0, .ref q7, .int 0, .ref q16, .int 0, .ref q26, .int 0, .null, .int 0, .null, .null, .long 0, .null])) := ⟨_, rfl⟩
  rw [← hz3] at hP
  have hM3 : Mi 0 w z3 [3, 2, 1] (va_up (va_up (va_up (fun _ => 0) 1 q7) 2 q16) 3 q26) (va_up (va_up (va_up (fun _ => fE0) 1 (aR 4 100 (fun _ => none))) 2 (aR 6 16 (fun _ => none))) 3 (aR 5 400 (fun _ => none))) := by rw [hz3]; exact Mi_s hM2 (by decide) (by decide)
  have ho3 : z3.2 0 0 = some (oO 4 [.int 0, .ref q7, .int 0, .ref q16, .int 0, .ref q26, .int 0, .null, .int 0, .null, .null, .long 0, .null]) := by rw [hz3]; exact fset_at
  clear hz3
  refine lv_aload_n hx hb dX4_init_32 rfl (lv_at hl 0 rfl) ?_
  refine lv_sipush (v := nI 400) hx hb dX4_init_33 (by decide) ?_
  refine fw_newI (atype := .int) C hP hS 4 0 (t := 1) (N := 400) (by decide) rfl rfl qa_int (by decide) (by decide) (Nat.le_of_ble_eq_true rfl) ((hM3.2.1 4 0 (by decide) (by decide)).1.trans (hf 4 0 (by decide) (by decide))) (Nat.le_of_ble_eq_true rfl) (Nat.le_of_ble_eq_true rfl) dX4_init_36 (fun q36 H hP hS => ?_)
  have hP : fP Γ (fnew z3 4 0 (aI 1 400 (fun _ => 0)) q36) H := hP
  refine pf_X4_27 C hP hS hin rfl rfl ((fnew_ne (by decide)).trans ho3) ((fnew_ane (by decide)).trans hM3.2.2) (Nat.le_of_ble_eq_true rfl) dX4_init_38 (fun H locs hP hS => ?_)
  have hP : fP Γ (fset (fnew z3 4 0 (aI 1 400 (fun _ => 0)) q36) 0 0 (oO 4 [.int 0, .ref q7, .int 0, .ref q16, .int 0, .ref q26, .int 0, .ref q36, .int 0, .null, .null, .long 0, .null])) H := hP
  obtain ⟨z4, hz4⟩ : ∃ z, z = (fset (fnew z3 4 0 (aI 1 400 (fun _ => 0)) q36) 0 0 (oO 4 [.int 0, .ref q7, .int 0, .ref q16, .int 0, .ref q26, .int 0, .ref q36, .int 0, .null, .null, .long 0, .null])) := ⟨_, rfl⟩
  rw [← hz4] at hP
  have hM4 : Mi 0 w z4 [4, 3, 2, 1] (va_up (va_up (va_up (va_up (fun _ => 0) 1 q7) 2 q16) 3 q26) 4 q36) (va_up (va_up (va_up (va_up (fun _ => fE0) 1 (aR 4 100 (fun _ => none))) 2 (aR 6 16 (fun _ => none))) 3 (aR 5 400 (fun _ => none))) 4 (aI 1 400 (fun _ => 0))) := by rw [hz4]; exact Mi_s hM3 (by decide) (by decide)
  have ho4 : z4.2 0 0 = some (oO 4 [.int 0, .ref q7, .int 0, .ref q16, .int 0, .ref q26, .int 0, .ref q36, .int 0, .null, .null, .long 0, .null]) := by rw [hz4]; exact fset_at
  clear hz4
  refine lv_aload_n hx hb dX4_init_41 rfl (lv_at hl 0 rfl) ?_
  refine lv_bipush (v := nI 10) hx hb dX4_init_42 (by decide) ?_
  refine fw_newI (atype := .int) C hP hS 5 0 (t := 1) (N := 10) (by decide) rfl rfl qa_int (by decide) (by decide) (Nat.le_of_ble_eq_true rfl) ((hM4.2.1 5 0 (by decide) (by decide)).1.trans (hf 5 0 (by decide) (by decide))) (Nat.le_of_ble_eq_true rfl) (Nat.le_of_ble_eq_true rfl) dX4_init_44 (fun q44 H hP hS => ?_)
  have hP : fP Γ (fnew z4 5 0 (aI 1 10 (fun _ => 0)) q44) H := hP
  refine pf_X4_31 C hP hS hin rfl rfl ((fnew_ne (by decide)).trans ho4) ((fnew_ane (by decide)).trans hM4.2.2) (Nat.le_of_ble_eq_true rfl) dX4_init_46 (fun H locs hP hS => ?_)
  have hP : fP Γ (fset (fnew z4 5 0 (aI 1 10 (fun _ => 0)) q44) 0 0 (oO 4 [.int 0, .ref q7, .int 0, .ref q16, .int 0, .ref q26, .int 0, .ref q36, .int 0, .ref q44, .null, .long 0, .null])) H := hP
  obtain ⟨z5, hz5⟩ : ∃ z, z = (fset (fnew z4 5 0 (aI 1 10 (fun _ => 0)) q44) 0 0 (oO 4 [.int 0, .ref q7, .int 0, .ref q16, .int 0, .ref q26, .int 0, .ref q36, .int 0, .ref q44, .null, .long 0, .null])) := ⟨_, rfl⟩
  rw [← hz5] at hP
  have hM5 : Mi 0 w z5 [5, 4, 3, 2, 1] (va_up (va_up (va_up (va_up (va_up (fun _ => 0) 1 q7) 2 q16) 3 q26) 4 q36) 5 q44) (va_up (va_up (va_up (va_up (va_up (fun _ => fE0) 1 (aR 4 100 (fun _ => none))) 2 (aR 6 16 (fun _ => none))) 3 (aR 5 400 (fun _ => none))) 4 (aI 1 400 (fun _ => 0))) 5 (aI 1 10 (fun _ => 0))) := by rw [hz5]; exact Mi_s hM4 (by decide) (by decide)
  have ho5 : z5.2 0 0 = some (oO 4 [.int 0, .ref q7, .int 0, .ref q16, .int 0, .ref q26, .int 0, .ref q36, .int 0, .ref q44, .null, .long 0, .null]) := by rw [hz5]; exact fset_at
  clear hz5
  refine lv_aload_n hx hb dX4_init_49 rfl (lv_at hl 0 rfl) ?_
  refine lv_bipush (v := nI 10) hx hb dX4_init_50 (by decide) ?_
  refine fw_newI (atype := .int) C hP hS 6 0 (t := 1) (N := 10) (by decide) rfl rfl qa_int (by decide) (by decide) (Nat.le_of_ble_eq_true rfl) ((hM5.2.1 6 0 (by decide) (by decide)).1.trans (hf 6 0 (by decide) (by decide))) (Nat.le_of_ble_eq_true rfl) (Nat.le_of_ble_eq_true rfl) dX4_init_52 (fun q52 H hP hS => ?_)
  have hP : fP Γ (fnew z5 6 0 (aI 1 10 (fun _ => 0)) q52) H := hP
  refine pf_X4_34 C hP hS hin rfl rfl ((fnew_ne (by decide)).trans ho5) ((fnew_ane (by decide)).trans hM5.2.2) (Nat.le_of_ble_eq_true rfl) dX4_init_54 (fun H locs hP hS => ?_)
  have hP : fP Γ (fset (fnew z5 6 0 (aI 1 10 (fun _ => 0)) q52) 0 0 (oO 4 [.int 0, .ref q7, .int 0, .ref q16, .int 0, .ref q26, .int 0, .ref q36, .int 0, .ref q44, .ref q52, .long 0, .null])) H := hP
  obtain ⟨z6, hz6⟩ : ∃ z, z = (fset (fnew z5 6 0 (aI 1 10 (fun _ => 0)) q52) 0 0 (oO 4 [.int 0, .ref q7, .int 0, .ref q16, .int 0, .ref q26, .int 0, .ref q36, .int 0, .ref q44, .ref q52, .long 0, .null])) := ⟨_, rfl⟩
  rw [← hz6] at hP
  have hM6 : Mi 0 w z6 [6, 5, 4, 3, 2, 1] (va_up (va_up (va_up (va_up (va_up (va_up (fun _ => 0) 1 q7) 2 q16) 3 q26) 4 q36) 5 q44) 6 q52) (va_up (va_up (va_up (va_up (va_up (va_up (fun _ => fE0) 1 (aR 4 100 (fun _ => none))) 2 (aR 6 16 (fun _ => none))) 3 (aR 5 400 (fun _ => none))) 4 (aI 1 400 (fun _ => 0))) 5 (aI 1 10 (fun _ => 0))) 6 (aI 1 10 (fun _ => 0))) := by rw [hz6]; exact Mi_s hM5 (by decide) (by decide)
  have ho6 : z6.2 0 0 = some (oO 4 [.int 0, .ref q7, .int 0, .ref q16, .int 0, .ref q26, .int 0, .ref q36, .int 0, .ref q44, .ref q52, .long 0, .null]) := by rw [hz6]; exact fset_at
  clear hz6
  refine lv_aload_n hx hb dX4_init_57 rfl (lv_at hl 0 rfl) ?_
  refine fw_new (ci := 1) (fs := [.null, .null]) C hP hS 7 0 qy_X1 tyX1 tyX1_ok rfl ⟨ql_X4_37, qx_X1, qn_X1⟩ (by intro j hj; match j, hj with | 0, _ => rfl | 1, _ => rfl | k + 2, hj => exact absurd hj (by omega)) ((hM6.2.1 7 0 (by decide) (by decide)).1.trans (hf 7 0 (by decide) (by decide))) (Nat.le_of_ble_eq_true rfl) (Nat.le_of_ble_eq_true rfl) dX4_init_58 (fun q58 H hP hS => ?_)
  have hP : fP Γ (fnew z6 7 0 (oO 1 [.null, .null]) q58) H := hP
  refine lv_dup hx hb dX4_init_61 rfl ?_
  have hm := k_X1_init l Γ (fnew z6 7 0 (oO 1 [.null, .null]) q58) fnew_at ((fnew_ne (by decide)).trans ((hM6.2.1 8 0 (by decide) (by decide)).1.trans (hf 8 0 (by decide) (by decide)))) ((fnew_ne (by decide)).trans ((hM6.2.1 9 0 (by decide) (by decide)).1.trans (hf 9 0 (by decide) (by decide))))
  rw [show (fnew z6 7 0 (oO 1 [.null, .null]) q58).1 7 0 = q58 from fnew_aat] at hm
  refine fw_cv hS (fw_rI (rest := [.ref q58, .ref (w.1 0 0)]) (As := []) C hP hS wI_X4_39 (hm) (fRm_mk rfl rfl (Nat.le_of_ble_eq_true rfl) (Nat.le_of_ble_eq_true rfl) (Nat.le_of_ble_eq_true rfl) (Nat.le_of_ble_eq_true rfl) (Nat.le_of_ble_eq_true rfl)) rfl hl.1 rfl dX4_init_62) (fun w9 H locs hp hP hS => ?_)
  obtain ⟨q1, q2, hM9, ho9⟩ := hp
  have a07 : w9.1 7 0 = q58 := hM9.2.2.trans fnew_aat
  have k9 : ∀ k i, k ≠ 7 → k ∉ [9, 8] → w9.2 k i = z6.2 k i ∧ w9.1 k i = z6.1 k i := fun k i g1 g2 => ⟨(hM9.2.1 k i g1 g2).1.trans (fnew_ne g1), (hM9.2.1 k i g1 g2).2.trans (fnew_ane g1)⟩
  have h90 : w9.2 0 0 = some (oO 4 [.int 0, .ref q7, .int 0, .ref q16, .int 0, .ref q26, .int 0, .ref q36, .int 0, .ref q44, .ref q52, .long 0, .null]) := (k9 0 0 (by decide) (by decide)).1.trans ho6
  refine pf_X4_40 C hP hS hin rfl rfl h90 ((k9 0 0 (by decide) (by decide)).2.trans hM6.2.2) (Nat.le_of_ble_eq_true rfl) dX4_init_65 (fun H locs hP hS => ?_)
  have hP : fP Γ (fset w9 0 0 (oO 4 [.int 0, .ref q7, .int 0, .ref q16, .int 0, .ref q26, .int 0, .ref q36, .int 0, .ref q44, .ref q52, .long 0, .ref q58])) H := hP
  obtain ⟨W9, hW9⟩ : ∃ z, z = (fset w9 0 0 (oO 4 [.int 0, .ref q7, .int 0, .ref q16, .int 0, .ref q26, .int 0, .ref q36, .int 0, .ref q44, .ref q52, .long 0, .ref q58])) := ⟨_, rfl⟩
  rw [← hW9] at hP
  have kW : ∀ k i, k ≠ 0 → W9.2 k i = w9.2 k i := fun k i g => by rw [hW9]; exact fset_ne g
  have kA : W9.1 = w9.1 := by rw [hW9]; rfl
  have hR : Rc s_0 W9 := by
    have g : ∀ k, k ∈ [6, 5, 4, 3, 2, 1] → W9.2 k 0 = some ((va_up (va_up (va_up (va_up (va_up (va_up (fun _ => fE0) 1 (aR 4 100 (fun _ => none))) 2 (aR 6 16 (fun _ => none))) 3 (aR 5 400 (fun _ => none))) 4 (aI 1 400 (fun _ => 0))) 5 (aI 1 10 (fun _ => 0))) 6 (aI 1 10 (fun _ => 0))) k) ∧ W9.1 k 0 = (va_up (va_up (va_up (va_up (va_up (va_up (fun _ => 0) 1 q7) 2 q16) 3 q26) 4 q36) 5 q44) 6 q52) k := by
      intro k hk
      have b1 : k ≠ 7 := fun z => by subst z; exact absurd hk (by decide)
      have b2 : k ∉ [9, 8] := fun z => by
        rcases List.mem_cons.mp z with z | z
        · subst z; exact absurd hk (by decide)
        · rcases List.mem_cons.mp z with z | z
          · subst z; exact absurd hk (by decide)
          · exact absurd z List.not_mem_nil
      obtain ⟨g0, g1, g2⟩ := hM6.1 k hk
      exact ⟨(kW k 0 g0).trans ((k9 k 0 b1 b2).1.trans g1), by rw [kA]; exact (k9 k 0 b1 b2).2.trans g2⟩
    have no : ∀ k i, 10 ≤ k → k < 20 → W9.2 k i = none := fun k i g1 g2 => by
      have b2 : k ∉ [9, 8] := by
        intro z
        rcases List.mem_cons.mp z with z | z
        · omega
        · rcases List.mem_cons.mp z with z | z
          · omega
          · exact absurd z List.not_mem_nil
      have b3 : k ∉ [6, 5, 4, 3, 2, 1] := by
        intro z
        simp only [List.mem_cons, List.not_mem_nil, or_false] at z
        omega
      exact (kW k i (by omega)).trans ((k9 k i (by omega) b2).1.trans ((hM6.2.1 k i (by omega) b3).1.trans (hf k i g2 (by omega))))
    have g1 : W9.2 1 0 = some (aR 4 100 (fun _ => none)) := (g 1 (by decide)).1
    have a1 : W9.1 1 0 = q7 := (g 1 (by decide)).2
    have g2 : W9.2 2 0 = some (aR 6 16 (fun _ => none)) := (g 2 (by decide)).1
    have a2 : W9.1 2 0 = q16 := (g 2 (by decide)).2
    have g3 : W9.2 3 0 = some (aR 5 400 (fun _ => none)) := (g 3 (by decide)).1
    have a3 : W9.1 3 0 = q26 := (g 3 (by decide)).2
    have g4 : W9.2 4 0 = some (aI 1 400 (fun _ => 0)) := (g 4 (by decide)).1
    have a4 : W9.1 4 0 = q36 := (g 4 (by decide)).2
    have g5 : W9.2 5 0 = some (aI 1 10 (fun _ => 0)) := (g 5 (by decide)).1
    have a5 : W9.1 5 0 = q44 := (g 5 (by decide)).2
    have g6 : W9.2 6 0 = some (aI 1 10 (fun _ => 0)) := (g 6 (by decide)).1
    have a6 : W9.1 6 0 = q52 := (g 6 (by decide)).2
    have a7 : W9.1 7 0 = q58 := by rw [kA]; exact a07
    have a8 : w9.1 8 0 = q1 := (hM9.1 8 (by decide)).2.2
    have a9 : w9.1 9 0 = q2 := (hM9.1 9 (by decide)).2.2
    refine ⟨?_, ⟨_, g1, fun i hi => absurd hi (Nat.not_lt_zero _), fun i _ => no 10 i (by decide) (by decide)⟩, ⟨⟨_, g2, fun i hi => absurd hi (Nat.not_lt_zero _)⟩, fun i hi => absurd hi (Nat.not_lt_zero _), fun i _ => ⟨no 11 i (by decide) (by decide), no 12 i (by decide) (by decide), no 13 i (by decide) (by decide), no 14 i (by decide) (by decide), no 15 i (by decide) (by decide)⟩⟩, ⟨⟨_, g3, fun i hi => absurd hi (Nat.not_lt_zero _)⟩, fun i hi => absurd hi (Nat.not_lt_zero _), fun i _ => ⟨no 16 i (by decide) (by decide), no 17 i (by decide) (by decide)⟩⟩, ⟨_, g4, fun i hi => absurd hi (Nat.not_lt_zero _)⟩, ⟨_, _, g5, g6, fun m _ => ?_, fun m _ => ?_⟩, ?_, ⟨_, (kW 8 0 (by decide)).trans (hM9.1 8 (by decide)).2.1⟩, ⟨_, (kW 9 0 (by decide)).trans (hM9.1 9 (by decide)).2.1⟩⟩
    · show W9.2 0 0 = some (oO 4 [_, .ref (W9.1 1 0), _, .ref (W9.1 2 0), _, .ref (W9.1 3 0), _, .ref (W9.1 4 0), _, .ref (W9.1 5 0), .ref (W9.1 6 0), _, .ref (W9.1 7 0)])
      rw [a1, a2, a3, a4, a5, a6, a7, hW9]
      exact fset_at
    · exact msk_0.symm
    · exact ((msk_congr (p := fun b => cmx (s_bh s_0) 10 m b) (q := fun _ => false) (fun b _ => cmx_00 10 m b)).trans msk_0).symm
    · rw [kW 7 0 (by decide), ho9, kA, a8, a9]
  have hK : ∀ k i, 20 ≤ k → W9.2 k i = w.2 k i := fun k i g1 => by
    have b2 : k ∉ [9, 8] := by
      intro z
      simp only [List.mem_cons, List.not_mem_nil, or_false] at z
      omega
    have b3 : k ∉ [6, 5, 4, 3, 2, 1] := by
      intro z
      simp only [List.mem_cons, List.not_mem_nil, or_false] at z
      omega
    exact (kW k i (by omega)).trans ((k9 k i (by omega) b2).1.trans (hM6.2.1 k i (by omega) b3).1)
  have h00 : W9.1 0 0 = w.1 0 0 := by rw [kA]; exact (k9 0 0 (by decide) (by decide)).2.trans hM6.2.2
  exact fw_retv C hr hlk hP hS (⟨hR, hK, h00⟩) (Nat.le_of_ble_eq_true rfl) (Nat.le_of_ble_eq_true rfl) dX4_init_68
set_option maxHeartbeats 16000000 in
set_option maxRecDepth 100000 in
theorem k_X5_init (l : Launch) (Γ : FG) (w : FW) (h0 : w.2 20 0 = some (oO 5 [.int 0, .int 0, .null, .null, .null, .null, .int 0, .null, .null, .null, .null, .null, .null, .null, .null, .int 0, .null, .null, .null, .null, .null, .int 0, .null, .null, .long 0, .int 0, .int (b2i false), .null, .null, .null, .null, .null])) (hf : ∀ k, 32 ≤ k → k < 62 → w.2 k 0 = none) : Met l yX5_init (ws_ yX5_init cX5_init 1 none) (rmD 1 24 25404) (va_Pc [.ref (w.1 20 0)] (fI Γ w)) (va_Qv (fun w1 => Rm s_0 0 w1 ∧ (∀ k i, k < 20 ∨ 62 ≤ k → w1.2 k i = w.2 k i ∧ w1.1 k i = w.1 k i) ∧ w1.1 20 0 = w.1 20 0) (fI Γ) (fA Γ)) 24 25404 (fA Γ) := by
  refine fw_met (by decide) (Nat.le_of_ble_eq_true rfl) ?_
  intro p e s m below meth c ls C hP hS hr hlk hin hl
  have C : fC p s m [.ref (w.1 20 0)].toArray c cX5_init 1 RX5 Γ := C
  have hx := C.1.1
  have hb := C.1.2.1
  have hl : lv_has ls 1 [(0, .ref (w.1 20 0))] := hl
  refine lv_aload_n hx hb dX5_init_0 rfl (lv_at hl 0 rfl) ?_
  refine fw_obj C qm_X5_1 hl.1 ⟨(Nat.le_of_ble_eq_true rfl), (Nat.le_of_ble_eq_true rfl)⟩ (Nat.le_of_ble_eq_true rfl) dX5_init_1 ?_
  refine lv_aload_n hx hb dX5_init_4 rfl (lv_at hl 0 rfl) ?_
  refine lv_bipush (v := nI 100) hx hb dX5_init_5 (by decide) ?_
  refine fw_newI (atype := .int) C hP hS 32 0 (t := 1) (N := 100) (by decide) rfl rfl qa_int (by decide) (by decide) (Nat.le_of_ble_eq_true rfl) (hf 32 (by decide) (by decide)) (Nat.le_of_ble_eq_true rfl) (Nat.le_of_ble_eq_true rfl) dX5_init_7 (fun q7 H hP hS => ?_)
  have hP : fP Γ (fnew w 32 0 (aI 1 100 (fun _ => 0)) q7) H := hP
  refine pf_X5_9 C hP hS hin rfl rfl ((fnew_ne (by decide)).trans h0) ((fnew_ane (by decide)).trans rfl) (Nat.le_of_ble_eq_true rfl) dX5_init_9 (fun H locs hP hS => ?_)
  have hP : fP Γ (fset (fnew w 32 0 (aI 1 100 (fun _ => 0)) q7) 20 0 (oO 5 [.int 0, .int 0, .ref q7, .null, .null, .null, .int 0, .null, .null, .null, .null, .null, .null, .null, .null, .int 0, .null, .null, .null, .null, .null, .int 0, .null, .null, .long 0, .int 0, .int (b2i false), .null, .null, .null, .null, .null])) H := hP
  obtain ⟨z1, hz1⟩ : ∃ z, z = (fset (fnew w 32 0 (aI 1 100 (fun _ => 0)) q7) 20 0 (oO 5 [.int 0, .int 0, .ref q7, .null, .null, .null, .int 0, .null, .null, .null, .null, .null, .null, .null, .null, .int 0, .null, .null, .null, .null, .null, .int 0, .null, .null, .long 0, .int 0, .int (b2i false), .null, .null, .null, .null, .null])) := ⟨_, rfl⟩
  rw [← hz1] at hP
  have hM1 : Mi 20 w z1 [32] (va_up (fun _ => 0) 32 q7) (va_up (fun _ => fE0) 32 (aI 1 100 (fun _ => 0))) := by rw [hz1]; exact Mi_s (Mi_0 (ko := 20) (w := w)) (by decide) (by decide)
  have ho1 : z1.2 20 0 = some (oO 5 [.int 0, .int 0, .ref q7, .null, .null, .null, .int 0, .null, .null, .null, .null, .null, .null, .null, .null, .int 0, .null, .null, .null, .null, .null, .int 0, .null, .null, .long 0, .int 0, .int (b2i false), .null, .null, .null, .null, .null]) := by rw [hz1]; exact fset_at
  clear hz1
  refine lv_aload_n hx hb dX5_init_12 rfl (lv_at hl 0 rfl) ?_
  refine lv_bipush (v := nI 100) hx hb dX5_init_13 (by decide) ?_
  refine fw_newI (atype := .int) C hP hS 33 0 (t := 1) (N := 100) (by decide) rfl rfl qa_int (by decide) (by decide) (Nat.le_of_ble_eq_true rfl) ((hM1.2.1 33 0 (by decide) (by decide)).1.trans (hf 33 (by decide) (by decide))) (Nat.le_of_ble_eq_true rfl) (Nat.le_of_ble_eq_true rfl) dX5_init_15 (fun q15 H hP hS => ?_)
  have hP : fP Γ (fnew z1 33 0 (aI 1 100 (fun _ => 0)) q15) H := hP
  refine pf_X5_13 C hP hS hin rfl rfl ((fnew_ne (by decide)).trans ho1) ((fnew_ane (by decide)).trans hM1.2.2) (Nat.le_of_ble_eq_true rfl) dX5_init_17 (fun H locs hP hS => ?_)
  have hP : fP Γ (fset (fnew z1 33 0 (aI 1 100 (fun _ => 0)) q15) 20 0 (oO 5 [.int 0, .int 0, .ref q7, .ref q15, .null, .null, .int 0, .null, .null, .null, .null, .null, .null, .null, .null, .int 0, .null, .null, .null, .null, .null, .int 0, .null, .null, .long 0, .int 0, .int (b2i false), .null, .null, .null, .null, .null])) H := hP
  obtain ⟨z2, hz2⟩ : ∃ z, z = (fset (fnew z1 33 0 (aI 1 100 (fun _ => 0)) q15) 20 0 (oO 5 [.int 0, .int 0, .ref q7, .ref q15, .null, .null, .int 0, .null, .null, .null, .null, .null, .null, .null, .null, .int 0, .null, .null, .null, .null, .null, .int 0, .null, .null, .long 0, .int 0, .int (b2i false), .null, .null, .null, .null, .null])) := ⟨_, rfl⟩
  rw [← hz2] at hP
  have hM2 : Mi 20 w z2 [33, 32] (va_up (va_up (fun _ => 0) 32 q7) 33 q15) (va_up (va_up (fun _ => fE0) 32 (aI 1 100 (fun _ => 0))) 33 (aI 1 100 (fun _ => 0))) := by rw [hz2]; exact Mi_s hM1 (by decide) (by decide)
  have ho2 : z2.2 20 0 = some (oO 5 [.int 0, .int 0, .ref q7, .ref q15, .null, .null, .int 0, .null, .null, .null, .null, .null, .null, .null, .null, .int 0, .null, .null, .null, .null, .null, .int 0, .null, .null, .long 0, .int 0, .int (b2i false), .null, .null, .null, .null, .null]) := by rw [hz2]; exact fset_at
  clear hz2
  refine lv_aload_n hx hb dX5_init_20 rfl (lv_at hl 0 rfl) ?_
  refine lv_bipush (v := nI 100) hx hb dX5_init_21 (by decide) ?_
  refine fw_newL C hP hS 34 0 (N := 100) (by decide) (by decide) (Nat.le_of_ble_eq_true rfl) ((hM2.2.1 34 0 (by decide) (by decide)).1.trans (hf 34 (by decide) (by decide))) (Nat.le_of_ble_eq_true rfl) (Nat.le_of_ble_eq_true rfl) dX5_init_23 (fun q23 H hP hS => ?_)
  have hP : fP Γ (fnew z2 34 0 (aL 100 (fun _ => 0)) q23) H := hP
  refine pf_X5_16 C hP hS hin rfl rfl ((fnew_ne (by decide)).trans ho2) ((fnew_ane (by decide)).trans hM2.2.2) (Nat.le_of_ble_eq_true rfl) dX5_init_25 (fun H locs hP hS => ?_)
  have hP : fP Γ (fset (fnew z2 34 0 (aL 100 (fun _ => 0)) q23) 20 0 (oO 5 [.int 0, .int 0, .ref q7, .ref q15, .ref q23, .null, .int 0, .null, .null, .null, .null, .null, .null, .null, .null, .int 0, .null, .null, .null, .null, .null, .int 0, .null, .null, .long 0, .int 0, .int (b2i false), .null, .null, .null, .null, .null])) H := hP
  obtain ⟨z3, hz3⟩ : ∃ z, z = (fset (fnew z2 34 0 (aL 100 (fun _ => 0)) q23) 20 0 (oO 5 [.int 0, .int 0, .ref q7, .ref q15, .ref q23, .null, .int 0, .null, .null, .null, .null, .null, .null, .null, .null, .int 0, .null, .null, .null, .null, .null, .int 0, .null, .null, .long 0, .int 0, .int (b2i false), .null, .null, .null, .null, .null])) := ⟨_, rfl⟩
  rw [← hz3] at hP
  have hM3 : Mi 20 w z3 [34, 33, 32] (va_up (va_up (va_up (fun _ => 0) 32 q7) 33 q15) 34 q23) (va_up (va_up (va_up (fun _ => fE0) 32 (aI 1 100 (fun _ => 0))) 33 (aI 1 100 (fun _ => 0))) 34 (aL 100 (fun _ => 0))) := by rw [hz3]; exact Mi_s hM2 (by decide) (by decide)
  have ho3 : z3.2 20 0 = some (oO 5 [.int 0, .int 0, .ref q7, .ref q15, .ref q23, .null, .int 0, .null, .null, .null, .null, .null, .null, .null, .null, .int 0, .null, .null, .null, .null, .null, .int 0, .null, .null, .long 0, .int 0, .int (b2i false), .null, .null, .null, .null, .null]) := by rw [hz3]; exact fset_at
  clear hz3
  refine lv_aload_n hx hb dX5_init_28 rfl (lv_at hl 0 rfl) ?_
  refine lv_bipush (v := nI 100) hx hb dX5_init_29 (by decide) ?_
  refine fw_newL C hP hS 35 0 (N := 100) (by decide) (by decide) (Nat.le_of_ble_eq_true rfl) ((hM3.2.1 35 0 (by decide) (by decide)).1.trans (hf 35 (by decide) (by decide))) (Nat.le_of_ble_eq_true rfl) (Nat.le_of_ble_eq_true rfl) dX5_init_31 (fun q31 H hP hS => ?_)
  have hP : fP Γ (fnew z3 35 0 (aL 100 (fun _ => 0)) q31) H := hP
  refine pf_X5_20 C hP hS hin rfl rfl ((fnew_ne (by decide)).trans ho3) ((fnew_ane (by decide)).trans hM3.2.2) (Nat.le_of_ble_eq_true rfl) dX5_init_33 (fun H locs hP hS => ?_)
  have hP : fP Γ (fset (fnew z3 35 0 (aL 100 (fun _ => 0)) q31) 20 0 (oO 5 [.int 0, .int 0, .ref q7, .ref q15, .ref q23, .ref q31, .int 0, .null, .null, .null, .null, .null, .null, .null, .null, .int 0, .null, .null, .null, .null, .null, .int 0, .null, .null, .long 0, .int 0, .int (b2i false), .null, .null, .null, .null, .null])) H := hP
  obtain ⟨z4, hz4⟩ : ∃ z, z = (fset (fnew z3 35 0 (aL 100 (fun _ => 0)) q31) 20 0 (oO 5 [.int 0, .int 0, .ref q7, .ref q15, .ref q23, .ref q31, .int 0, .null, .null, .null, .null, .null, .null, .null, .null, .int 0, .null, .null, .null, .null, .null, .int 0, .null, .null, .long 0, .int 0, .int (b2i false), .null, .null, .null, .null, .null])) := ⟨_, rfl⟩
  rw [← hz4] at hP
  have hM4 : Mi 20 w z4 [35, 34, 33, 32] (va_up (va_up (va_up (va_up (fun _ => 0) 32 q7) 33 q15) 34 q23) 35 q31) (va_up (va_up (va_up (va_up (fun _ => fE0) 32 (aI 1 100 (fun _ => 0))) 33 (aI 1 100 (fun _ => 0))) 34 (aL 100 (fun _ => 0))) 35 (aL 100 (fun _ => 0))) := by rw [hz4]; exact Mi_s hM3 (by decide) (by decide)
  have ho4 : z4.2 20 0 = some (oO 5 [.int 0, .int 0, .ref q7, .ref q15, .ref q23, .ref q31, .int 0, .null, .null, .null, .null, .null, .null, .null, .null, .int 0, .null, .null, .null, .null, .null, .int 0, .null, .null, .long 0, .int 0, .int (b2i false), .null, .null, .null, .null, .null]) := by rw [hz4]; exact fset_at
  clear hz4
  refine lv_aload_n hx hb dX5_init_36 rfl (lv_at hl 0 rfl) ?_
  refine lv_bipush (v := nI 16) hx hb dX5_init_37 (by decide) ?_
  refine fw_newI (atype := .int) C hP hS 37 0 (t := 1) (N := 16) (by decide) rfl rfl qa_int (by decide) (by decide) (Nat.le_of_ble_eq_true rfl) ((hM4.2.1 37 0 (by decide) (by decide)).1.trans (hf 37 (by decide) (by decide))) (Nat.le_of_ble_eq_true rfl) (Nat.le_of_ble_eq_true rfl) dX5_init_39 (fun q39 H hP hS => ?_)
  have hP : fP Γ (fnew z4 37 0 (aI 1 16 (fun _ => 0)) q39) H := hP
  refine pf_X5_23 C hP hS hin rfl rfl ((fnew_ne (by decide)).trans ho4) ((fnew_ane (by decide)).trans hM4.2.2) (Nat.le_of_ble_eq_true rfl) dX5_init_41 (fun H locs hP hS => ?_)
  have hP : fP Γ (fset (fnew z4 37 0 (aI 1 16 (fun _ => 0)) q39) 20 0 (oO 5 [.int 0, .int 0, .ref q7, .ref q15, .ref q23, .ref q31, .int 0, .ref q39, .null, .null, .null, .null, .null, .null, .null, .int 0, .null, .null, .null, .null, .null, .int 0, .null, .null, .long 0, .int 0, .int (b2i false), .null, .null, .null, .null, .null])) H := hP
  obtain ⟨z5, hz5⟩ : ∃ z, z = (fset (fnew z4 37 0 (aI 1 16 (fun _ => 0)) q39) 20 0 (oO 5 [.int 0, .int 0, .ref q7, .ref q15, .ref q23, .ref q31, .int 0, .ref q39, .null, .null, .null, .null, .null, .null, .null, .int 0, .null, .null, .null, .null, .null, .int 0, .null, .null, .long 0, .int 0, .int (b2i false), .null, .null, .null, .null, .null])) := ⟨_, rfl⟩
  rw [← hz5] at hP
  have hM5 : Mi 20 w z5 [37, 35, 34, 33, 32] (va_up (va_up (va_up (va_up (va_up (fun _ => 0) 32 q7) 33 q15) 34 q23) 35 q31) 37 q39) (va_up (va_up (va_up (va_up (va_up (fun _ => fE0) 32 (aI 1 100 (fun _ => 0))) 33 (aI 1 100 (fun _ => 0))) 34 (aL 100 (fun _ => 0))) 35 (aL 100 (fun _ => 0))) 37 (aI 1 16 (fun _ => 0))) := by rw [hz5]; exact Mi_s hM4 (by decide) (by decide)
  have ho5 : z5.2 20 0 = some (oO 5 [.int 0, .int 0, .ref q7, .ref q15, .ref q23, .ref q31, .int 0, .ref q39, .null, .null, .null, .null, .null, .null, .null, .int 0, .null, .null, .null, .null, .null, .int 0, .null, .null, .long 0, .int 0, .int (b2i false), .null, .null, .null, .null, .null]) := by rw [hz5]; exact fset_at
  clear hz5
  refine lv_aload_n hx hb dX5_init_44 rfl (lv_at hl 0 rfl) ?_
  refine lv_bipush (v := nI 16) hx hb dX5_init_45 (by decide) ?_
  refine fw_newI (atype := .int) C hP hS 38 0 (t := 1) (N := 16) (by decide) rfl rfl qa_int (by decide) (by decide) (Nat.le_of_ble_eq_true rfl) ((hM5.2.1 38 0 (by decide) (by decide)).1.trans (hf 38 (by decide) (by decide))) (Nat.le_of_ble_eq_true rfl) (Nat.le_of_ble_eq_true rfl) dX5_init_47 (fun q47 H hP hS => ?_)
  have hP : fP Γ (fnew z5 38 0 (aI 1 16 (fun _ => 0)) q47) H := hP
  refine pf_X5_26 C hP hS hin rfl rfl ((fnew_ne (by decide)).trans ho5) ((fnew_ane (by decide)).trans hM5.2.2) (Nat.le_of_ble_eq_true rfl) dX5_init_49 (fun H locs hP hS => ?_)
  have hP : fP Γ (fset (fnew z5 38 0 (aI 1 16 (fun _ => 0)) q47) 20 0 (oO 5 [.int 0, .int 0, .ref q7, .ref q15, .ref q23, .ref q31, .int 0, .ref q39, .ref q47, .null, .null, .null, .null, .null, .null, .int 0, .null, .null, .null, .null, .null, .int 0, .null, .null, .long 0, .int 0, .int (b2i false), .null, .null, .null, .null, .null])) H := hP
  obtain ⟨z6, hz6⟩ : ∃ z, z = (fset (fnew z5 38 0 (aI 1 16 (fun _ => 0)) q47) 20 0 (oO 5 [.int 0, .int 0, .ref q7, .ref q15, .ref q23, .ref q31, .int 0, .ref q39, .ref q47, .null, .null, .null, .null, .null, .null, .int 0, .null, .null, .null, .null, .null, .int 0, .null, .null, .long 0, .int 0, .int (b2i false), .null, .null, .null, .null, .null])) := ⟨_, rfl⟩
  rw [← hz6] at hP
  have hM6 : Mi 20 w z6 [38, 37, 35, 34, 33, 32] (va_up (va_up (va_up (va_up (va_up (va_up (fun _ => 0) 32 q7) 33 q15) 34 q23) 35 q31) 37 q39) 38 q47) (va_up (va_up (va_up (va_up (va_up (va_up (fun _ => fE0) 32 (aI 1 100 (fun _ => 0))) 33 (aI 1 100 (fun _ => 0))) 34 (aL 100 (fun _ => 0))) 35 (aL 100 (fun _ => 0))) 37 (aI 1 16 (fun _ => 0))) 38 (aI 1 16 (fun _ => 0))) := by rw [hz6]; exact Mi_s hM5 (by decide) (by decide)
  have ho6 : z6.2 20 0 = some (oO 5 [.int 0, .int 0, .ref q7, .ref q15, .ref q23, .ref q31, .int 0, .ref q39, .ref q47, .null, .null, .null, .null, .null, .null, .int 0, .null, .null, .null, .null, .null, .int 0, .null, .null, .long 0, .int 0, .int (b2i false), .null, .null, .null, .null, .null]) := by rw [hz6]; exact fset_at
  clear hz6
  refine lv_aload_n hx hb dX5_init_52 rfl (lv_at hl 0 rfl) ?_
  refine lv_sipush (v := nI 128) hx hb dX5_init_53 (by decide) ?_
  refine fw_newI (atype := .int) C hP hS 39 0 (t := 1) (N := 128) (by decide) rfl rfl qa_int (by decide) (by decide) (Nat.le_of_ble_eq_true rfl) ((hM6.2.1 39 0 (by decide) (by decide)).1.trans (hf 39 (by decide) (by decide))) (Nat.le_of_ble_eq_true rfl) (Nat.le_of_ble_eq_true rfl) dX5_init_56 (fun q56 H hP hS => ?_)
  have hP : fP Γ (fnew z6 39 0 (aI 1 128 (fun _ => 0)) q56) H := hP
  refine pf_X5_29 C hP hS hin rfl rfl ((fnew_ne (by decide)).trans ho6) ((fnew_ane (by decide)).trans hM6.2.2) (Nat.le_of_ble_eq_true rfl) dX5_init_58 (fun H locs hP hS => ?_)
  have hP : fP Γ (fset (fnew z6 39 0 (aI 1 128 (fun _ => 0)) q56) 20 0 (oO 5 [.int 0, .int 0, .ref q7, .ref q15, .ref q23, .ref q31, .int 0, .ref q39, .ref q47, .ref q56, .null, .null, .null, .null, .null, .int 0, .null, .null, .null, .null, .null, .int 0, .null, .null, .long 0, .int 0, .int (b2i false), .null, .null, .null, .null, .null])) H := hP
  obtain ⟨z7, hz7⟩ : ∃ z, z = (fset (fnew z6 39 0 (aI 1 128 (fun _ => 0)) q56) 20 0 (oO 5 [.int 0, .int 0, .ref q7, .ref q15, .ref q23, .ref q31, .int 0, .ref q39, .ref q47, .ref q56, .null, .null, .null, .null, .null, .int 0, .null, .null, .null, .null, .null, .int 0, .null, .null, .long 0, .int 0, .int (b2i false), .null, .null, .null, .null, .null])) := ⟨_, rfl⟩
  rw [← hz7] at hP
  have hM7 : Mi 20 w z7 [39, 38, 37, 35, 34, 33, 32] (va_up (va_up (va_up (va_up (va_up (va_up (va_up (fun _ => 0) 32 q7) 33 q15) 34 q23) 35 q31) 37 q39) 38 q47) 39 q56) (va_up (va_up (va_up (va_up (va_up (va_up (va_up (fun _ => fE0) 32 (aI 1 100 (fun _ => 0))) 33 (aI 1 100 (fun _ => 0))) 34 (aL 100 (fun _ => 0))) 35 (aL 100 (fun _ => 0))) 37 (aI 1 16 (fun _ => 0))) 38 (aI 1 16 (fun _ => 0))) 39 (aI 1 128 (fun _ => 0))) := by rw [hz7]; exact Mi_s hM6 (by decide) (by decide)
  have ho7 : z7.2 20 0 = some (oO 5 [.int 0, .int 0, .ref q7, .ref q15, .ref q23, .ref q31, .int 0, .ref q39, .ref q47, .ref q56, .null, .null, .null, .null, .null, .int 0, .null, .null, .null, .null, .null, .int 0, .null, .null, .long 0, .int 0, .int (b2i false), .null, .null, .null, .null, .null]) := by rw [hz7]; exact fset_at
  clear hz7
  refine lv_aload_n hx hb dX5_init_61 rfl (lv_at hl 0 rfl) ?_
  refine lv_sipush (v := nI 16000) hx hb dX5_init_62 (by decide) ?_
  refine fw_newI (atype := .int) C hP hS 40 0 (t := 1) (N := 16000) (by decide) rfl rfl qa_int (by decide) (by decide) (Nat.le_of_ble_eq_true rfl) ((hM7.2.1 40 0 (by decide) (by decide)).1.trans (hf 40 (by decide) (by decide))) (Nat.le_of_ble_eq_true rfl) (Nat.le_of_ble_eq_true rfl) dX5_init_65 (fun q65 H hP hS => ?_)
  have hP : fP Γ (fnew z7 40 0 (aI 1 16000 (fun _ => 0)) q65) H := hP
  refine pf_X5_32 C hP hS hin rfl rfl ((fnew_ne (by decide)).trans ho7) ((fnew_ane (by decide)).trans hM7.2.2) (Nat.le_of_ble_eq_true rfl) dX5_init_67 (fun H locs hP hS => ?_)
  have hP : fP Γ (fset (fnew z7 40 0 (aI 1 16000 (fun _ => 0)) q65) 20 0 (oO 5 [.int 0, .int 0, .ref q7, .ref q15, .ref q23, .ref q31, .int 0, .ref q39, .ref q47, .ref q56, .ref q65, .null, .null, .null, .null, .int 0, .null, .null, .null, .null, .null, .int 0, .null, .null, .long 0, .int 0, .int (b2i false), .null, .null, .null, .null, .null])) H := hP
  obtain ⟨z8, hz8⟩ : ∃ z, z = (fset (fnew z7 40 0 (aI 1 16000 (fun _ => 0)) q65) 20 0 (oO 5 [.int 0, .int 0, .ref q7, .ref q15, .ref q23, .ref q31, .int 0, .ref q39, .ref q47, .ref q56, .ref q65, .null, .null, .null, .null, .int 0, .null, .null, .null, .null, .null, .int 0, .null, .null, .long 0, .int 0, .int (b2i false), .null, .null, .null, .null, .null])) := ⟨_, rfl⟩
  rw [← hz8] at hP
  have hM8 : Mi 20 w z8 [40, 39, 38, 37, 35, 34, 33, 32] (va_up (va_up (va_up (va_up (va_up (va_up (va_up (va_up (fun _ => 0) 32 q7) 33 q15) 34 q23) 35 q31) 37 q39) 38 q47) 39 q56) 40 q65) (va_up (va_up (va_up (va_up (va_up (va_up (va_up (va_up (fun _ => fE0) 32 (aI 1 100 (fun _ => 0))) 33 (aI 1 100 (fun _ => 0))) 34 (aL 100 (fun _ => 0))) 35 (aL 100 (fun _ => 0))) 37 (aI 1 16 (fun _ => 0))) 38 (aI 1 16 (fun _ => 0))) 39 (aI 1 128 (fun _ => 0))) 40 (aI 1 16000 (fun _ => 0))) := by rw [hz8]; exact Mi_s hM7 (by decide) (by decide)
  have ho8 : z8.2 20 0 = some (oO 5 [.int 0, .int 0, .ref q7, .ref q15, .ref q23, .ref q31, .int 0, .ref q39, .ref q47, .ref q56, .ref q65, .null, .null, .null, .null, .int 0, .null, .null, .null, .null, .null, .int 0, .null, .null, .long 0, .int 0, .int (b2i false), .null, .null, .null, .null, .null]) := by rw [hz8]; exact fset_at
  clear hz8
  refine lv_aload_n hx hb dX5_init_70 rfl (lv_at hl 0 rfl) ?_
  refine lv_bipush (v := nI 16) hx hb dX5_init_71 (by decide) ?_
  refine fw_newI (atype := .int) C hP hS 41 0 (t := 1) (N := 16) (by decide) rfl rfl qa_int (by decide) (by decide) (Nat.le_of_ble_eq_true rfl) ((hM8.2.1 41 0 (by decide) (by decide)).1.trans (hf 41 (by decide) (by decide))) (Nat.le_of_ble_eq_true rfl) (Nat.le_of_ble_eq_true rfl) dX5_init_73 (fun q73 H hP hS => ?_)
  have hP : fP Γ (fnew z8 41 0 (aI 1 16 (fun _ => 0)) q73) H := hP
  refine pf_X5_35 C hP hS hin rfl rfl ((fnew_ne (by decide)).trans ho8) ((fnew_ane (by decide)).trans hM8.2.2) (Nat.le_of_ble_eq_true rfl) dX5_init_75 (fun H locs hP hS => ?_)
  have hP : fP Γ (fset (fnew z8 41 0 (aI 1 16 (fun _ => 0)) q73) 20 0 (oO 5 [.int 0, .int 0, .ref q7, .ref q15, .ref q23, .ref q31, .int 0, .ref q39, .ref q47, .ref q56, .ref q65, .ref q73, .null, .null, .null, .int 0, .null, .null, .null, .null, .null, .int 0, .null, .null, .long 0, .int 0, .int (b2i false), .null, .null, .null, .null, .null])) H := hP
  obtain ⟨z9, hz9⟩ : ∃ z, z = (fset (fnew z8 41 0 (aI 1 16 (fun _ => 0)) q73) 20 0 (oO 5 [.int 0, .int 0, .ref q7, .ref q15, .ref q23, .ref q31, .int 0, .ref q39, .ref q47, .ref q56, .ref q65, .ref q73, .null, .null, .null, .int 0, .null, .null, .null, .null, .null, .int 0, .null, .null, .long 0, .int 0, .int (b2i false), .null, .null, .null, .null, .null])) := ⟨_, rfl⟩
  rw [← hz9] at hP
  have hM9 : Mi 20 w z9 [41, 40, 39, 38, 37, 35, 34, 33, 32] (va_up (va_up (va_up (va_up (va_up (va_up (va_up (va_up (va_up (fun _ => 0) 32 q7) 33 q15) 34 q23) 35 q31) 37 q39) 38 q47) 39 q56) 40 q65) 41 q73) (va_up (va_up (va_up (va_up (va_up (va_up (va_up (va_up (va_up (fun _ => fE0) 32 (aI 1 100 (fun _ => 0))) 33 (aI 1 100 (fun _ => 0))) 34 (aL 100 (fun _ => 0))) 35 (aL 100 (fun _ => 0))) 37 (aI 1 16 (fun _ => 0))) 38 (aI 1 16 (fun _ => 0))) 39 (aI 1 128 (fun _ => 0))) 40 (aI 1 16000 (fun _ => 0))) 41 (aI 1 16 (fun _ => 0))) := by rw [hz9]; exact Mi_s hM8 (by decide) (by decide)
  have ho9 : z9.2 20 0 = some (oO 5 [.int 0, .int 0, .ref q7, .ref q15, .ref q23, .ref q31, .int 0, .ref q39, .ref q47, .ref q56, .ref q65, .ref q73, .null, .null, .null, .int 0, .null, .null, .null, .null, .null, .int 0, .null, .null, .long 0, .int 0, .int (b2i false), .null, .null, .null, .null, .null]) := by rw [hz9]; exact fset_at
  clear hz9
  refine lv_aload_n hx hb dX5_init_78 rfl (lv_at hl 0 rfl) ?_
  refine lv_sipush (v := nI 3200) hx hb dX5_init_79 (by decide) ?_
  refine fw_newI (atype := .int) C hP hS 42 0 (t := 1) (N := 3200) (by decide) rfl rfl qa_int (by decide) (by decide) (Nat.le_of_ble_eq_true rfl) ((hM9.2.1 42 0 (by decide) (by decide)).1.trans (hf 42 (by decide) (by decide))) (Nat.le_of_ble_eq_true rfl) (Nat.le_of_ble_eq_true rfl) dX5_init_82 (fun q82 H hP hS => ?_)
  have hP : fP Γ (fnew z9 42 0 (aI 1 3200 (fun _ => 0)) q82) H := hP
  refine pf_X5_38 C hP hS hin rfl rfl ((fnew_ne (by decide)).trans ho9) ((fnew_ane (by decide)).trans hM9.2.2) (Nat.le_of_ble_eq_true rfl) dX5_init_84 (fun H locs hP hS => ?_)
  have hP : fP Γ (fset (fnew z9 42 0 (aI 1 3200 (fun _ => 0)) q82) 20 0 (oO 5 [.int 0, .int 0, .ref q7, .ref q15, .ref q23, .ref q31, .int 0, .ref q39, .ref q47, .ref q56, .ref q65, .ref q73, .ref q82, .null, .null, .int 0, .null, .null, .null, .null, .null, .int 0, .null, .null, .long 0, .int 0, .int (b2i false), .null, .null, .null, .null, .null])) H := hP
  obtain ⟨z10, hz10⟩ : ∃ z, z = (fset (fnew z9 42 0 (aI 1 3200 (fun _ => 0)) q82) 20 0 (oO 5 [.int 0, .int 0, .ref q7, .ref q15, .ref q23, .ref q31, .int 0, .ref q39, .ref q47, .ref q56, .ref q65, .ref q73, .ref q82, .null, .null, .int 0, .null, .null, .null, .null, .null, .int 0, .null, .null, .long 0, .int 0, .int (b2i false), .null, .null, .null, .null, .null])) := ⟨_, rfl⟩
  rw [← hz10] at hP
  have hM10 : Mi 20 w z10 [42, 41, 40, 39, 38, 37, 35, 34, 33, 32] (va_up (va_up (va_up (va_up (va_up (va_up (va_up (va_up (va_up (va_up (fun _ => 0) 32 q7) 33 q15) 34 q23) 35 q31) 37 q39) 38 q47) 39 q56) 40 q65) 41 q73) 42 q82) (va_up (va_up (va_up (va_up (va_up (va_up (va_up (va_up (va_up (va_up (fun _ => fE0) 32 (aI 1 100 (fun _ => 0))) 33 (aI 1 100 (fun _ => 0))) 34 (aL 100 (fun _ => 0))) 35 (aL 100 (fun _ => 0))) 37 (aI 1 16 (fun _ => 0))) 38 (aI 1 16 (fun _ => 0))) 39 (aI 1 128 (fun _ => 0))) 40 (aI 1 16000 (fun _ => 0))) 41 (aI 1 16 (fun _ => 0))) 42 (aI 1 3200 (fun _ => 0))) := by rw [hz10]; exact Mi_s hM9 (by decide) (by decide)
  have ho10 : z10.2 20 0 = some (oO 5 [.int 0, .int 0, .ref q7, .ref q15, .ref q23, .ref q31, .int 0, .ref q39, .ref q47, .ref q56, .ref q65, .ref q73, .ref q82, .null, .null, .int 0, .null, .null, .null, .null, .null, .int 0, .null, .null, .long 0, .int 0, .int (b2i false), .null, .null, .null, .null, .null]) := by rw [hz10]; exact fset_at
  clear hz10
  refine lv_aload_n hx hb dX5_init_87 rfl (lv_at hl 0 rfl) ?_
  refine lv_bipush (v := nI 16) hx hb dX5_init_88 (by decide) ?_
  refine fw_newI (atype := .int) C hP hS 43 0 (t := 1) (N := 16) (by decide) rfl rfl qa_int (by decide) (by decide) (Nat.le_of_ble_eq_true rfl) ((hM10.2.1 43 0 (by decide) (by decide)).1.trans (hf 43 (by decide) (by decide))) (Nat.le_of_ble_eq_true rfl) (Nat.le_of_ble_eq_true rfl) dX5_init_90 (fun q90 H hP hS => ?_)
  have hP : fP Γ (fnew z10 43 0 (aI 1 16 (fun _ => 0)) q90) H := hP
  refine pf_X5_41 C hP hS hin rfl rfl ((fnew_ne (by decide)).trans ho10) ((fnew_ane (by decide)).trans hM10.2.2) (Nat.le_of_ble_eq_true rfl) dX5_init_92 (fun H locs hP hS => ?_)
  have hP : fP Γ (fset (fnew z10 43 0 (aI 1 16 (fun _ => 0)) q90) 20 0 (oO 5 [.int 0, .int 0, .ref q7, .ref q15, .ref q23, .ref q31, .int 0, .ref q39, .ref q47, .ref q56, .ref q65, .ref q73, .ref q82, .ref q90, .null, .int 0, .null, .null, .null, .null, .null, .int 0, .null, .null, .long 0, .int 0, .int (b2i false), .null, .null, .null, .null, .null])) H := hP
  obtain ⟨z11, hz11⟩ : ∃ z, z = (fset (fnew z10 43 0 (aI 1 16 (fun _ => 0)) q90) 20 0 (oO 5 [.int 0, .int 0, .ref q7, .ref q15, .ref q23, .ref q31, .int 0, .ref q39, .ref q47, .ref q56, .ref q65, .ref q73, .ref q82, .ref q90, .null, .int 0, .null, .null, .null, .null, .null, .int 0, .null, .null, .long 0, .int 0, .int (b2i false), .null, .null, .null, .null, .null])) := ⟨_, rfl⟩
  rw [← hz11] at hP
  have hM11 : Mi 20 w z11 [43, 42, 41, 40, 39, 38, 37, 35, 34, 33, 32] (va_up (va_up (va_up (va_up (va_up (va_up (va_up (va_up (va_up (va_up (va_up (fun _ => 0) 32 q7) 33 q15) 34 q23) 35 q31) 37 q39) 38 q47) 39 q56) 40 q65) 41 q73) 42 q82) 43 q90) (va_up (va_up (va_up (va_up (va_up (va_up (va_up (va_up (va_up (va_up (va_up (fun _ => fE0) 32 (aI 1 100 (fun _ => 0))) 33 (aI 1 100 (fun _ => 0))) 34 (aL 100 (fun _ => 0))) 35 (aL 100 (fun _ => 0))) 37 (aI 1 16 (fun _ => 0))) 38 (aI 1 16 (fun _ => 0))) 39 (aI 1 128 (fun _ => 0))) 40 (aI 1 16000 (fun _ => 0))) 41 (aI 1 16 (fun _ => 0))) 42 (aI 1 3200 (fun _ => 0))) 43 (aI 1 16 (fun _ => 0))) := by rw [hz11]; exact Mi_s hM10 (by decide) (by decide)
  have ho11 : z11.2 20 0 = some (oO 5 [.int 0, .int 0, .ref q7, .ref q15, .ref q23, .ref q31, .int 0, .ref q39, .ref q47, .ref q56, .ref q65, .ref q73, .ref q82, .ref q90, .null, .int 0, .null, .null, .null, .null, .null, .int 0, .null, .null, .long 0, .int 0, .int (b2i false), .null, .null, .null, .null, .null]) := by rw [hz11]; exact fset_at
  clear hz11
  refine lv_aload_n hx hb dX5_init_95 rfl (lv_at hl 0 rfl) ?_
  refine lv_sipush (v := nI 160) hx hb dX5_init_96 (by decide) ?_
  refine fw_newI (atype := .int) C hP hS 44 0 (t := 1) (N := 160) (by decide) rfl rfl qa_int (by decide) (by decide) (Nat.le_of_ble_eq_true rfl) ((hM11.2.1 44 0 (by decide) (by decide)).1.trans (hf 44 (by decide) (by decide))) (Nat.le_of_ble_eq_true rfl) (Nat.le_of_ble_eq_true rfl) dX5_init_99 (fun q99 H hP hS => ?_)
  have hP : fP Γ (fnew z11 44 0 (aI 1 160 (fun _ => 0)) q99) H := hP
  refine pf_X5_44 C hP hS hin rfl rfl ((fnew_ne (by decide)).trans ho11) ((fnew_ane (by decide)).trans hM11.2.2) (Nat.le_of_ble_eq_true rfl) dX5_init_101 (fun H locs hP hS => ?_)
  have hP : fP Γ (fset (fnew z11 44 0 (aI 1 160 (fun _ => 0)) q99) 20 0 (oO 5 [.int 0, .int 0, .ref q7, .ref q15, .ref q23, .ref q31, .int 0, .ref q39, .ref q47, .ref q56, .ref q65, .ref q73, .ref q82, .ref q90, .ref q99, .int 0, .null, .null, .null, .null, .null, .int 0, .null, .null, .long 0, .int 0, .int (b2i false), .null, .null, .null, .null, .null])) H := hP
  obtain ⟨z12, hz12⟩ : ∃ z, z = (fset (fnew z11 44 0 (aI 1 160 (fun _ => 0)) q99) 20 0 (oO 5 [.int 0, .int 0, .ref q7, .ref q15, .ref q23, .ref q31, .int 0, .ref q39, .ref q47, .ref q56, .ref q65, .ref q73, .ref q82, .ref q90, .ref q99, .int 0, .null, .null, .null, .null, .null, .int 0, .null, .null, .long 0, .int 0, .int (b2i false), .null, .null, .null, .null, .null])) := ⟨_, rfl⟩
  rw [← hz12] at hP
  have hM12 : Mi 20 w z12 [44, 43, 42, 41, 40, 39, 38, 37, 35, 34, 33, 32] (va_up (va_up (va_up (va_up (va_up (va_up (va_up (va_up (va_up (va_up (va_up (va_up (fun _ => 0) 32 q7) 33 q15) 34 q23) 35 q31) 37 q39) 38 q47) 39 q56) 40 q65) 41 q73) 42 q82) 43 q90) 44 q99) (va_up (va_up (va_up (va_up (va_up (va_up (va_up (va_up (va_up (va_up (va_up (va_up (fun _ => fE0) 32 (aI 1 100 (fun _ => 0))) 33 (aI 1 100 (fun _ => 0))) 34 (aL 100 (fun _ => 0))) 35 (aL 100 (fun _ => 0))) 37 (aI 1 16 (fun _ => 0))) 38 (aI 1 16 (fun _ => 0))) 39 (aI 1 128 (fun _ => 0))) 40 (aI 1 16000 (fun _ => 0))) 41 (aI 1 16 (fun _ => 0))) 42 (aI 1 3200 (fun _ => 0))) 43 (aI 1 16 (fun _ => 0))) 44 (aI 1 160 (fun _ => 0))) := by rw [hz12]; exact Mi_s hM11 (by decide) (by decide)
  have ho12 : z12.2 20 0 = some (oO 5 [.int 0, .int 0, .ref q7, .ref q15, .ref q23, .ref q31, .int 0, .ref q39, .ref q47, .ref q56, .ref q65, .ref q73, .ref q82, .ref q90, .ref q99, .int 0, .null, .null, .null, .null, .null, .int 0, .null, .null, .long 0, .int 0, .int (b2i false), .null, .null, .null, .null, .null]) := by rw [hz12]; exact fset_at
  clear hz12
  refine lv_aload_n hx hb dX5_init_104 rfl (lv_at hl 0 rfl) ?_
  refine lv_sipush (v := nI 400) hx hb dX5_init_105 (by decide) ?_
  refine fw_newI (atype := .int) C hP hS 46 0 (t := 1) (N := 400) (by decide) rfl rfl qa_int (by decide) (by decide) (Nat.le_of_ble_eq_true rfl) ((hM12.2.1 46 0 (by decide) (by decide)).1.trans (hf 46 (by decide) (by decide))) (Nat.le_of_ble_eq_true rfl) (Nat.le_of_ble_eq_true rfl) dX5_init_108 (fun q108 H hP hS => ?_)
  have hP : fP Γ (fnew z12 46 0 (aI 1 400 (fun _ => 0)) q108) H := hP
  refine pf_X5_47 C hP hS hin rfl rfl ((fnew_ne (by decide)).trans ho12) ((fnew_ane (by decide)).trans hM12.2.2) (Nat.le_of_ble_eq_true rfl) dX5_init_110 (fun H locs hP hS => ?_)
  have hP : fP Γ (fset (fnew z12 46 0 (aI 1 400 (fun _ => 0)) q108) 20 0 (oO 5 [.int 0, .int 0, .ref q7, .ref q15, .ref q23, .ref q31, .int 0, .ref q39, .ref q47, .ref q56, .ref q65, .ref q73, .ref q82, .ref q90, .ref q99, .int 0, .ref q108, .null, .null, .null, .null, .int 0, .null, .null, .long 0, .int 0, .int (b2i false), .null, .null, .null, .null, .null])) H := hP
  obtain ⟨z13, hz13⟩ : ∃ z, z = (fset (fnew z12 46 0 (aI 1 400 (fun _ => 0)) q108) 20 0 (oO 5 [.int 0, .int 0, .ref q7, .ref q15, .ref q23, .ref q31, .int 0, .ref q39, .ref q47, .ref q56, .ref q65, .ref q73, .ref q82, .ref q90, .ref q99, .int 0, .ref q108, .null, .null, .null, .null, .int 0, .null, .null, .long 0, .int 0, .int (b2i false), .null, .null, .null, .null, .null])) := ⟨_, rfl⟩
  rw [← hz13] at hP
  have hM13 : Mi 20 w z13 [46, 44, 43, 42, 41, 40, 39, 38, 37, 35, 34, 33, 32] (va_up (va_up (va_up (va_up (va_up (va_up (va_up (va_up (va_up (va_up (va_up (va_up (va_up (fun _ => 0) 32 q7) 33 q15) 34 q23) 35 q31) 37 q39) 38 q47) 39 q56) 40 q65) 41 q73) 42 q82) 43 q90) 44 q99) 46 q108) (va_up (va_up (va_up (va_up (va_up (va_up (va_up (va_up (va_up (va_up (va_up (va_up (va_up (fun _ => fE0) 32 (aI 1 100 (fun _ => 0))) 33 (aI 1 100 (fun _ => 0))) 34 (aL 100 (fun _ => 0))) 35 (aL 100 (fun _ => 0))) 37 (aI 1 16 (fun _ => 0))) 38 (aI 1 16 (fun _ => 0))) 39 (aI 1 128 (fun _ => 0))) 40 (aI 1 16000 (fun _ => 0))) 41 (aI 1 16 (fun _ => 0))) 42 (aI 1 3200 (fun _ => 0))) 43 (aI 1 16 (fun _ => 0))) 44 (aI 1 160 (fun _ => 0))) 46 (aI 1 400 (fun _ => 0))) := by rw [hz13]; exact Mi_s hM12 (by decide) (by decide)
  have ho13 : z13.2 20 0 = some (oO 5 [.int 0, .int 0, .ref q7, .ref q15, .ref q23, .ref q31, .int 0, .ref q39, .ref q47, .ref q56, .ref q65, .ref q73, .ref q82, .ref q90, .ref q99, .int 0, .ref q108, .null, .null, .null, .null, .int 0, .null, .null, .long 0, .int 0, .int (b2i false), .null, .null, .null, .null, .null]) := by rw [hz13]; exact fset_at
  clear hz13
  refine lv_aload_n hx hb dX5_init_113 rfl (lv_at hl 0 rfl) ?_
  refine lv_sipush (v := nI 400) hx hb dX5_init_114 (by decide) ?_
  refine fw_newI (atype := .int) C hP hS 47 0 (t := 1) (N := 400) (by decide) rfl rfl qa_int (by decide) (by decide) (Nat.le_of_ble_eq_true rfl) ((hM13.2.1 47 0 (by decide) (by decide)).1.trans (hf 47 (by decide) (by decide))) (Nat.le_of_ble_eq_true rfl) (Nat.le_of_ble_eq_true rfl) dX5_init_117 (fun q117 H hP hS => ?_)
  have hP : fP Γ (fnew z13 47 0 (aI 1 400 (fun _ => 0)) q117) H := hP
  refine pf_X5_50 C hP hS hin rfl rfl ((fnew_ne (by decide)).trans ho13) ((fnew_ane (by decide)).trans hM13.2.2) (Nat.le_of_ble_eq_true rfl) dX5_init_119 (fun H locs hP hS => ?_)
  have hP : fP Γ (fset (fnew z13 47 0 (aI 1 400 (fun _ => 0)) q117) 20 0 (oO 5 [.int 0, .int 0, .ref q7, .ref q15, .ref q23, .ref q31, .int 0, .ref q39, .ref q47, .ref q56, .ref q65, .ref q73, .ref q82, .ref q90, .ref q99, .int 0, .ref q108, .ref q117, .null, .null, .null, .int 0, .null, .null, .long 0, .int 0, .int (b2i false), .null, .null, .null, .null, .null])) H := hP
  obtain ⟨z14, hz14⟩ : ∃ z, z = (fset (fnew z13 47 0 (aI 1 400 (fun _ => 0)) q117) 20 0 (oO 5 [.int 0, .int 0, .ref q7, .ref q15, .ref q23, .ref q31, .int 0, .ref q39, .ref q47, .ref q56, .ref q65, .ref q73, .ref q82, .ref q90, .ref q99, .int 0, .ref q108, .ref q117, .null, .null, .null, .int 0, .null, .null, .long 0, .int 0, .int (b2i false), .null, .null, .null, .null, .null])) := ⟨_, rfl⟩
  rw [← hz14] at hP
  have hM14 : Mi 20 w z14 [47, 46, 44, 43, 42, 41, 40, 39, 38, 37, 35, 34, 33, 32] (va_up (va_up (va_up (va_up (va_up (va_up (va_up (va_up (va_up (va_up (va_up (va_up (va_up (va_up (fun _ => 0) 32 q7) 33 q15) 34 q23) 35 q31) 37 q39) 38 q47) 39 q56) 40 q65) 41 q73) 42 q82) 43 q90) 44 q99) 46 q108) 47 q117) (va_up (va_up (va_up (va_up (va_up (va_up (va_up (va_up (va_up (va_up (va_up (va_up (va_up (va_up (fun _ => fE0) 32 (aI 1 100 (fun _ => 0))) 33 (aI 1 100 (fun _ => 0))) 34 (aL 100 (fun _ => 0))) 35 (aL 100 (fun _ => 0))) 37 (aI 1 16 (fun _ => 0))) 38 (aI 1 16 (fun _ => 0))) 39 (aI 1 128 (fun _ => 0))) 40 (aI 1 16000 (fun _ => 0))) 41 (aI 1 16 (fun _ => 0))) 42 (aI 1 3200 (fun _ => 0))) 43 (aI 1 16 (fun _ => 0))) 44 (aI 1 160 (fun _ => 0))) 46 (aI 1 400 (fun _ => 0))) 47 (aI 1 400 (fun _ => 0))) := by rw [hz14]; exact Mi_s hM13 (by decide) (by decide)
  have ho14 : z14.2 20 0 = some (oO 5 [.int 0, .int 0, .ref q7, .ref q15, .ref q23, .ref q31, .int 0, .ref q39, .ref q47, .ref q56, .ref q65, .ref q73, .ref q82, .ref q90, .ref q99, .int 0, .ref q108, .ref q117, .null, .null, .null, .int 0, .null, .null, .long 0, .int 0, .int (b2i false), .null, .null, .null, .null, .null]) := by rw [hz14]; exact fset_at
  clear hz14
  refine lv_aload_n hx hb dX5_init_122 rfl (lv_at hl 0 rfl) ?_
  refine lv_sipush (v := nI 400) hx hb dX5_init_123 (by decide) ?_
  refine fw_newI (atype := .int) C hP hS 48 0 (t := 1) (N := 400) (by decide) rfl rfl qa_int (by decide) (by decide) (Nat.le_of_ble_eq_true rfl) ((hM14.2.1 48 0 (by decide) (by decide)).1.trans (hf 48 (by decide) (by decide))) (Nat.le_of_ble_eq_true rfl) (Nat.le_of_ble_eq_true rfl) dX5_init_126 (fun q126 H hP hS => ?_)
  have hP : fP Γ (fnew z14 48 0 (aI 1 400 (fun _ => 0)) q126) H := hP
  refine pf_X5_53 C hP hS hin rfl rfl ((fnew_ne (by decide)).trans ho14) ((fnew_ane (by decide)).trans hM14.2.2) (Nat.le_of_ble_eq_true rfl) dX5_init_128 (fun H locs hP hS => ?_)
  have hP : fP Γ (fset (fnew z14 48 0 (aI 1 400 (fun _ => 0)) q126) 20 0 (oO 5 [.int 0, .int 0, .ref q7, .ref q15, .ref q23, .ref q31, .int 0, .ref q39, .ref q47, .ref q56, .ref q65, .ref q73, .ref q82, .ref q90, .ref q99, .int 0, .ref q108, .ref q117, .ref q126, .null, .null, .int 0, .null, .null, .long 0, .int 0, .int (b2i false), .null, .null, .null, .null, .null])) H := hP
  obtain ⟨z15, hz15⟩ : ∃ z, z = (fset (fnew z14 48 0 (aI 1 400 (fun _ => 0)) q126) 20 0 (oO 5 [.int 0, .int 0, .ref q7, .ref q15, .ref q23, .ref q31, .int 0, .ref q39, .ref q47, .ref q56, .ref q65, .ref q73, .ref q82, .ref q90, .ref q99, .int 0, .ref q108, .ref q117, .ref q126, .null, .null, .int 0, .null, .null, .long 0, .int 0, .int (b2i false), .null, .null, .null, .null, .null])) := ⟨_, rfl⟩
  rw [← hz15] at hP
  have hM15 : Mi 20 w z15 [48, 47, 46, 44, 43, 42, 41, 40, 39, 38, 37, 35, 34, 33, 32] (va_up (va_up (va_up (va_up (va_up (va_up (va_up (va_up (va_up (va_up (va_up (va_up (va_up (va_up (va_up (fun _ => 0) 32 q7) 33 q15) 34 q23) 35 q31) 37 q39) 38 q47) 39 q56) 40 q65) 41 q73) 42 q82) 43 q90) 44 q99) 46 q108) 47 q117) 48 q126) (va_up (va_up (va_up (va_up (va_up (va_up (va_up (va_up (va_up (va_up (va_up (va_up (va_up (va_up (va_up (fun _ => fE0) 32 (aI 1 100 (fun _ => 0))) 33 (aI 1 100 (fun _ => 0))) 34 (aL 100 (fun _ => 0))) 35 (aL 100 (fun _ => 0))) 37 (aI 1 16 (fun _ => 0))) 38 (aI 1 16 (fun _ => 0))) 39 (aI 1 128 (fun _ => 0))) 40 (aI 1 16000 (fun _ => 0))) 41 (aI 1 16 (fun _ => 0))) 42 (aI 1 3200 (fun _ => 0))) 43 (aI 1 16 (fun _ => 0))) 44 (aI 1 160 (fun _ => 0))) 46 (aI 1 400 (fun _ => 0))) 47 (aI 1 400 (fun _ => 0))) 48 (aI 1 400 (fun _ => 0))) := by rw [hz15]; exact Mi_s hM14 (by decide) (by decide)
  have ho15 : z15.2 20 0 = some (oO 5 [.int 0, .int 0, .ref q7, .ref q15, .ref q23, .ref q31, .int 0, .ref q39, .ref q47, .ref q56, .ref q65, .ref q73, .ref q82, .ref q90, .ref q99, .int 0, .ref q108, .ref q117, .ref q126, .null, .null, .int 0, .null, .null, .long 0, .int 0, .int (b2i false), .null, .null, .null, .null, .null]) := by rw [hz15]; exact fset_at
  clear hz15
  refine lv_aload_n hx hb dX5_init_131 rfl (lv_at hl 0 rfl) ?_
  refine lv_sipush (v := nI 3200) hx hb dX5_init_132 (by decide) ?_
  refine fw_newI (atype := .int) C hP hS 49 0 (t := 1) (N := 3200) (by decide) rfl rfl qa_int (by decide) (by decide) (Nat.le_of_ble_eq_true rfl) ((hM15.2.1 49 0 (by decide) (by decide)).1.trans (hf 49 (by decide) (by decide))) (Nat.le_of_ble_eq_true rfl) (Nat.le_of_ble_eq_true rfl) dX5_init_135 (fun q135 H hP hS => ?_)
  have hP : fP Γ (fnew z15 49 0 (aI 1 3200 (fun _ => 0)) q135) H := hP
  refine pf_X5_56 C hP hS hin rfl rfl ((fnew_ne (by decide)).trans ho15) ((fnew_ane (by decide)).trans hM15.2.2) (Nat.le_of_ble_eq_true rfl) dX5_init_137 (fun H locs hP hS => ?_)
  have hP : fP Γ (fset (fnew z15 49 0 (aI 1 3200 (fun _ => 0)) q135) 20 0 (oO 5 [.int 0, .int 0, .ref q7, .ref q15, .ref q23, .ref q31, .int 0, .ref q39, .ref q47, .ref q56, .ref q65, .ref q73, .ref q82, .ref q90, .ref q99, .int 0, .ref q108, .ref q117, .ref q126, .ref q135, .null, .int 0, .null, .null, .long 0, .int 0, .int (b2i false), .null, .null, .null, .null, .null])) H := hP
  obtain ⟨z16, hz16⟩ : ∃ z, z = (fset (fnew z15 49 0 (aI 1 3200 (fun _ => 0)) q135) 20 0 (oO 5 [.int 0, .int 0, .ref q7, .ref q15, .ref q23, .ref q31, .int 0, .ref q39, .ref q47, .ref q56, .ref q65, .ref q73, .ref q82, .ref q90, .ref q99, .int 0, .ref q108, .ref q117, .ref q126, .ref q135, .null, .int 0, .null, .null, .long 0, .int 0, .int (b2i false), .null, .null, .null, .null, .null])) := ⟨_, rfl⟩
  rw [← hz16] at hP
  have hM16 : Mi 20 w z16 [49, 48, 47, 46, 44, 43, 42, 41, 40, 39, 38, 37, 35, 34, 33, 32] (va_up (va_up (va_up (va_up (va_up (va_up (va_up (va_up (va_up (va_up (va_up (va_up (va_up (va_up (va_up (va_up (fun _ => 0) 32 q7) 33 q15) 34 q23) 35 q31) 37 q39) 38 q47) 39 q56) 40 q65) 41 q73) 42 q82) 43 q90) 44 q99) 46 q108) 47 q117) 48 q126) 49 q135) (va_up (va_up (va_up (va_up (va_up (va_up (va_up (va_up (va_up (va_up (va_up (va_up (va_up (va_up (va_up (va_up (fun _ => fE0) 32 (aI 1 100 (fun _ => 0))) 33 (aI 1 100 (fun _ => 0))) 34 (aL 100 (fun _ => 0))) 35 (aL 100 (fun _ => 0))) 37 (aI 1 16 (fun _ => 0))) 38 (aI 1 16 (fun _ => 0))) 39 (aI 1 128 (fun _ => 0))) 40 (aI 1 16000 (fun _ => 0))) 41 (aI 1 16 (fun _ => 0))) 42 (aI 1 3200 (fun _ => 0))) 43 (aI 1 16 (fun _ => 0))) 44 (aI 1 160 (fun _ => 0))) 46 (aI 1 400 (fun _ => 0))) 47 (aI 1 400 (fun _ => 0))) 48 (aI 1 400 (fun _ => 0))) 49 (aI 1 3200 (fun _ => 0))) := by rw [hz16]; exact Mi_s hM15 (by decide) (by decide)
  have ho16 : z16.2 20 0 = some (oO 5 [.int 0, .int 0, .ref q7, .ref q15, .ref q23, .ref q31, .int 0, .ref q39, .ref q47, .ref q56, .ref q65, .ref q73, .ref q82, .ref q90, .ref q99, .int 0, .ref q108, .ref q117, .ref q126, .ref q135, .null, .int 0, .null, .null, .long 0, .int 0, .int (b2i false), .null, .null, .null, .null, .null]) := by rw [hz16]; exact fset_at
  clear hz16
  refine lv_aload_n hx hb dX5_init_140 rfl (lv_at hl 0 rfl) ?_
  refine lv_sipush (v := nI 400) hx hb dX5_init_141 (by decide) ?_
  refine fw_newI (atype := .boolean) C hP hS 50 0 (t := 3) (N := 400) (by decide) rfl rfl qa_boolean (by decide) (by decide) (Nat.le_of_ble_eq_true rfl) ((hM16.2.1 50 0 (by decide) (by decide)).1.trans (hf 50 (by decide) (by decide))) (Nat.le_of_ble_eq_true rfl) (Nat.le_of_ble_eq_true rfl) dX5_init_144 (fun q144 H hP hS => ?_)
  have hP : fP Γ (fnew z16 50 0 (aI 3 400 (fun _ => 0)) q144) H := hP
  refine pf_X5_59 C hP hS hin rfl rfl ((fnew_ne (by decide)).trans ho16) ((fnew_ane (by decide)).trans hM16.2.2) (Nat.le_of_ble_eq_true rfl) dX5_init_146 (fun H locs hP hS => ?_)
  have hP : fP Γ (fset (fnew z16 50 0 (aI 3 400 (fun _ => 0)) q144) 20 0 (oO 5 [.int 0, .int 0, .ref q7, .ref q15, .ref q23, .ref q31, .int 0, .ref q39, .ref q47, .ref q56, .ref q65, .ref q73, .ref q82, .ref q90, .ref q99, .int 0, .ref q108, .ref q117, .ref q126, .ref q135, .ref q144, .int 0, .null, .null, .long 0, .int 0, .int (b2i false), .null, .null, .null, .null, .null])) H := hP
  obtain ⟨z17, hz17⟩ : ∃ z, z = (fset (fnew z16 50 0 (aI 3 400 (fun _ => 0)) q144) 20 0 (oO 5 [.int 0, .int 0, .ref q7, .ref q15, .ref q23, .ref q31, .int 0, .ref q39, .ref q47, .ref q56, .ref q65, .ref q73, .ref q82, .ref q90, .ref q99, .int 0, .ref q108, .ref q117, .ref q126, .ref q135, .ref q144, .int 0, .null, .null, .long 0, .int 0, .int (b2i false), .null, .null, .null, .null, .null])) := ⟨_, rfl⟩
  rw [← hz17] at hP
  have hM17 : Mi 20 w z17 [50, 49, 48, 47, 46, 44, 43, 42, 41, 40, 39, 38, 37, 35, 34, 33, 32] (va_up (va_up (va_up (va_up (va_up (va_up (va_up (va_up (va_up (va_up (va_up (va_up (va_up (va_up (va_up (va_up (va_up (fun _ => 0) 32 q7) 33 q15) 34 q23) 35 q31) 37 q39) 38 q47) 39 q56) 40 q65) 41 q73) 42 q82) 43 q90) 44 q99) 46 q108) 47 q117) 48 q126) 49 q135) 50 q144) (va_up (va_up (va_up (va_up (va_up (va_up (va_up (va_up (va_up (va_up (va_up (va_up (va_up (va_up (va_up (va_up (va_up (fun _ => fE0) 32 (aI 1 100 (fun _ => 0))) 33 (aI 1 100 (fun _ => 0))) 34 (aL 100 (fun _ => 0))) 35 (aL 100 (fun _ => 0))) 37 (aI 1 16 (fun _ => 0))) 38 (aI 1 16 (fun _ => 0))) 39 (aI 1 128 (fun _ => 0))) 40 (aI 1 16000 (fun _ => 0))) 41 (aI 1 16 (fun _ => 0))) 42 (aI 1 3200 (fun _ => 0))) 43 (aI 1 16 (fun _ => 0))) 44 (aI 1 160 (fun _ => 0))) 46 (aI 1 400 (fun _ => 0))) 47 (aI 1 400 (fun _ => 0))) 48 (aI 1 400 (fun _ => 0))) 49 (aI 1 3200 (fun _ => 0))) 50 (aI 3 400 (fun _ => 0))) := by rw [hz17]; exact Mi_s hM16 (by decide) (by decide)
  have ho17 : z17.2 20 0 = some (oO 5 [.int 0, .int 0, .ref q7, .ref q15, .ref q23, .ref q31, .int 0, .ref q39, .ref q47, .ref q56, .ref q65, .ref q73, .ref q82, .ref q90, .ref q99, .int 0, .ref q108, .ref q117, .ref q126, .ref q135, .ref q144, .int 0, .null, .null, .long 0, .int 0, .int (b2i false), .null, .null, .null, .null, .null]) := by rw [hz17]; exact fset_at
  clear hz17
  refine lv_aload_n hx hb dX5_init_149 rfl (lv_at hl 0 rfl) ?_
  refine lv_sipush (v := nI 400) hx hb dX5_init_150 (by decide) ?_
  refine fw_newI (atype := .int) C hP hS 52 0 (t := 1) (N := 400) (by decide) rfl rfl qa_int (by decide) (by decide) (Nat.le_of_ble_eq_true rfl) ((hM17.2.1 52 0 (by decide) (by decide)).1.trans (hf 52 (by decide) (by decide))) (Nat.le_of_ble_eq_true rfl) (Nat.le_of_ble_eq_true rfl) dX5_init_153 (fun q153 H hP hS => ?_)
  have hP : fP Γ (fnew z17 52 0 (aI 1 400 (fun _ => 0)) q153) H := hP
  refine pf_X5_63 C hP hS hin rfl rfl ((fnew_ne (by decide)).trans ho17) ((fnew_ane (by decide)).trans hM17.2.2) (Nat.le_of_ble_eq_true rfl) dX5_init_155 (fun H locs hP hS => ?_)
  have hP : fP Γ (fset (fnew z17 52 0 (aI 1 400 (fun _ => 0)) q153) 20 0 (oO 5 [.int 0, .int 0, .ref q7, .ref q15, .ref q23, .ref q31, .int 0, .ref q39, .ref q47, .ref q56, .ref q65, .ref q73, .ref q82, .ref q90, .ref q99, .int 0, .ref q108, .ref q117, .ref q126, .ref q135, .ref q144, .int 0, .ref q153, .null, .long 0, .int 0, .int (b2i false), .null, .null, .null, .null, .null])) H := hP
  obtain ⟨z18, hz18⟩ : ∃ z, z = (fset (fnew z17 52 0 (aI 1 400 (fun _ => 0)) q153) 20 0 (oO 5 [.int 0, .int 0, .ref q7, .ref q15, .ref q23, .ref q31, .int 0, .ref q39, .ref q47, .ref q56, .ref q65, .ref q73, .ref q82, .ref q90, .ref q99, .int 0, .ref q108, .ref q117, .ref q126, .ref q135, .ref q144, .int 0, .ref q153, .null, .long 0, .int 0, .int (b2i false), .null, .null, .null, .null, .null])) := ⟨_, rfl⟩
  rw [← hz18] at hP
  have hM18 : Mi 20 w z18 [52, 50, 49, 48, 47, 46, 44, 43, 42, 41, 40, 39, 38, 37, 35, 34, 33, 32] (va_up (va_up (va_up (va_up (va_up (va_up (va_up (va_up (va_up (va_up (va_up (va_up (va_up (va_up (va_up (va_up (va_up (va_up (fun _ => 0) 32 q7) 33 q15) 34 q23) 35 q31) 37 q39) 38 q47) 39 q56) 40 q65) 41 q73) 42 q82) 43 q90) 44 q99) 46 q108) 47 q117) 48 q126) 49 q135) 50 q144) 52 q153) (va_up (va_up (va_up (va_up (va_up (va_up (va_up (va_up (va_up (va_up (va_up (va_up (va_up (va_up (va_up (va_up (va_up (va_up (fun _ => fE0) 32 (aI 1 100 (fun _ => 0))) 33 (aI 1 100 (fun _ => 0))) 34 (aL 100 (fun _ => 0))) 35 (aL 100 (fun _ => 0))) 37 (aI 1 16 (fun _ => 0))) 38 (aI 1 16 (fun _ => 0))) 39 (aI 1 128 (fun _ => 0))) 40 (aI 1 16000 (fun _ => 0))) 41 (aI 1 16 (fun _ => 0))) 42 (aI 1 3200 (fun _ => 0))) 43 (aI 1 16 (fun _ => 0))) 44 (aI 1 160 (fun _ => 0))) 46 (aI 1 400 (fun _ => 0))) 47 (aI 1 400 (fun _ => 0))) 48 (aI 1 400 (fun _ => 0))) 49 (aI 1 3200 (fun _ => 0))) 50 (aI 3 400 (fun _ => 0))) 52 (aI 1 400 (fun _ => 0))) := by rw [hz18]; exact Mi_s hM17 (by decide) (by decide)
  have ho18 : z18.2 20 0 = some (oO 5 [.int 0, .int 0, .ref q7, .ref q15, .ref q23, .ref q31, .int 0, .ref q39, .ref q47, .ref q56, .ref q65, .ref q73, .ref q82, .ref q90, .ref q99, .int 0, .ref q108, .ref q117, .ref q126, .ref q135, .ref q144, .int 0, .ref q153, .null, .long 0, .int 0, .int (b2i false), .null, .null, .null, .null, .null]) := by rw [hz18]; exact fset_at
  clear hz18
  refine lv_aload_n hx hb dX5_init_158 rfl (lv_at hl 0 rfl) ?_
  refine lv_bipush (v := nI 100) hx hb dX5_init_159 (by decide) ?_
  refine fw_newI (atype := .boolean) C hP hS 53 0 (t := 3) (N := 100) (by decide) rfl rfl qa_boolean (by decide) (by decide) (Nat.le_of_ble_eq_true rfl) ((hM18.2.1 53 0 (by decide) (by decide)).1.trans (hf 53 (by decide) (by decide))) (Nat.le_of_ble_eq_true rfl) (Nat.le_of_ble_eq_true rfl) dX5_init_161 (fun q161 H hP hS => ?_)
  have hP : fP Γ (fnew z18 53 0 (aI 3 100 (fun _ => 0)) q161) H := hP
  refine pf_X5_66 C hP hS hin rfl rfl ((fnew_ne (by decide)).trans ho18) ((fnew_ane (by decide)).trans hM18.2.2) (Nat.le_of_ble_eq_true rfl) dX5_init_163 (fun H locs hP hS => ?_)
  have hP : fP Γ (fset (fnew z18 53 0 (aI 3 100 (fun _ => 0)) q161) 20 0 (oO 5 [.int 0, .int 0, .ref q7, .ref q15, .ref q23, .ref q31, .int 0, .ref q39, .ref q47, .ref q56, .ref q65, .ref q73, .ref q82, .ref q90, .ref q99, .int 0, .ref q108, .ref q117, .ref q126, .ref q135, .ref q144, .int 0, .ref q153, .ref q161, .long 0, .int 0, .int (b2i false), .null, .null, .null, .null, .null])) H := hP
  obtain ⟨z19, hz19⟩ : ∃ z, z = (fset (fnew z18 53 0 (aI 3 100 (fun _ => 0)) q161) 20 0 (oO 5 [.int 0, .int 0, .ref q7, .ref q15, .ref q23, .ref q31, .int 0, .ref q39, .ref q47, .ref q56, .ref q65, .ref q73, .ref q82, .ref q90, .ref q99, .int 0, .ref q108, .ref q117, .ref q126, .ref q135, .ref q144, .int 0, .ref q153, .ref q161, .long 0, .int 0, .int (b2i false), .null, .null, .null, .null, .null])) := ⟨_, rfl⟩
  rw [← hz19] at hP
  have hM19 : Mi 20 w z19 [53, 52, 50, 49, 48, 47, 46, 44, 43, 42, 41, 40, 39, 38, 37, 35, 34, 33, 32] (va_up (va_up (va_up (va_up (va_up (va_up (va_up (va_up (va_up (va_up (va_up (va_up (va_up (va_up (va_up (va_up (va_up (va_up (va_up (fun _ => 0) 32 q7) 33 q15) 34 q23) 35 q31) 37 q39) 38 q47) 39 q56) 40 q65) 41 q73) 42 q82) 43 q90) 44 q99) 46 q108) 47 q117) 48 q126) 49 q135) 50 q144) 52 q153) 53 q161) (va_up (va_up (va_up (va_up (va_up (va_up (va_up (va_up (va_up (va_up (va_up (va_up (va_up (va_up (va_up (va_up (va_up (va_up (va_up (fun _ => fE0) 32 (aI 1 100 (fun _ => 0))) 33 (aI 1 100 (fun _ => 0))) 34 (aL 100 (fun _ => 0))) 35 (aL 100 (fun _ => 0))) 37 (aI 1 16 (fun _ => 0))) 38 (aI 1 16 (fun _ => 0))) 39 (aI 1 128 (fun _ => 0))) 40 (aI 1 16000 (fun _ => 0))) 41 (aI 1 16 (fun _ => 0))) 42 (aI 1 3200 (fun _ => 0))) 43 (aI 1 16 (fun _ => 0))) 44 (aI 1 160 (fun _ => 0))) 46 (aI 1 400 (fun _ => 0))) 47 (aI 1 400 (fun _ => 0))) 48 (aI 1 400 (fun _ => 0))) 49 (aI 1 3200 (fun _ => 0))) 50 (aI 3 400 (fun _ => 0))) 52 (aI 1 400 (fun _ => 0))) 53 (aI 3 100 (fun _ => 0))) := by rw [hz19]; exact Mi_s hM18 (by decide) (by decide)
  have ho19 : z19.2 20 0 = some (oO 5 [.int 0, .int 0, .ref q7, .ref q15, .ref q23, .ref q31, .int 0, .ref q39, .ref q47, .ref q56, .ref q65, .ref q73, .ref q82, .ref q90, .ref q99, .int 0, .ref q108, .ref q117, .ref q126, .ref q135, .ref q144, .int 0, .ref q153, .ref q161, .long 0, .int 0, .int (b2i false), .null, .null, .null, .null, .null]) := by rw [hz19]; exact fset_at
  clear hz19
  refine lv_aload_n hx hb dX5_init_166 rfl (lv_at hl 0 rfl) ?_
  refine lv_bipush (v := nI 64) hx hb dX5_init_167 (by decide) ?_
  refine fw_newI (atype := .int) C hP hS 57 0 (t := 1) (N := 64) (by decide) rfl rfl qa_int (by decide) (by decide) (Nat.le_of_ble_eq_true rfl) ((hM19.2.1 57 0 (by decide) (by decide)).1.trans (hf 57 (by decide) (by decide))) (Nat.le_of_ble_eq_true rfl) (Nat.le_of_ble_eq_true rfl) dX5_init_169 (fun q169 H hP hS => ?_)
  have hP : fP Γ (fnew z19 57 0 (aI 1 64 (fun _ => 0)) q169) H := hP
  refine pf_X5_69 C hP hS hin rfl rfl ((fnew_ne (by decide)).trans ho19) ((fnew_ane (by decide)).trans hM19.2.2) (Nat.le_of_ble_eq_true rfl) dX5_init_171 (fun H locs hP hS => ?_)
  have hP : fP Γ (fset (fnew z19 57 0 (aI 1 64 (fun _ => 0)) q169) 20 0 (oO 5 [.int 0, .int 0, .ref q7, .ref q15, .ref q23, .ref q31, .int 0, .ref q39, .ref q47, .ref q56, .ref q65, .ref q73, .ref q82, .ref q90, .ref q99, .int 0, .ref q108, .ref q117, .ref q126, .ref q135, .ref q144, .int 0, .ref q153, .ref q161, .long 0, .int 0, .int (b2i false), .ref q169, .null, .null, .null, .null])) H := hP
  obtain ⟨z20, hz20⟩ : ∃ z, z = (fset (fnew z19 57 0 (aI 1 64 (fun _ => 0)) q169) 20 0 (oO 5 [.int 0, .int 0, .ref q7, .ref q15, .ref q23, .ref q31, .int 0, .ref q39, .ref q47, .ref q56, .ref q65, .ref q73, .ref q82, .ref q90, .ref q99, .int 0, .ref q108, .ref q117, .ref q126, .ref q135, .ref q144, .int 0, .ref q153, .ref q161, .long 0, .int 0, .int (b2i false), .ref q169, .null, .null, .null, .null])) := ⟨_, rfl⟩
  rw [← hz20] at hP
  have hM20 : Mi 20 w z20 [57, 53, 52, 50, 49, 48, 47, 46, 44, 43, 42, 41, 40, 39, 38, 37, 35, 34, 33, 32] (va_up (va_up (va_up (va_up (va_up (va_up (va_up (va_up (va_up (va_up (va_up (va_up (va_up (va_up (va_up (va_up (va_up (va_up (va_up (va_up (fun _ => 0) 32 q7) 33 q15) 34 q23) 35 q31) 37 q39) 38 q47) 39 q56) 40 q65) 41 q73) 42 q82) 43 q90) 44 q99) 46 q108) 47 q117) 48 q126) 49 q135) 50 q144) 52 q153) 53 q161) 57 q169) (va_up (va_up (va_up (va_up (va_up (va_up (va_up (va_up (va_up (va_up (va_up (va_up (va_up (va_up (va_up (va_up (va_up (va_up (va_up (va_up (fun _ => fE0) 32 (aI 1 100 (fun _ => 0))) 33 (aI 1 100 (fun _ => 0))) 34 (aL 100 (fun _ => 0))) 35 (aL 100 (fun _ => 0))) 37 (aI 1 16 (fun _ => 0))) 38 (aI 1 16 (fun _ => 0))) 39 (aI 1 128 (fun _ => 0))) 40 (aI 1 16000 (fun _ => 0))) 41 (aI 1 16 (fun _ => 0))) 42 (aI 1 3200 (fun _ => 0))) 43 (aI 1 16 (fun _ => 0))) 44 (aI 1 160 (fun _ => 0))) 46 (aI 1 400 (fun _ => 0))) 47 (aI 1 400 (fun _ => 0))) 48 (aI 1 400 (fun _ => 0))) 49 (aI 1 3200 (fun _ => 0))) 50 (aI 3 400 (fun _ => 0))) 52 (aI 1 400 (fun _ => 0))) 53 (aI 3 100 (fun _ => 0))) 57 (aI 1 64 (fun _ => 0))) := by rw [hz20]; exact Mi_s hM19 (by decide) (by decide)
  have ho20 : z20.2 20 0 = some (oO 5 [.int 0, .int 0, .ref q7, .ref q15, .ref q23, .ref q31, .int 0, .ref q39, .ref q47, .ref q56, .ref q65, .ref q73, .ref q82, .ref q90, .ref q99, .int 0, .ref q108, .ref q117, .ref q126, .ref q135, .ref q144, .int 0, .ref q153, .ref q161, .long 0, .int 0, .int (b2i false), .ref q169, .null, .null, .null, .null]) := by rw [hz20]; exact fset_at
  clear hz20
  refine lv_aload_n hx hb dX5_init_174 rfl (lv_at hl 0 rfl) ?_
  refine lv_bipush (v := nI 8) hx hb dX5_init_175 (by decide) ?_
  refine fw_newI (atype := .int) C hP hS 58 0 (t := 1) (N := 8) (by decide) rfl rfl qa_int (by decide) (by decide) (Nat.le_of_ble_eq_true rfl) ((hM20.2.1 58 0 (by decide) (by decide)).1.trans (hf 58 (by decide) (by decide))) (Nat.le_of_ble_eq_true rfl) (Nat.le_of_ble_eq_true rfl) dX5_init_177 (fun q177 H hP hS => ?_)
  have hP : fP Γ (fnew z20 58 0 (aI 1 8 (fun _ => 0)) q177) H := hP
  refine pf_X5_72 C hP hS hin rfl rfl ((fnew_ne (by decide)).trans ho20) ((fnew_ane (by decide)).trans hM20.2.2) (Nat.le_of_ble_eq_true rfl) dX5_init_179 (fun H locs hP hS => ?_)
  have hP : fP Γ (fset (fnew z20 58 0 (aI 1 8 (fun _ => 0)) q177) 20 0 (oO 5 [.int 0, .int 0, .ref q7, .ref q15, .ref q23, .ref q31, .int 0, .ref q39, .ref q47, .ref q56, .ref q65, .ref q73, .ref q82, .ref q90, .ref q99, .int 0, .ref q108, .ref q117, .ref q126, .ref q135, .ref q144, .int 0, .ref q153, .ref q161, .long 0, .int 0, .int (b2i false), .ref q169, .ref q177, .null, .null, .null])) H := hP
  obtain ⟨z21, hz21⟩ : ∃ z, z = (fset (fnew z20 58 0 (aI 1 8 (fun _ => 0)) q177) 20 0 (oO 5 [.int 0, .int 0, .ref q7, .ref q15, .ref q23, .ref q31, .int 0, .ref q39, .ref q47, .ref q56, .ref q65, .ref q73, .ref q82, .ref q90, .ref q99, .int 0, .ref q108, .ref q117, .ref q126, .ref q135, .ref q144, .int 0, .ref q153, .ref q161, .long 0, .int 0, .int (b2i false), .ref q169, .ref q177, .null, .null, .null])) := ⟨_, rfl⟩
  rw [← hz21] at hP
  have hM21 : Mi 20 w z21 [58, 57, 53, 52, 50, 49, 48, 47, 46, 44, 43, 42, 41, 40, 39, 38, 37, 35, 34, 33, 32] (va_up (va_up (va_up (va_up (va_up (va_up (va_up (va_up (va_up (va_up (va_up (va_up (va_up (va_up (va_up (va_up (va_up (va_up (va_up (va_up (va_up (fun _ => 0) 32 q7) 33 q15) 34 q23) 35 q31) 37 q39) 38 q47) 39 q56) 40 q65) 41 q73) 42 q82) 43 q90) 44 q99) 46 q108) 47 q117) 48 q126) 49 q135) 50 q144) 52 q153) 53 q161) 57 q169) 58 q177) (va_up (va_up (va_up (va_up (va_up (va_up (va_up (va_up (va_up (va_up (va_up (va_up (va_up (va_up (va_up (va_up (va_up (va_up (va_up (va_up (va_up (fun _ => fE0) 32 (aI 1 100 (fun _ => 0))) 33 (aI 1 100 (fun _ => 0))) 34 (aL 100 (fun _ => 0))) 35 (aL 100 (fun _ => 0))) 37 (aI 1 16 (fun _ => 0))) 38 (aI 1 16 (fun _ => 0))) 39 (aI 1 128 (fun _ => 0))) 40 (aI 1 16000 (fun _ => 0))) 41 (aI 1 16 (fun _ => 0))) 42 (aI 1 3200 (fun _ => 0))) 43 (aI 1 16 (fun _ => 0))) 44 (aI 1 160 (fun _ => 0))) 46 (aI 1 400 (fun _ => 0))) 47 (aI 1 400 (fun _ => 0))) 48 (aI 1 400 (fun _ => 0))) 49 (aI 1 3200 (fun _ => 0))) 50 (aI 3 400 (fun _ => 0))) 52 (aI 1 400 (fun _ => 0))) 53 (aI 3 100 (fun _ => 0))) 57 (aI 1 64 (fun _ => 0))) 58 (aI 1 8 (fun _ => 0))) := by rw [hz21]; exact Mi_s hM20 (by decide) (by decide)
  have ho21 : z21.2 20 0 = some (oO 5 [.int 0, .int 0, .ref q7, .ref q15, .ref q23, .ref q31, .int 0, .ref q39, .ref q47, .ref q56, .ref q65, .ref q73, .ref q82, .ref q90, .ref q99, .int 0, .ref q108, .ref q117, .ref q126, .ref q135, .ref q144, .int 0, .ref q153, .ref q161, .long 0, .int 0, .int (b2i false), .ref q169, .ref q177, .null, .null, .null]) := by rw [hz21]; exact fset_at
  clear hz21
  refine lv_aload_n hx hb dX5_init_182 rfl (lv_at hl 0 rfl) ?_
  refine lv_bipush (v := nI 64) hx hb dX5_init_183 (by decide) ?_
  refine fw_newI (atype := .int) C hP hS 59 0 (t := 1) (N := 64) (by decide) rfl rfl qa_int (by decide) (by decide) (Nat.le_of_ble_eq_true rfl) ((hM21.2.1 59 0 (by decide) (by decide)).1.trans (hf 59 (by decide) (by decide))) (Nat.le_of_ble_eq_true rfl) (Nat.le_of_ble_eq_true rfl) dX5_init_185 (fun q185 H hP hS => ?_)
  have hP : fP Γ (fnew z21 59 0 (aI 1 64 (fun _ => 0)) q185) H := hP
  refine pf_X5_75 C hP hS hin rfl rfl ((fnew_ne (by decide)).trans ho21) ((fnew_ane (by decide)).trans hM21.2.2) (Nat.le_of_ble_eq_true rfl) dX5_init_187 (fun H locs hP hS => ?_)
  have hP : fP Γ (fset (fnew z21 59 0 (aI 1 64 (fun _ => 0)) q185) 20 0 (oO 5 [.int 0, .int 0, .ref q7, .ref q15, .ref q23, .ref q31, .int 0, .ref q39, .ref q47, .ref q56, .ref q65, .ref q73, .ref q82, .ref q90, .ref q99, .int 0, .ref q108, .ref q117, .ref q126, .ref q135, .ref q144, .int 0, .ref q153, .ref q161, .long 0, .int 0, .int (b2i false), .ref q169, .ref q177, .ref q185, .null, .null])) H := hP
  obtain ⟨z22, hz22⟩ : ∃ z, z = (fset (fnew z21 59 0 (aI 1 64 (fun _ => 0)) q185) 20 0 (oO 5 [.int 0, .int 0, .ref q7, .ref q15, .ref q23, .ref q31, .int 0, .ref q39, .ref q47, .ref q56, .ref q65, .ref q73, .ref q82, .ref q90, .ref q99, .int 0, .ref q108, .ref q117, .ref q126, .ref q135, .ref q144, .int 0, .ref q153, .ref q161, .long 0, .int 0, .int (b2i false), .ref q169, .ref q177, .ref q185, .null, .null])) := ⟨_, rfl⟩
  rw [← hz22] at hP
  have hM22 : Mi 20 w z22 [59, 58, 57, 53, 52, 50, 49, 48, 47, 46, 44, 43, 42, 41, 40, 39, 38, 37, 35, 34, 33, 32] (va_up (va_up (va_up (va_up (va_up (va_up (va_up (va_up (va_up (va_up (va_up (va_up (va_up (va_up (va_up (va_up (va_up (va_up (va_up (va_up (va_up (va_up (fun _ => 0) 32 q7) 33 q15) 34 q23) 35 q31) 37 q39) 38 q47) 39 q56) 40 q65) 41 q73) 42 q82) 43 q90) 44 q99) 46 q108) 47 q117) 48 q126) 49 q135) 50 q144) 52 q153) 53 q161) 57 q169) 58 q177) 59 q185) (va_up (va_up (va_up (va_up (va_up (va_up (va_up (va_up (va_up (va_up (va_up (va_up (va_up (va_up (va_up (va_up (va_up (va_up (va_up (va_up (va_up (va_up (fun _ => fE0) 32 (aI 1 100 (fun _ => 0))) 33 (aI 1 100 (fun _ => 0))) 34 (aL 100 (fun _ => 0))) 35 (aL 100 (fun _ => 0))) 37 (aI 1 16 (fun _ => 0))) 38 (aI 1 16 (fun _ => 0))) 39 (aI 1 128 (fun _ => 0))) 40 (aI 1 16000 (fun _ => 0))) 41 (aI 1 16 (fun _ => 0))) 42 (aI 1 3200 (fun _ => 0))) 43 (aI 1 16 (fun _ => 0))) 44 (aI 1 160 (fun _ => 0))) 46 (aI 1 400 (fun _ => 0))) 47 (aI 1 400 (fun _ => 0))) 48 (aI 1 400 (fun _ => 0))) 49 (aI 1 3200 (fun _ => 0))) 50 (aI 3 400 (fun _ => 0))) 52 (aI 1 400 (fun _ => 0))) 53 (aI 3 100 (fun _ => 0))) 57 (aI 1 64 (fun _ => 0))) 58 (aI 1 8 (fun _ => 0))) 59 (aI 1 64 (fun _ => 0))) := by rw [hz22]; exact Mi_s hM21 (by decide) (by decide)
  have ho22 : z22.2 20 0 = some (oO 5 [.int 0, .int 0, .ref q7, .ref q15, .ref q23, .ref q31, .int 0, .ref q39, .ref q47, .ref q56, .ref q65, .ref q73, .ref q82, .ref q90, .ref q99, .int 0, .ref q108, .ref q117, .ref q126, .ref q135, .ref q144, .int 0, .ref q153, .ref q161, .long 0, .int 0, .int (b2i false), .ref q169, .ref q177, .ref q185, .null, .null]) := by rw [hz22]; exact fset_at
  clear hz22
  refine lv_aload_n hx hb dX5_init_190 rfl (lv_at hl 0 rfl) ?_
  refine lv_bipush (v := nI 8) hx hb dX5_init_191 (by decide) ?_
  refine fw_newI (atype := .int) C hP hS 60 0 (t := 1) (N := 8) (by decide) rfl rfl qa_int (by decide) (by decide) (Nat.le_of_ble_eq_true rfl) ((hM22.2.1 60 0 (by decide) (by decide)).1.trans (hf 60 (by decide) (by decide))) (Nat.le_of_ble_eq_true rfl) (Nat.le_of_ble_eq_true rfl) dX5_init_193 (fun q193 H hP hS => ?_)
  have hP : fP Γ (fnew z22 60 0 (aI 1 8 (fun _ => 0)) q193) H := hP
  refine pf_X5_78 C hP hS hin rfl rfl ((fnew_ne (by decide)).trans ho22) ((fnew_ane (by decide)).trans hM22.2.2) (Nat.le_of_ble_eq_true rfl) dX5_init_195 (fun H locs hP hS => ?_)
  have hP : fP Γ (fset (fnew z22 60 0 (aI 1 8 (fun _ => 0)) q193) 20 0 (oO 5 [.int 0, .int 0, .ref q7, .ref q15, .ref q23, .ref q31, .int 0, .ref q39, .ref q47, .ref q56, .ref q65, .ref q73, .ref q82, .ref q90, .ref q99, .int 0, .ref q108, .ref q117, .ref q126, .ref q135, .ref q144, .int 0, .ref q153, .ref q161, .long 0, .int 0, .int (b2i false), .ref q169, .ref q177, .ref q185, .ref q193, .null])) H := hP
  obtain ⟨z23, hz23⟩ : ∃ z, z = (fset (fnew z22 60 0 (aI 1 8 (fun _ => 0)) q193) 20 0 (oO 5 [.int 0, .int 0, .ref q7, .ref q15, .ref q23, .ref q31, .int 0, .ref q39, .ref q47, .ref q56, .ref q65, .ref q73, .ref q82, .ref q90, .ref q99, .int 0, .ref q108, .ref q117, .ref q126, .ref q135, .ref q144, .int 0, .ref q153, .ref q161, .long 0, .int 0, .int (b2i false), .ref q169, .ref q177, .ref q185, .ref q193, .null])) := ⟨_, rfl⟩
  rw [← hz23] at hP
  have hM23 : Mi 20 w z23 [60, 59, 58, 57, 53, 52, 50, 49, 48, 47, 46, 44, 43, 42, 41, 40, 39, 38, 37, 35, 34, 33, 32] (va_up (va_up (va_up (va_up (va_up (va_up (va_up (va_up (va_up (va_up (va_up (va_up (va_up (va_up (va_up (va_up (va_up (va_up (va_up (va_up (va_up (va_up (va_up (fun _ => 0) 32 q7) 33 q15) 34 q23) 35 q31) 37 q39) 38 q47) 39 q56) 40 q65) 41 q73) 42 q82) 43 q90) 44 q99) 46 q108) 47 q117) 48 q126) 49 q135) 50 q144) 52 q153) 53 q161) 57 q169) 58 q177) 59 q185) 60 q193) (va_up (va_up (va_up (va_up (va_up (va_up (va_up (va_up (va_up (va_up (va_up (va_up (va_up (va_up (va_up (va_up (va_up (va_up (va_up (va_up (va_up (va_up (va_up (fun _ => fE0) 32 (aI 1 100 (fun _ => 0))) 33 (aI 1 100 (fun _ => 0))) 34 (aL 100 (fun _ => 0))) 35 (aL 100 (fun _ => 0))) 37 (aI 1 16 (fun _ => 0))) 38 (aI 1 16 (fun _ => 0))) 39 (aI 1 128 (fun _ => 0))) 40 (aI 1 16000 (fun _ => 0))) 41 (aI 1 16 (fun _ => 0))) 42 (aI 1 3200 (fun _ => 0))) 43 (aI 1 16 (fun _ => 0))) 44 (aI 1 160 (fun _ => 0))) 46 (aI 1 400 (fun _ => 0))) 47 (aI 1 400 (fun _ => 0))) 48 (aI 1 400 (fun _ => 0))) 49 (aI 1 3200 (fun _ => 0))) 50 (aI 3 400 (fun _ => 0))) 52 (aI 1 400 (fun _ => 0))) 53 (aI 3 100 (fun _ => 0))) 57 (aI 1 64 (fun _ => 0))) 58 (aI 1 8 (fun _ => 0))) 59 (aI 1 64 (fun _ => 0))) 60 (aI 1 8 (fun _ => 0))) := by rw [hz23]; exact Mi_s hM22 (by decide) (by decide)
  have ho23 : z23.2 20 0 = some (oO 5 [.int 0, .int 0, .ref q7, .ref q15, .ref q23, .ref q31, .int 0, .ref q39, .ref q47, .ref q56, .ref q65, .ref q73, .ref q82, .ref q90, .ref q99, .int 0, .ref q108, .ref q117, .ref q126, .ref q135, .ref q144, .int 0, .ref q153, .ref q161, .long 0, .int 0, .int (b2i false), .ref q169, .ref q177, .ref q185, .ref q193, .null]) := by rw [hz23]; exact fset_at
  clear hz23
  refine lv_aload_n hx hb dX5_init_198 rfl (lv_at hl 0 rfl) ?_
  refine lv_bipush (v := nI 8) hx hb dX5_init_199 (by decide) ?_
  refine fw_newI (atype := .int) C hP hS 61 0 (t := 1) (N := 8) (by decide) rfl rfl qa_int (by decide) (by decide) (Nat.le_of_ble_eq_true rfl) ((hM23.2.1 61 0 (by decide) (by decide)).1.trans (hf 61 (by decide) (by decide))) (Nat.le_of_ble_eq_true rfl) (Nat.le_of_ble_eq_true rfl) dX5_init_201 (fun q201 H hP hS => ?_)
  have hP : fP Γ (fnew z23 61 0 (aI 1 8 (fun _ => 0)) q201) H := hP
  refine pf_X5_81 C hP hS hin rfl rfl ((fnew_ne (by decide)).trans ho23) ((fnew_ane (by decide)).trans hM23.2.2) (Nat.le_of_ble_eq_true rfl) dX5_init_203 (fun H locs hP hS => ?_)
  have hP : fP Γ (fset (fnew z23 61 0 (aI 1 8 (fun _ => 0)) q201) 20 0 (oO 5 [.int 0, .int 0, .ref q7, .ref q15, .ref q23, .ref q31, .int 0, .ref q39, .ref q47, .ref q56, .ref q65, .ref q73, .ref q82, .ref q90, .ref q99, .int 0, .ref q108, .ref q117, .ref q126, .ref q135, .ref q144, .int 0, .ref q153, .ref q161, .long 0, .int 0, .int (b2i false), .ref q169, .ref q177, .ref q185, .ref q193, .ref q201])) H := hP
  obtain ⟨z24, hz24⟩ : ∃ z, z = (fset (fnew z23 61 0 (aI 1 8 (fun _ => 0)) q201) 20 0 (oO 5 [.int 0, .int 0, .ref q7, .ref q15, .ref q23, .ref q31, .int 0, .ref q39, .ref q47, .ref q56, .ref q65, .ref q73, .ref q82, .ref q90, .ref q99, .int 0, .ref q108, .ref q117, .ref q126, .ref q135, .ref q144, .int 0, .ref q153, .ref q161, .long 0, .int 0, .int (b2i false), .ref q169, .ref q177, .ref q185, .ref q193, .ref q201])) := ⟨_, rfl⟩
  rw [← hz24] at hP
  have hM24 : Mi 20 w z24 [61, 60, 59, 58, 57, 53, 52, 50, 49, 48, 47, 46, 44, 43, 42, 41, 40, 39, 38, 37, 35, 34, 33, 32] (va_up (va_up (va_up (va_up (va_up (va_up (va_up (va_up (va_up (va_up (va_up (va_up (va_up (va_up (va_up (va_up (va_up (va_up (va_up (va_up (va_up (va_up (va_up (va_up (fun _ => 0) 32 q7) 33 q15) 34 q23) 35 q31) 37 q39) 38 q47) 39 q56) 40 q65) 41 q73) 42 q82) 43 q90) 44 q99) 46 q108) 47 q117) 48 q126) 49 q135) 50 q144) 52 q153) 53 q161) 57 q169) 58 q177) 59 q185) 60 q193) 61 q201) (va_up (va_up (va_up (va_up (va_up (va_up (va_up (va_up (va_up (va_up (va_up (va_up (va_up (va_up (va_up (va_up (va_up (va_up (va_up (va_up (va_up (va_up (va_up (va_up (fun _ => fE0) 32 (aI 1 100 (fun _ => 0))) 33 (aI 1 100 (fun _ => 0))) 34 (aL 100 (fun _ => 0))) 35 (aL 100 (fun _ => 0))) 37 (aI 1 16 (fun _ => 0))) 38 (aI 1 16 (fun _ => 0))) 39 (aI 1 128 (fun _ => 0))) 40 (aI 1 16000 (fun _ => 0))) 41 (aI 1 16 (fun _ => 0))) 42 (aI 1 3200 (fun _ => 0))) 43 (aI 1 16 (fun _ => 0))) 44 (aI 1 160 (fun _ => 0))) 46 (aI 1 400 (fun _ => 0))) 47 (aI 1 400 (fun _ => 0))) 48 (aI 1 400 (fun _ => 0))) 49 (aI 1 3200 (fun _ => 0))) 50 (aI 3 400 (fun _ => 0))) 52 (aI 1 400 (fun _ => 0))) 53 (aI 3 100 (fun _ => 0))) 57 (aI 1 64 (fun _ => 0))) 58 (aI 1 8 (fun _ => 0))) 59 (aI 1 64 (fun _ => 0))) 60 (aI 1 8 (fun _ => 0))) 61 (aI 1 8 (fun _ => 0))) := by rw [hz24]; exact Mi_s hM23 (by decide) (by decide)
  have ho24 : z24.2 20 0 = some (oO 5 [.int 0, .int 0, .ref q7, .ref q15, .ref q23, .ref q31, .int 0, .ref q39, .ref q47, .ref q56, .ref q65, .ref q73, .ref q82, .ref q90, .ref q99, .int 0, .ref q108, .ref q117, .ref q126, .ref q135, .ref q144, .int 0, .ref q153, .ref q161, .long 0, .int 0, .int (b2i false), .ref q169, .ref q177, .ref q185, .ref q193, .ref q201]) := by rw [hz24]; exact fset_at
  clear hz24
  have g32 : z24.2 32 0 = some (aI 1 100 (fun _ => 0)) := (hM24.1 32 (by decide)).2.1
  have a32 : z24.1 32 0 = q7 := (hM24.1 32 (by decide)).2.2
  have g33 : z24.2 33 0 = some (aI 1 100 (fun _ => 0)) := (hM24.1 33 (by decide)).2.1
  have a33 : z24.1 33 0 = q15 := (hM24.1 33 (by decide)).2.2
  have g34 : z24.2 34 0 = some (aL 100 (fun _ => 0)) := (hM24.1 34 (by decide)).2.1
  have a34 : z24.1 34 0 = q23 := (hM24.1 34 (by decide)).2.2
  have g35 : z24.2 35 0 = some (aL 100 (fun _ => 0)) := (hM24.1 35 (by decide)).2.1
  have a35 : z24.1 35 0 = q31 := (hM24.1 35 (by decide)).2.2
  have g37 : z24.2 37 0 = some (aI 1 16 (fun _ => 0)) := (hM24.1 37 (by decide)).2.1
  have a37 : z24.1 37 0 = q39 := (hM24.1 37 (by decide)).2.2
  have g38 : z24.2 38 0 = some (aI 1 16 (fun _ => 0)) := (hM24.1 38 (by decide)).2.1
  have a38 : z24.1 38 0 = q47 := (hM24.1 38 (by decide)).2.2
  have g39 : z24.2 39 0 = some (aI 1 128 (fun _ => 0)) := (hM24.1 39 (by decide)).2.1
  have a39 : z24.1 39 0 = q56 := (hM24.1 39 (by decide)).2.2
  have g40 : z24.2 40 0 = some (aI 1 16000 (fun _ => 0)) := (hM24.1 40 (by decide)).2.1
  have a40 : z24.1 40 0 = q65 := (hM24.1 40 (by decide)).2.2
  have g41 : z24.2 41 0 = some (aI 1 16 (fun _ => 0)) := (hM24.1 41 (by decide)).2.1
  have a41 : z24.1 41 0 = q73 := (hM24.1 41 (by decide)).2.2
  have g42 : z24.2 42 0 = some (aI 1 3200 (fun _ => 0)) := (hM24.1 42 (by decide)).2.1
  have a42 : z24.1 42 0 = q82 := (hM24.1 42 (by decide)).2.2
  have g43 : z24.2 43 0 = some (aI 1 16 (fun _ => 0)) := (hM24.1 43 (by decide)).2.1
  have a43 : z24.1 43 0 = q90 := (hM24.1 43 (by decide)).2.2
  have g44 : z24.2 44 0 = some (aI 1 160 (fun _ => 0)) := (hM24.1 44 (by decide)).2.1
  have a44 : z24.1 44 0 = q99 := (hM24.1 44 (by decide)).2.2
  have g46 : z24.2 46 0 = some (aI 1 400 (fun _ => 0)) := (hM24.1 46 (by decide)).2.1
  have a46 : z24.1 46 0 = q108 := (hM24.1 46 (by decide)).2.2
  have g47 : z24.2 47 0 = some (aI 1 400 (fun _ => 0)) := (hM24.1 47 (by decide)).2.1
  have a47 : z24.1 47 0 = q117 := (hM24.1 47 (by decide)).2.2
  have g48 : z24.2 48 0 = some (aI 1 400 (fun _ => 0)) := (hM24.1 48 (by decide)).2.1
  have a48 : z24.1 48 0 = q126 := (hM24.1 48 (by decide)).2.2
  have g49 : z24.2 49 0 = some (aI 1 3200 (fun _ => 0)) := (hM24.1 49 (by decide)).2.1
  have a49 : z24.1 49 0 = q135 := (hM24.1 49 (by decide)).2.2
  have g50 : z24.2 50 0 = some (aI 3 400 (fun _ => 0)) := (hM24.1 50 (by decide)).2.1
  have a50 : z24.1 50 0 = q144 := (hM24.1 50 (by decide)).2.2
  have g52 : z24.2 52 0 = some (aI 1 400 (fun _ => 0)) := (hM24.1 52 (by decide)).2.1
  have a52 : z24.1 52 0 = q153 := (hM24.1 52 (by decide)).2.2
  have g53 : z24.2 53 0 = some (aI 3 100 (fun _ => 0)) := (hM24.1 53 (by decide)).2.1
  have a53 : z24.1 53 0 = q161 := (hM24.1 53 (by decide)).2.2
  have g57 : z24.2 57 0 = some (aI 1 64 (fun _ => 0)) := (hM24.1 57 (by decide)).2.1
  have a57 : z24.1 57 0 = q169 := (hM24.1 57 (by decide)).2.2
  have g58 : z24.2 58 0 = some (aI 1 8 (fun _ => 0)) := (hM24.1 58 (by decide)).2.1
  have a58 : z24.1 58 0 = q177 := (hM24.1 58 (by decide)).2.2
  have g59 : z24.2 59 0 = some (aI 1 64 (fun _ => 0)) := (hM24.1 59 (by decide)).2.1
  have a59 : z24.1 59 0 = q185 := (hM24.1 59 (by decide)).2.2
  have g60 : z24.2 60 0 = some (aI 1 8 (fun _ => 0)) := (hM24.1 60 (by decide)).2.1
  have a60 : z24.1 60 0 = q193 := (hM24.1 60 (by decide)).2.2
  have g61 : z24.2 61 0 = some (aI 1 8 (fun _ => 0)) := (hM24.1 61 (by decide)).2.1
  have a61 : z24.1 61 0 = q201 := (hM24.1 61 (by decide)).2.2
  have hR : Rm s_0 0 z24 := by
    refine ⟨false, ?_, ?_, ?_, ?_, ?_, ?_⟩
    · show z24.2 20 0 = some (oO 5 [_, _, .ref (z24.1 32 0), .ref (z24.1 33 0), .ref (z24.1 34 0), .ref (z24.1 35 0), _, .ref (z24.1 37 0), .ref (z24.1 38 0), .ref (z24.1 39 0), .ref (z24.1 40 0), .ref (z24.1 41 0), .ref (z24.1 42 0), .ref (z24.1 43 0), .ref (z24.1 44 0), _, .ref (z24.1 46 0), .ref (z24.1 47 0), .ref (z24.1 48 0), .ref (z24.1 49 0), .ref (z24.1 50 0), _, .ref (z24.1 52 0), .ref (z24.1 53 0), _, _, _, .ref (z24.1 57 0), .ref (z24.1 58 0), .ref (z24.1 59 0), .ref (z24.1 60 0), .ref (z24.1 61 0)])
      rw [a32, a33, a34, a35, a37, a38, a39, a40, a41, a42, a43, a44, a46, a47, a48, a49, a50, a52, a53, a57, a58, a59, a60, a61]
      exact ho24
    · exact ⟨⟨_, g32, fun i hi => absurd hi (Nat.not_lt_zero _)⟩, ⟨_, g33, fun i hi => absurd hi (Nat.not_lt_zero _)⟩, ⟨_, g34, fun i hi => absurd hi (Nat.not_lt_zero _)⟩, ⟨_, g35, fun i hi => absurd hi (Nat.not_lt_zero _)⟩⟩
    · exact ⟨⟨_, g37, fun i hi => absurd hi (Nat.not_lt_zero _)⟩, ⟨_, g38, fun t _ => rfl⟩, ⟨_, g39, fun t ht => absurd ht (Nat.not_lt_zero _)⟩, ⟨_, g40, fun t _ j hj => absurd hj (Nat.not_lt_zero _)⟩, ⟨_, g41, fun t _ => rfl⟩, ⟨_, g42, fun t _ j hj => absurd hj (Nat.not_lt_zero _)⟩, ⟨_, g43, fun t _ => rfl⟩, ⟨_, g44, fun t _ j hj => absurd hj (Nat.not_lt_zero _)⟩⟩
    · exact ⟨⟨_, g46, fun i hi => absurd hi (Nat.not_lt_zero _)⟩, ⟨_, g47, fun i hi => absurd hi (Nat.not_lt_zero _)⟩, ⟨_, g48, fun i hi => absurd hi (Nat.not_lt_zero _)⟩, ⟨_, g49, fun i hi => absurd hi (Nat.not_lt_zero _)⟩, ⟨_, g50, fun i _ => rfl⟩, ⟨_, g52, fun i hi => absurd hi (Nat.not_lt_zero _)⟩⟩
    · exact ⟨_, g53, fun m _ a _ => rfl⟩
    · exact ⟨⟨_, g57, fun z => by cases z⟩, ⟨_, g58, fun z => by cases z⟩, ⟨_, g59⟩, ⟨_, g60⟩, ⟨_, g61⟩⟩
  have hK : ∀ k i, k < 20 ∨ 62 ≤ k → z24.2 k i = w.2 k i ∧ z24.1 k i = w.1 k i := fun k i g1 => hM24.2.1 k i (by omega) (fun z => by
    simp only [List.mem_cons, List.not_mem_nil, or_false] at z
    omega)
  exact fw_retv C hr hlk hP hS (⟨hR, hK, hM24.2.2⟩) (Nat.le_of_ble_eq_true rfl) (Nat.le_of_ble_eq_true rfl) dX5_init_206
