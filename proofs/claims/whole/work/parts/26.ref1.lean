theorem Rm_th0 {σ : St} {w : FW} {z : Bool} (hA : RmA σ w) (hT : RmT σ w) (hS : RmS σ w) (hO : RmO σ w) (hH : RmH z w) : Rm σ 0 (fset w 20 0 (oMo σ w 0 z)) := by
  obtain ⟨⟨f32, g32, v32⟩, ⟨f33, g33, v33⟩, ⟨f34, g34, v34⟩, ⟨f35, g35, v35⟩⟩ := hA
  obtain ⟨⟨f37, g37, v37⟩, ⟨f38, g38, v38⟩, ⟨f39, g39, v39⟩, ⟨f40, g40, v40⟩, ⟨f41, g41, v41⟩, ⟨f42, g42, v42⟩, ⟨f43, g43, v43⟩, ⟨f44, g44, v44⟩⟩ := hT
  obtain ⟨⟨f46, g46, v46⟩, ⟨f47, g47, v47⟩, ⟨f48, g48, v48⟩, ⟨f49, g49, v49⟩, ⟨f50, g50, v50⟩, ⟨f52, g52, v52⟩⟩ := hS
  obtain ⟨f53, g53, v53⟩ := hO
  obtain ⟨⟨f57, g57, v57⟩, ⟨f58, g58, v58⟩, ⟨f59, g59⟩, ⟨f60, g60⟩, ⟨f61, g61⟩⟩ := hH
  have k : ∀ {a : Nat} {e : FE}, a ≠ 20 → w.2 a 0 = some e → (fset w 20 0 (oMo σ w 0 z)).2 a 0 = some e := fun h g => (fset_ne h).trans g
  exact ⟨z, fset_at, ⟨⟨_, k (by decide) g32, v32⟩, ⟨_, k (by decide) g33, v33⟩, ⟨_, k (by decide) g34, v34⟩, ⟨_, k (by decide) g35, v35⟩⟩,
    ⟨⟨_, k (by decide) g37, v37⟩, ⟨_, k (by decide) g38, v38⟩, ⟨_, k (by decide) g39, v39⟩, ⟨_, k (by decide) g40, v40⟩, ⟨_, k (by decide) g41, v41⟩, ⟨_, k (by decide) g42, v42⟩, ⟨_, k (by decide) g43, v43⟩, ⟨_, k (by decide) g44, v44⟩⟩,
    ⟨⟨_, k (by decide) g46, v46⟩, ⟨_, k (by decide) g47, v47⟩, ⟨_, k (by decide) g48, v48⟩, ⟨_, k (by decide) g49, v49⟩, ⟨_, k (by decide) g50, v50⟩, ⟨_, k (by decide) g52, v52⟩⟩,
    ⟨_, k (by decide) g53, v53⟩, ⟨⟨_, k (by decide) g57, v57⟩, ⟨_, k (by decide) g58, v58⟩, ⟨_, k (by decide) g59⟩, ⟨_, k (by decide) g60⟩, ⟨_, k (by decide) g61⟩⟩⟩
theorem up_N {f : Nat → Int32} {g : Nat → Nat} {n v : Nat} (h : ∀ j, j < n → f j = nI (g j)) : ∀ j, j < n + 1 → upd f n (nI v) j = nI (va_up g n v j) := by
  intro j hj
  unfold upd va_up
  by_cases e : j = n
  · rw [if_pos e, if_pos e]
  · rw [if_neg e, if_neg e]; exact h j (by omega)
theorem up_L {f : Nat → Int64} {g : Nat → Int64} {n : Nat} {v : Int64} (h : ∀ j, j < n → f j = g j) : ∀ j, j < n + 1 → vp_updL f n v j = va_up g n v j := by
  intro j hj
  unfold vp_updL va_up
  by_cases e : j = n
  · rw [if_pos e, if_pos e]
  · rw [if_neg e, if_neg e]; exact h j (by omega)
theorem up_T {f : Nat → Int32} {g : Nat → Nat} {n k v : Nat} (h : ∀ j, j < n → f j = nI (g j)) : ∀ j, j < n → upd f k (nI v) j = nI (va_up g k v j) := by
  intro j hj
  unfold upd va_up
  by_cases e : j = k
  · rw [if_pos e, if_pos e]
  · rw [if_neg e, if_neg e]; exact h j hj
theorem up_Z {f : Nat → Int32} {g : Nat → Bool} {n k : Nat} (h : ∀ j, j < n → f j = b2i (g j)) : ∀ j, j < n → upd f k (vp_nar .boolean 1) j = b2i (va_up g k true j) := by
  intro j hj
  unfold upd va_up
  by_cases e : j = k
  · rw [if_pos e, if_pos e]; exact b2i_nb true
  · rw [if_neg e, if_neg e]; exact h j hj
theorem up_O {f : Nat → Int32} {g : Nat → Nat → Bool} {u v : Nat} (hu : u < 10) (hv : v < 10) (h : ∀ m, m < 10 → ∀ a, a < 10 → f (10 * m + a) = b2i (g m a)) : ∀ m, m < 10 → ∀ a, a < 10 → upd f (10 * u + v) (vp_nar .boolean 1) (10 * m + a) = b2i (f2 g u v true m a) := by
  intro m hm a ha
  unfold upd f2
  by_cases e : 10 * m + a = 10 * u + v
  · rw [if_pos e, if_pos (by omega), if_pos (by omega)]; exact b2i_nb true
  · rw [if_neg e]
    by_cases e1 : m = u
    · rw [if_pos e1, if_neg (by omega)]; exact h m hm a ha
    · rw [if_neg e1]; exact h m hm a ha
theorem up_R {K : Nat} {f : Nat → Int32} {g : Nat → Nat → Nat} {c : Nat → Nat} {u v : Nat} (hK : ∀ t j, t < 16 → j < K → K * t + j = K * u + c u → t = u ∧ j = c u) (hc : ∀ t, t < 16 → c t ≤ K) (hcc : c u < K) (h : ∀ t, t < 16 → ∀ j, j < c t → f (K * t + j) = nI (g t j)) : ∀ t, t < 16 → ∀ j, j < va_up c u (c u + 1) t → upd f (K * u + c u) (nI v) (K * t + j) = nI (f2 g u (c u) v t j) := by
  intro t ht j hj
  unfold upd f2
  by_cases e1 : t = u
  · subst e1
    rw [va_up_self] at hj
    rw [if_pos rfl]
    by_cases e2 : j = c t
    · rw [if_pos e2, if_pos (by rw [e2])]
    · rw [if_neg e2, if_neg (by omega)]; exact h t ht j (by omega)
  · rw [va_up_ne _ _ e1] at hj
    have := hc t ht
    rw [if_neg e1, if_neg (fun q => e1 (hK t j ht (by omega) q).1)]
    exact h t ht j hj
theorem nI_m1 {a : Nat} (h : a < 2 ^ 31) : nI a ≠ -1 := by
  intro q
  have h1 := nI_toInt h
  rw [q] at h1
  have h2 : (-1 : Int32).toInt = -1 := rfl
  omega
/-- the person that is asked for, if one is -/
def om (σ : St) (o : Option Nat) (i : Nat) : Bool := match o with
  | none => true
  | some a => decide (s_sp σ i = a)
theorem h1e {σ : St} {t b i : Nat} {o : Option Nat} : s_h1 σ t b o i = (decide (s_st σ i = t) && decide (s_sm σ i = b) && om σ o i && s_sd σ i) := rfl
theorem h1_1 {σ : St} {t b i : Nat} {o : Option Nat} (h : s_st σ i ≠ t) : s_h1 σ t b o i = false := by rw [h1e, decide_eq_false h]; rfl
theorem h1_2 {σ : St} {t b i : Nat} {o : Option Nat} (h : s_sm σ i ≠ b) : s_h1 σ t b o i = false := by rw [h1e, decide_eq_false h, Bool.and_false]; rfl
theorem h1_3 {σ : St} {t b i : Nat} {o : Option Nat} (h : om σ o i = false) : s_h1 σ t b o i = false := by
  have e : s_h1 σ t b o i = (decide (s_st σ i = t) && decide (s_sm σ i = b) && om σ o i && s_sd σ i) := rfl
  rw [e, h, Bool.and_false]; rfl
theorem h1_4 {σ : St} {t b i : Nat} {o : Option Nat} (h : s_sd σ i = false) : s_h1 σ t b o i = false := by rw [h1e, h, Bool.and_false]
theorem h1_5 {σ : St} {t b i : Nat} {o : Option Nat} (h1 : s_st σ i = t) (h2 : s_sm σ i = b) (h3 : om σ o i = true) (h4 : s_sd σ i = true) : s_h1 σ t b o i = true := by
  have e : s_h1 σ t b o i = (decide (s_st σ i = t) && decide (s_sm σ i = b) && om σ o i && s_sd σ i) := rfl
  rw [e, h3, h4, decide_eq_true h1, decide_eq_true h2]; rfl
theorem hs_n {σ : St} {t b i : Nat} {o : Option Nat} (h : s_hs σ t b o i = false) (h1 : s_h1 σ t b o i = false) : s_hs σ t b o (i + 1) = false := by rw [s_hs_s, h, h1]; rfl
theorem hs_y {σ : St} {t b i : Nat} {o : Option Nat} (h1 : s_h1 σ t b o i = true) : s_hs σ t b o (i + 1) = true := by rw [s_hs_s, h1, Bool.or_true]
theorem any_le {f : Nat → Bool} {i : Nat} (h : anyj f i = true) : ∀ {n : Nat}, i ≤ n → anyj f n = true := by
  intro n hn
  obtain ⟨j, hj, h1⟩ := anyj_iff.mp h
  exact anyj_iff.mpr ⟨j, by omega, h1⟩
set_option maxHeartbeats 4000000 in
set_option maxRecDepth 100000 in
theorem k_X5_thrown (l : Launch) (Γ : FG) (w : FW) (σ : St) (th : Int32) (z : Bool) (h20 : w.2 20 0 = some (oMo σ w th z)) : Met l yX5_thrown (ws_ yX5_thrown cX5_thrown 1 (some .int)) (rmD 0 0 0) (va_Pc [.ref (w.1 20 0)] (fI Γ w)) (va_Qi (fun r w1 => r = th ∧ w1 = w) (fI Γ) (fA Γ)) 0 0 (fA Γ) := by
  refine fw_met (by decide) (Nat.le_of_ble_eq_true rfl) ?_
  intro p e s m below meth c ls C hP hS hr hlk hin hl
  have C : fC p s m [.ref (w.1 20 0)].toArray c cX5_thrown 1 RX5 Γ := C
  have hx := C.1.1
  have hb := C.1.2.1
  have hl : lv_has ls 1 [(0, .ref (w.1 20 0))] := hl
  refine lv_aload_n hx hb dX5_thrown_0 rfl (lv_at hl 0 rfl) ?_
  refine gf_X5_84 C hP h20 rfl rfl dX5_thrown_1 ?_
  exact fw_reti C hr hlk rfl hP hS (⟨rfl, rfl⟩) (Nat.le_of_ble_eq_true rfl) (Nat.le_of_ble_eq_true rfl) dX5_thrown_4
set_option maxHeartbeats 4000000 in
set_option maxRecDepth 100000 in
theorem k_X5_isPerson (l : Launch) (Γ : FG) (w : FW) (σ : St) (th : Int32) (z : Bool) (x : Int32) (hI : s_np σ ≤ 24) (h20 : w.2 20 0 = some (oMo σ w th z)) : Met l yX5_isPerson (ws_ yX5_isPerson cX5_isPerson 2 (some .boolean)) (rmD 0 0 0) (va_Pc [.ref (w.1 20 0), .int x] (fI Γ w)) (va_Qi (fun r w1 => r = b2i (fIn x (s_np σ)) ∧ w1 = w) (fI Γ) (fA Γ)) 0 0 (fA Γ) := by
  refine fw_met (by decide) (Nat.le_of_ble_eq_true rfl) ?_
  intro p e s m below meth c ls C hP hS hr hlk hin hl
  have C : fC p s m [.ref (w.1 20 0), .int x].toArray c cX5_isPerson 2 RX5 Γ := C
  have hx := C.1.1
  have hb := C.1.2.1
  have hl : lv_has ls 2 [(0, .ref (w.1 20 0)), (1, .int x)] := hl
  refine lv_iload_n hx hb dX5_isPerson_0 rfl (lv_at hl 1 rfl) ?_
  refine lv_if_lt (tgt := 16) hx hb dX5_isPerson_1 (by decide) (fun c_1 => ?_) (fun c_1 => ?_)
  · refine lv_iconst (v := 0) hx hb dX5_isPerson_16 (by decide) ?_
    exact fw_reti C hr hlk rfl hP hS (⟨b2i_f (fIn_lt c_1), rfl⟩) (Nat.le_of_ble_eq_true rfl) (Nat.le_of_ble_eq_true rfl) dX5_isPerson_17
  · refine lv_iload_n hx hb dX5_isPerson_4 rfl (lv_at hl 1 rfl) ?_
    refine lv_aload_n hx hb dX5_isPerson_5 rfl (lv_at hl 0 rfl) ?_
    refine gf_X5_88 C hP h20 rfl rfl dX5_isPerson_6 ?_
    refine lv_icmp_ge (tgt := 16) hx hb dX5_isPerson_9 (by decide) (fun c_9 => ?_) (fun c_9 => ?_)
    · refine lv_iconst (v := 0) hx hb dX5_isPerson_16 (by decide) ?_
      exact fw_reti C hr hlk rfl hP hS (⟨b2i_f (fIn_ge (by omega) c_9), rfl⟩) (Nat.le_of_ble_eq_true rfl) (Nat.le_of_ble_eq_true rfl) dX5_isPerson_17
    · refine lv_iconst (v := 1) hx hb dX5_isPerson_12 (by decide) ?_
      refine lv_goto (tgt := 17) hx hb dX5_isPerson_13 (by decide) ?_
      exact fw_reti C hr hlk rfl hP hS (⟨b2i_t (fIn_in (by omega) c_1 c_9), rfl⟩) (Nat.le_of_ble_eq_true rfl) (Nat.le_of_ble_eq_true rfl) dX5_isPerson_17
set_option maxHeartbeats 4000000 in
set_option maxRecDepth 100000 in
theorem k_X5_isThing (l : Launch) (Γ : FG) (w : FW) (σ : St) (th : Int32) (z : Bool) (x : Int32) (hI : s_nt σ ≤ 16) (h20 : w.2 20 0 = some (oMo σ w th z)) : Met l yX5_isThing (ws_ yX5_isThing cX5_isThing 2 (some .boolean)) (rmD 0 0 0) (va_Pc [.ref (w.1 20 0), .int x] (fI Γ w)) (va_Qi (fun r w1 => r = b2i (fIn x (s_nt σ)) ∧ w1 = w) (fI Γ) (fA Γ)) 0 0 (fA Γ) := by
  refine fw_met (by decide) (Nat.le_of_ble_eq_true rfl) ?_
  intro p e s m below meth c ls C hP hS hr hlk hin hl
  have C : fC p s m [.ref (w.1 20 0), .int x].toArray c cX5_isThing 2 RX5 Γ := C
  have hx := C.1.1
  have hb := C.1.2.1
  have hl : lv_has ls 2 [(0, .ref (w.1 20 0)), (1, .int x)] := hl
  refine lv_iload_n hx hb dX5_isThing_0 rfl (lv_at hl 1 rfl) ?_
  refine lv_if_lt (tgt := 16) hx hb dX5_isThing_1 (by decide) (fun c_1 => ?_) (fun c_1 => ?_)
  · refine lv_iconst (v := 0) hx hb dX5_isThing_16 (by decide) ?_
    exact fw_reti C hr hlk rfl hP hS (⟨b2i_f (fIn_lt c_1), rfl⟩) (Nat.le_of_ble_eq_true rfl) (Nat.le_of_ble_eq_true rfl) dX5_isThing_17
  · refine lv_iload_n hx hb dX5_isThing_4 rfl (lv_at hl 1 rfl) ?_
    refine lv_aload_n hx hb dX5_isThing_5 rfl (lv_at hl 0 rfl) ?_
    refine gf_X5_91 C hP h20 rfl rfl dX5_isThing_6 ?_
    refine lv_icmp_ge (tgt := 16) hx hb dX5_isThing_9 (by decide) (fun c_9 => ?_) (fun c_9 => ?_)
    · refine lv_iconst (v := 0) hx hb dX5_isThing_16 (by decide) ?_
      exact fw_reti C hr hlk rfl hP hS (⟨b2i_f (fIn_ge (by omega) c_9), rfl⟩) (Nat.le_of_ble_eq_true rfl) (Nat.le_of_ble_eq_true rfl) dX5_isThing_17
    · refine lv_iconst (v := 1) hx hb dX5_isThing_12 (by decide) ?_
      refine lv_goto (tgt := 17) hx hb dX5_isThing_13 (by decide) ?_
      exact fw_reti C hr hlk rfl hP hS (⟨b2i_t (fIn_in (by omega) c_1 c_9), rfl⟩) (Nat.le_of_ble_eq_true rfl) (Nat.le_of_ble_eq_true rfl) dX5_isThing_17
set_option maxHeartbeats 4000000 in
set_option maxRecDepth 100000 in
theorem k_X5_isTen (l : Launch) (Γ : FG) (w : FW) (x : Int32) : Met l yX5_isTen (ws_ yX5_isTen cX5_isTen 1 (some .boolean)) (rmD 0 0 0) (va_Pc [.int x] (fI Γ w)) (va_Qi (fun r w1 => r = b2i (fIn x 10) ∧ w1 = w) (fI Γ) (fA Γ)) 0 0 (fA Γ) := by
  refine fw_met (by decide) (Nat.le_of_ble_eq_true rfl) ?_
  intro p e s m below meth c ls C hP hS hr hlk hin hl
  have C : fC p s m [.int x].toArray c cX5_isTen 1 RX5 Γ := C
  have hx := C.1.1
  have hb := C.1.2.1
  have hl : lv_has ls 1 [(0, .int x)] := hl
  refine lv_iload_n hx hb dX5_isTen_0 rfl (lv_at hl 0 rfl) ?_
  refine lv_if_lt (tgt := 14) hx hb dX5_isTen_1 (by decide) (fun c_1 => ?_) (fun c_1 => ?_)
  · refine lv_iconst (v := 0) hx hb dX5_isTen_14 (by decide) ?_
    exact fw_reti C hr hlk rfl hP hS (⟨b2i_f (fIn_lt c_1), rfl⟩) (Nat.le_of_ble_eq_true rfl) (Nat.le_of_ble_eq_true rfl) dX5_isTen_15
  · refine lv_iload_n hx hb dX5_isTen_4 rfl (lv_at hl 0 rfl) ?_
    refine lv_bipush (v := nI 10) hx hb dX5_isTen_5 (by decide) ?_
    refine lv_icmp_ge (tgt := 14) hx hb dX5_isTen_7 (by decide) (fun c_7 => ?_) (fun c_7 => ?_)
    · refine lv_iconst (v := 0) hx hb dX5_isTen_14 (by decide) ?_
      exact fw_reti C hr hlk rfl hP hS (⟨b2i_f (fIn_ge (by decide) c_7), rfl⟩) (Nat.le_of_ble_eq_true rfl) (Nat.le_of_ble_eq_true rfl) dX5_isTen_15
    · refine lv_iconst (v := 1) hx hb dX5_isTen_10 (by decide) ?_
      refine lv_goto (tgt := 15) hx hb dX5_isTen_11 (by decide) ?_
      exact fw_reti C hr hlk rfl hP hS (⟨b2i_t (fIn_in (by decide) c_1 c_7), rfl⟩) (Nat.le_of_ble_eq_true rfl) (Nat.le_of_ble_eq_true rfl) dX5_isTen_15
set_option maxHeartbeats 4000000 in
set_option maxRecDepth 100000 in
theorem k_X5_isSecond (l : Launch) (Γ : FG) (w : FW) (x : Int64) : Met l yX5_isSecond (ws_ yX5_isSecond cX5_isSecond 2 (some .boolean)) (rmD 0 0 0) (va_Pc [.long x] (fI Γ w)) (va_Qi (fun r w1 => r = b2i (isSec x) ∧ w1 = w) (fI Γ) (fA Γ)) 0 0 (fA Γ) := by
  refine fw_met (by decide) (Nat.le_of_ble_eq_true rfl) ?_
  intro p e s m below meth c ls C hP hS hr hlk hin hl
  have C : fC p s m [.long x].toArray c cX5_isSecond 2 RX5 Γ := C
  have hx := C.1.1
  have hb := C.1.2.1
  have hl : lv_has ls 2 [(0, .long x)] := hl
  refine lv_lload_n hx hb dX5_isSecond_0 rfl (lv_at hl 0 rfl) ?_
  refine lv_lconst (v := 0) hx hb dX5_isSecond_1 (by decide) ?_
  refine W.lcmp hx hb dX5_isSecond_2 ?_
  refine fw_llt (tgt := 18) hx hb dX5_isSecond_3 (by decide) (fun c_3 => ?_) (fun c_3 => ?_)
  · refine lv_iconst (v := 0) hx hb dX5_isSecond_18 (by decide) ?_
    exact fw_reti C hr hlk rfl hP hS (⟨b2i_f (isS_lt c_3), rfl⟩) (Nat.le_of_ble_eq_true rfl) (Nat.le_of_ble_eq_true rfl) dX5_isSecond_19
  · refine lv_lload_n hx hb dX5_isSecond_6 rfl (lv_at hl 0 rfl) ?_
    refine lv_ldc2 hx hb C.1.2.2.2.1 (C.1.2.2.2.2 _ qk_X5_94) dX5_isSecond_7 ?_
    refine W.lcmp hx hb dX5_isSecond_10 ?_
    refine fw_lgt (tgt := 18) hx hb dX5_isSecond_11 (by decide) (fun c_11 => ?_) (fun c_11 => ?_)
    · refine lv_iconst (v := 0) hx hb dX5_isSecond_18 (by decide) ?_
      exact fw_reti C hr hlk rfl hP hS (⟨b2i_f (isS_gt c_11), rfl⟩) (Nat.le_of_ble_eq_true rfl) (Nat.le_of_ble_eq_true rfl) dX5_isSecond_19
    · refine lv_iconst (v := 1) hx hb dX5_isSecond_14 (by decide) ?_
      refine lv_goto (tgt := 19) hx hb dX5_isSecond_15 (by decide) ?_
      exact fw_reti C hr hlk rfl hP hS (⟨b2i_t (isS_t (Int64.not_lt.mp c_3) (Int64.not_lt.mp c_11)), rfl⟩) (Nat.le_of_ble_eq_true rfl) (Nat.le_of_ble_eq_true rfl) dX5_isSecond_19
set_option maxHeartbeats 4000000 in
set_option maxRecDepth 100000 in
theorem k_X5_stands (l : Launch) (Γ : FG) (w : FW) (σ : St) (th : Int32) (z : Bool) (i : Nat) (hI : Inv σ) (hi : i < s_ns σ) (h20 : w.2 20 0 = some (oMo σ w th z)) (mT : RmT σ w) (mS : RmS σ w) : Met l yX5_stands (ws_ yX5_stands cX5_stands 4 (some .boolean)) (rmD 0 0 0) (va_Pc [.ref (w.1 20 0), .int (nI i)] (fI Γ w)) (va_Qi (fun r w1 => r = b2i (s_sd σ i) ∧ w1 = w) (fI Γ) (fA Γ)) 0 0 (fA Γ) := by
  refine fw_met (by decide) (Nat.le_of_ble_eq_true rfl) ?_
  intro p e s m below meth c ls C hP hS hr hlk hin hl
  have C : fC p s m [.ref (w.1 20 0), .int (nI i)].toArray c cX5_stands 4 RX5 Γ := C
  have hx := C.1.1
  have hb := C.1.2.1
  have hl : lv_has ls 4 [(0, .ref (w.1 20 0)), (1, .int (nI i))] := hl
  obtain ⟨hs1, hs2, hs3⟩ := hI.2.2.2.2.2.1 i hi
  have hnt : s_nt σ ≤ 16 := hI.1.2.2.1
  have hns : s_ns σ ≤ 400 := hI.1.2.2.2.1
  obtain ⟨⟨f37, g37, v37⟩, ⟨f38, g38, v38⟩, ⟨f39, g39, v39⟩, ⟨f40, g40, v40⟩, ⟨f41, g41, v41⟩, ⟨f42, g42, v42⟩, ⟨f43, g43, v43⟩, ⟨f44, g44, v44⟩⟩ := id mT
  obtain ⟨⟨f46, g46, v46⟩, ⟨f47, g47, v47⟩, ⟨f48, g48, v48⟩, ⟨f49, g49, v49⟩, ⟨f50, g50, v50⟩, ⟨f52, g52, v52⟩⟩ := id mS
  refine lv_aload_n hx hb dX5_stands_0 rfl (lv_at hl 0 rfl) ?_
  refine gf_X5_59 C hP h20 rfl rfl dX5_stands_1 ?_
  refine lv_iload_n hx hb dX5_stands_4 rfl (lv_at hl 1 rfl) ?_
  refine fw_zald C hP g50 rfl i rfl (by omega) (by decide) dX5_stands_5 ?_
  refine fw_E (show f50 i = b2i (s_sg σ i) from v50 i (by omega)) ?_
  refine fw_ineB (tgt := 13) hx hb dX5_stands_6 (by decide) (fun c_6 => ?_) (fun c_6 => ?_)
  · refine lv_iconst (v := 0) hx hb dX5_stands_13 (by decide) ?_
    refine lv_istore_n (lv' := [(2, .int 0), (0, .ref (w.1 20 0)), (1, .int (nI i))]) hx hb dX5_stands_14 rfl hl (by decide) rfl (fun ls hl => ?_)
    refine lv_iconst (v := nI 0) hx hb dX5_stands_15 (by decide) ?_
    refine lv_istore_n (lv' := [(3, .int (nI 0)), (2, .int 0), (0, .ref (w.1 20 0)), (1, .int (nI i))]) hx hb dX5_stands_16 rfl hl (by decide) rfl (fun ls hl => ?_)
    refine W.widen (k := 0) (n := 0) (Nat.le_of_ble_eq_true rfl) (Nat.le_of_ble_eq_true rfl) ?_
    have loop : ∀ (fu : Nat) (k : Nat) (v : Int32) (H : Heap) (locs : List Loc) (ls : Array Slot), 8 - k < fu → (k ≤ 8) → (v = b2i (!s_sg σ i && eqw (s_sw σ i) (s_dg σ (s_st σ i)) k)) → fP Γ w H → va_S (fA Γ) s.heap H locs → lv_has ls 4 [(3, .int (nI k)), (2, .int v), (0, .ref (w.1 20 0)), (1, .int (nI i))] → W p l e (rmD 0 0 0) s m [.ref (w.1 20 0), .int (nI i)].toArray below meth c H locs 0 0 (MQ below (va_Qi (fun r w1 => r = b2i (s_sd σ i) ∧ w1 = w) (fI Γ) (fA Γ)) [.ref (w.1 20 0), .int (nI i)].toArray s 0 0 (fA Γ)) (F0 m 17 ls []) := by
      intro fu
      induction fu with
      | zero =>
        intro k v H locs ls hf
        exact absurd hf (Nat.not_lt_zero _)
      | succ fu ih =>
        intro k v H locs ls hf hk hz hP hS hl
        subst hz
        refine lv_iload_n hx hb dX5_stands_17 rfl (lv_at hl 0 rfl) ?_
        refine lv_bipush (v := nI 8) hx hb dX5_stands_18 (by decide) ?_
        refine fw_geN (tgt := 69) hx hb (by omega) (by omega) dX5_stands_20 (by decide) (fun c_20 => ?_) (fun c_20 => ?_)
        · refine lv_iload_n hx hb dX5_stands_69 rfl (lv_at hl 1 rfl) ?_
          obtain rfl : k = 8 := by omega
          exact fw_reti C hr hlk (b2i_nar _) hP hS ⟨rfl, rfl⟩ (Nat.le_of_ble_eq_true rfl) (Nat.le_of_ble_eq_true rfl) dX5_stands_70
        · refine lv_iload_n hx hb dX5_stands_23 rfl (lv_at hl 1 rfl) ?_
          refine fw_ieqB (tgt := 61) hx hb dX5_stands_24 (by decide) (fun c_24 => ?_) (fun c_24 => ?_)
          · refine lv_iconst (v := 0) hx hb dX5_stands_61 (by decide) ?_
            refine lv_istore_n (lv' := [(2, .int 0), (3, .int (nI k)), (0, .ref (w.1 20 0)), (1, .int (nI i))]) hx hb dX5_stands_62 rfl hl (by decide) rfl (fun ls hl => ?_)
            refine lv_iinc (v := nI (k + 1)) (lv' := [(3, .int (nI (k + 1))), (2, .int 0), (0, .ref (w.1 20 0)), (1, .int (nI i))]) hx hb dX5_stands_63 hl (k := 1) rfl (by rw [show Int32.ofInt 1 = nI 1 from rfl, nI_add]) (by decide) rfl (fun ls hl => ?_)
            refine lv_goto (tgt := 17) hx hb dX5_stands_66 (by decide) ?_
            refine W.widen (k := 0) (n := 0) (Nat.le_of_ble_eq_true rfl) (Nat.le_of_ble_eq_true rfl) ?_
            exact ih (k + 1) 0 H locs ls (by omega) (by omega) (b2i_f (by rw [eqw, ← Bool.and_assoc, c_24]; rfl)) hP hS (lv_sub hl [0, 1, 2, 3] rfl)
          · refine lv_aload_n hx hb dX5_stands_27 rfl (lv_at hl 2 rfl) ?_
            refine gf_X5_56 C hP h20 rfl rfl dX5_stands_28 ?_
            refine lv_bipush (v := nI 8) hx hb dX5_stands_31 (by decide) ?_
            refine lv_iload_n hx hb dX5_stands_33 rfl (lv_at hl 3 rfl) ?_
            refine fw_mulN hx hb dX5_stands_34 ?_
            refine lv_iload_n hx hb dX5_stands_35 rfl (lv_at hl 0 rfl) ?_
            refine fw_addN hx hb dX5_stands_36 ?_
            refine fw_iald C hP g49 rfl (8 * i + k) rfl (by omega) (by decide) dX5_stands_37 ?_
            refine fw_E (show f49 (8 * i + k) = s_sw σ i k from v49 i (by omega) k (by omega)) ?_
            refine lv_aload_n hx hb dX5_stands_38 rfl (lv_at hl 2 rfl) ?_
            refine gf_X5_29 C hP h20 rfl rfl dX5_stands_39 ?_
            refine lv_bipush (v := nI 8) hx hb dX5_stands_42 (by decide) ?_
            refine lv_aload_n hx hb dX5_stands_44 rfl (lv_at hl 2 rfl) ?_
            refine gf_X5_47 C hP h20 rfl rfl dX5_stands_45 ?_
            refine lv_iload_n hx hb dX5_stands_48 rfl (lv_at hl 3 rfl) ?_
            refine fw_iald C hP g46 rfl i rfl (by omega) (by decide) dX5_stands_49 ?_
            refine fw_E (show f46 i = nI (s_st σ i) from v46 i (by omega)) ?_
            refine fw_mulN hx hb dX5_stands_50 ?_
            refine lv_iload_n hx hb dX5_stands_51 rfl (lv_at hl 0 rfl) ?_
            refine fw_addN hx hb dX5_stands_52 ?_
            refine fw_iald C hP g39 rfl (8 * (s_st σ i) + k) rfl (by omega) (by decide) dX5_stands_53 ?_
            refine fw_E (show f39 (8 * (s_st σ i) + k) = s_dg σ (s_st σ i) k from v39 (s_st σ i) (by omega) k (by omega)) ?_
            refine lv_icmp_ne (tgt := 61) hx hb dX5_stands_54 (by decide) (fun c_54 => ?_) (fun c_54 => ?_)
            · refine lv_iconst (v := 0) hx hb dX5_stands_61 (by decide) ?_
              refine lv_istore_n (lv' := [(2, .int 0), (3, .int (nI k)), (0, .ref (w.1 20 0)), (1, .int (nI i))]) hx hb dX5_stands_62 rfl hl (by decide) rfl (fun ls hl => ?_)
              refine lv_iinc (v := nI (k + 1)) (lv' := [(3, .int (nI (k + 1))), (2, .int 0), (0, .ref (w.1 20 0)), (1, .int (nI i))]) hx hb dX5_stands_63 hl (k := 1) rfl (by rw [show Int32.ofInt 1 = nI 1 from rfl, nI_add]) (by decide) rfl (fun ls hl => ?_)
              refine lv_goto (tgt := 17) hx hb dX5_stands_66 (by decide) ?_
              refine W.widen (k := 0) (n := 0) (Nat.le_of_ble_eq_true rfl) (Nat.le_of_ble_eq_true rfl) ?_
              exact ih (k + 1) 0 H locs ls (by omega) (by omega) (b2i_f (by rw [eqw, decide_eq_false c_54, Bool.and_false, Bool.and_false])) hP hS (lv_sub hl [0, 1, 2, 3] rfl)
            · refine lv_iconst (v := 1) hx hb dX5_stands_57 (by decide) ?_
              refine lv_goto (tgt := 62) hx hb dX5_stands_58 (by decide) ?_
              refine lv_istore_n (lv' := [(2, .int 1), (3, .int (nI k)), (0, .ref (w.1 20 0)), (1, .int (nI i))]) hx hb dX5_stands_62 rfl hl (by decide) rfl (fun ls hl => ?_)
              refine lv_iinc (v := nI (k + 1)) (lv' := [(3, .int (nI (k + 1))), (2, .int 1), (0, .ref (w.1 20 0)), (1, .int (nI i))]) hx hb dX5_stands_63 hl (k := 1) rfl (by rw [show Int32.ofInt 1 = nI 1 from rfl, nI_add]) (by decide) rfl (fun ls hl => ?_)
              refine lv_goto (tgt := 17) hx hb dX5_stands_66 (by decide) ?_
              refine W.widen (k := 0) (n := 0) (Nat.le_of_ble_eq_true rfl) (Nat.le_of_ble_eq_true rfl) ?_
              exact ih (k + 1) 1 H locs ls (by omega) (by omega) (b2i_t (by rw [eqw, decide_eq_true c_54, Bool.and_true]; exact c_24)) hP hS (lv_sub hl [0, 1, 2, 3] rfl)
    exact loop 9 0 0 _ _ _ (by omega) (by omega) (b2i_f (by rw [c_6]; rfl)) hP hS (lv_sub hl [0, 1, 2, 3] rfl)
  · refine lv_iconst (v := 1) hx hb dX5_stands_9 (by decide) ?_
    refine lv_goto (tgt := 14) hx hb dX5_stands_10 (by decide) ?_
    refine lv_istore_n (lv' := [(2, .int 1), (0, .ref (w.1 20 0)), (1, .int (nI i))]) hx hb dX5_stands_14 rfl hl (by decide) rfl (fun ls hl => ?_)
    refine lv_iconst (v := nI 0) hx hb dX5_stands_15 (by decide) ?_
    refine lv_istore_n (lv' := [(3, .int (nI 0)), (2, .int 1), (0, .ref (w.1 20 0)), (1, .int (nI i))]) hx hb dX5_stands_16 rfl hl (by decide) rfl (fun ls hl => ?_)
    refine W.widen (k := 0) (n := 0) (Nat.le_of_ble_eq_true rfl) (Nat.le_of_ble_eq_true rfl) ?_
    have loop : ∀ (fu : Nat) (k : Nat) (v : Int32) (H : Heap) (locs : List Loc) (ls : Array Slot), 8 - k < fu → (k ≤ 8) → (v = b2i (!s_sg σ i && eqw (s_sw σ i) (s_dg σ (s_st σ i)) k)) → fP Γ w H → va_S (fA Γ) s.heap H locs → lv_has ls 4 [(3, .int (nI k)), (2, .int v), (0, .ref (w.1 20 0)), (1, .int (nI i))] → W p l e (rmD 0 0 0) s m [.ref (w.1 20 0), .int (nI i)].toArray below meth c H locs 0 0 (MQ below (va_Qi (fun r w1 => r = b2i (s_sd σ i) ∧ w1 = w) (fI Γ) (fA Γ)) [.ref (w.1 20 0), .int (nI i)].toArray s 0 0 (fA Γ)) (F0 m 17 ls []) := by
      intro fu
      induction fu with
      | zero =>
        intro k v H locs ls hf
        exact absurd hf (Nat.not_lt_zero _)
      | succ fu ih =>
        intro k v H locs ls hf hk hz hP hS hl
        subst hz
        refine lv_iload_n hx hb dX5_stands_17 rfl (lv_at hl 0 rfl) ?_
        refine lv_bipush (v := nI 8) hx hb dX5_stands_18 (by decide) ?_
        refine fw_geN (tgt := 69) hx hb (by omega) (by omega) dX5_stands_20 (by decide) (fun c_20 => ?_) (fun c_20 => ?_)
        · refine lv_iload_n hx hb dX5_stands_69 rfl (lv_at hl 1 rfl) ?_
          obtain rfl : k = 8 := by omega
          exact fw_reti C hr hlk (b2i_nar _) hP hS ⟨rfl, rfl⟩ (Nat.le_of_ble_eq_true rfl) (Nat.le_of_ble_eq_true rfl) dX5_stands_70
        · refine lv_iload_n hx hb dX5_stands_23 rfl (lv_at hl 1 rfl) ?_
          refine fw_ieqB (tgt := 61) hx hb dX5_stands_24 (by decide) (fun c_24 => ?_) (fun c_24 => ?_)
          · refine lv_iconst (v := 0) hx hb dX5_stands_61 (by decide) ?_
            refine lv_istore_n (lv' := [(2, .int 0), (3, .int (nI k)), (0, .ref (w.1 20 0)), (1, .int (nI i))]) hx hb dX5_stands_62 rfl hl (by decide) rfl (fun ls hl => ?_)
            refine lv_iinc (v := nI (k + 1)) (lv' := [(3, .int (nI (k + 1))), (2, .int 0), (0, .ref (w.1 20 0)), (1, .int (nI i))]) hx hb dX5_stands_63 hl (k := 1) rfl (by rw [show Int32.ofInt 1 = nI 1 from rfl, nI_add]) (by decide) rfl (fun ls hl => ?_)
            refine lv_goto (tgt := 17) hx hb dX5_stands_66 (by decide) ?_
            refine W.widen (k := 0) (n := 0) (Nat.le_of_ble_eq_true rfl) (Nat.le_of_ble_eq_true rfl) ?_
            exact ih (k + 1) 0 H locs ls (by omega) (by omega) (b2i_f (by rw [eqw, ← Bool.and_assoc, c_24]; rfl)) hP hS (lv_sub hl [0, 1, 2, 3] rfl)
          · refine lv_aload_n hx hb dX5_stands_27 rfl (lv_at hl 2 rfl) ?_
            refine gf_X5_56 C hP h20 rfl rfl dX5_stands_28 ?_
            refine lv_bipush (v := nI 8) hx hb dX5_stands_31 (by decide) ?_
            refine lv_iload_n hx hb dX5_stands_33 rfl (lv_at hl 3 rfl) ?_
            refine fw_mulN hx hb dX5_stands_34 ?_
            refine lv_iload_n hx hb dX5_stands_35 rfl (lv_at hl 0 rfl) ?_
            refine fw_addN hx hb dX5_stands_36 ?_
            refine fw_iald C hP g49 rfl (8 * i + k) rfl (by omega) (by decide) dX5_stands_37 ?_
            refine fw_E (show f49 (8 * i + k) = s_sw σ i k from v49 i (by omega) k (by omega)) ?_
            refine lv_aload_n hx hb dX5_stands_38 rfl (lv_at hl 2 rfl) ?_
            refine gf_X5_29 C hP h20 rfl rfl dX5_stands_39 ?_
            refine lv_bipush (v := nI 8) hx hb dX5_stands_42 (by decide) ?_
            refine lv_aload_n hx hb dX5_stands_44 rfl (lv_at hl 2 rfl) ?_
            refine gf_X5_47 C hP h20 rfl rfl dX5_stands_45 ?_
            refine lv_iload_n hx hb dX5_stands_48 rfl (lv_at hl 3 rfl) ?_
            refine fw_iald C hP g46 rfl i rfl (by omega) (by decide) dX5_stands_49 ?_
            refine fw_E (show f46 i = nI (s_st σ i) from v46 i (by omega)) ?_
            refine fw_mulN hx hb dX5_stands_50 ?_
            refine lv_iload_n hx hb dX5_stands_51 rfl (lv_at hl 0 rfl) ?_
            refine fw_addN hx hb dX5_stands_52 ?_
            refine fw_iald C hP g39 rfl (8 * (s_st σ i) + k) rfl (by omega) (by decide) dX5_stands_53 ?_
            refine fw_E (show f39 (8 * (s_st σ i) + k) = s_dg σ (s_st σ i) k from v39 (s_st σ i) (by omega) k (by omega)) ?_
            refine lv_icmp_ne (tgt := 61) hx hb dX5_stands_54 (by decide) (fun c_54 => ?_) (fun c_54 => ?_)
            · refine lv_iconst (v := 0) hx hb dX5_stands_61 (by decide) ?_
              refine lv_istore_n (lv' := [(2, .int 0), (3, .int (nI k)), (0, .ref (w.1 20 0)), (1, .int (nI i))]) hx hb dX5_stands_62 rfl hl (by decide) rfl (fun ls hl => ?_)
              refine lv_iinc (v := nI (k + 1)) (lv' := [(3, .int (nI (k + 1))), (2, .int 0), (0, .ref (w.1 20 0)), (1, .int (nI i))]) hx hb dX5_stands_63 hl (k := 1) rfl (by rw [show Int32.ofInt 1 = nI 1 from rfl, nI_add]) (by decide) rfl (fun ls hl => ?_)
              refine lv_goto (tgt := 17) hx hb dX5_stands_66 (by decide) ?_
              refine W.widen (k := 0) (n := 0) (Nat.le_of_ble_eq_true rfl) (Nat.le_of_ble_eq_true rfl) ?_
              exact ih (k + 1) 0 H locs ls (by omega) (by omega) (b2i_f (by rw [eqw, decide_eq_false c_54, Bool.and_false, Bool.and_false])) hP hS (lv_sub hl [0, 1, 2, 3] rfl)
            · refine lv_iconst (v := 1) hx hb dX5_stands_57 (by decide) ?_
              refine lv_goto (tgt := 62) hx hb dX5_stands_58 (by decide) ?_
              refine lv_istore_n (lv' := [(2, .int 1), (3, .int (nI k)), (0, .ref (w.1 20 0)), (1, .int (nI i))]) hx hb dX5_stands_62 rfl hl (by decide) rfl (fun ls hl => ?_)
              refine lv_iinc (v := nI (k + 1)) (lv' := [(3, .int (nI (k + 1))), (2, .int 1), (0, .ref (w.1 20 0)), (1, .int (nI i))]) hx hb dX5_stands_63 hl (k := 1) rfl (by rw [show Int32.ofInt 1 = nI 1 from rfl, nI_add]) (by decide) rfl (fun ls hl => ?_)
              refine lv_goto (tgt := 17) hx hb dX5_stands_66 (by decide) ?_
              refine W.widen (k := 0) (n := 0) (Nat.le_of_ble_eq_true rfl) (Nat.le_of_ble_eq_true rfl) ?_
              exact ih (k + 1) 1 H locs ls (by omega) (by omega) (b2i_t (by rw [eqw, decide_eq_true c_54, Bool.and_true]; exact c_24)) hP hS (lv_sub hl [0, 1, 2, 3] rfl)
    exact loop 9 0 1 _ _ _ (by omega) (by omega) (b2i_t (by rw [c_6]; rfl)) hP hS (lv_sub hl [0, 1, 2, 3] rfl)
set_option maxHeartbeats 4000000 in
set_option maxRecDepth 100000 in
theorem k_X5_has (l : Launch) (Γ : FG) (w : FW) (σ : St) (th : Int32) (z : Bool) (t b : Nat) (a : Int32) (o : Option Nat) (ht : t < 16) (hb9 : b < 10) (ho : ∀ i, i < s_ns σ → (a = -1 → om σ o i = true) ∧ (a ≠ -1 → (nI (s_sp σ i) = a ↔ om σ o i = true))) (hI : Inv σ) (h20 : w.2 20 0 = some (oMo σ w th z)) (mT : RmT σ w) (mS : RmS σ w) : Met l yX5_has (ws_ yX5_has cX5_has 6 (some .boolean)) (rmD 1 0 0) (va_Pc [.ref (w.1 20 0), .int (nI t), .int (nI b), .int a] (fI Γ w)) (va_Qi (fun r w1 => r = b2i (s_hs σ t b o (s_ns σ)) ∧ w1 = w) (fI Γ) (fA Γ)) 0 0 (fA Γ) := by
  refine fw_met (by decide) (Nat.le_of_ble_eq_true rfl) ?_
  intro p e s m below meth c ls C hP hS hr hlk hin hl
  have C : fC p s m [.ref (w.1 20 0), .int (nI t), .int (nI b), .int a].toArray c cX5_has 6 RX5 Γ := C
  have hx := C.1.1
  have hb := C.1.2.1
  have hl : lv_has ls 6 [(0, .ref (w.1 20 0)), (1, .int (nI t)), (2, .int (nI b)), (3, .int a)] := hl
  have hns : s_ns σ ≤ 400 := hI.1.2.2.2.1
  have hnt : s_nt σ ≤ 16 := hI.1.2.2.1
  obtain ⟨⟨f37, g37, v37⟩, ⟨f38, g38, v38⟩, ⟨f39, g39, v39⟩, ⟨f40, g40, v40⟩, ⟨f41, g41, v41⟩, ⟨f42, g42, v42⟩, ⟨f43, g43, v43⟩, ⟨f44, g44, v44⟩⟩ := id mT
  obtain ⟨⟨f46, g46, v46⟩, ⟨f47, g47, v47⟩, ⟨f48, g48, v48⟩, ⟨f49, g49, v49⟩, ⟨f50, g50, v50⟩, ⟨f52, g52, v52⟩⟩ := id mS
  refine lv_iconst (v := 0) hx hb dX5_has_0 (by decide) ?_
  refine lv_istore (lv' := [(4, .int 0), (0, .ref (w.1 20 0)), (1, .int (nI t)), (2, .int (nI b)), (3, .int a)]) hx hb dX5_has_1 hl (by decide) rfl (fun ls hl => ?_)
  refine lv_iconst (v := nI 0) hx hb dX5_has_3 (by decide) ?_
  refine lv_istore (lv' := [(5, .int (nI 0)), (4, .int 0), (0, .ref (w.1 20 0)), (1, .int (nI t)), (2, .int (nI b)), (3, .int a)]) hx hb dX5_has_4 hl (by decide) rfl (fun ls hl => ?_)
  refine W.widen (k := 0) (n := 0) (Nat.le_of_ble_eq_true rfl) (Nat.le_of_ble_eq_true rfl) ?_
  have loop : ∀ (fu : Nat) (i : Nat) (v : Int32) (H : Heap) (locs : List Loc) (ls : Array Slot), s_ns σ - i < fu → (i ≤ s_ns σ) → (v = b2i (s_hs σ t b o i)) → fP Γ w H → va_S (fA Γ) s.heap H locs → lv_has ls 6 [(5, .int (nI i)), (4, .int v), (0, .ref (w.1 20 0)), (1, .int (nI t)), (2, .int (nI b)), (3, .int a)] → W p l e (rmD 1 0 0) s m [.ref (w.1 20 0), .int (nI t), .int (nI b), .int a].toArray below meth c H locs 0 0 (MQ below (va_Qi (fun r w1 => r = b2i (s_hs σ t b o (s_ns σ)) ∧ w1 = w) (fI Γ) (fA Γ)) [.ref (w.1 20 0), .int (nI t), .int (nI b), .int a].toArray s 0 0 (fA Γ)) (F0 m 6 ls []) := by
    intro fu
    induction fu with
    | zero =>
      intro i v H locs ls hf
      exact absurd hf (Nat.not_lt_zero _)
    | succ fu ih =>
      intro i v H locs ls hf hi hz hP hS hl
      subst hz
      refine lv_iload hx hb dX5_has_6 (lv_at hl 0 rfl) ?_
      refine lv_aload_n hx hb dX5_has_8 rfl (lv_at hl 2 rfl) ?_
      refine gf_X5_117 C hP h20 rfl rfl dX5_has_9 ?_
      refine fw_geN (tgt := 80) hx hb (by omega) (by omega) dX5_has_12 (by decide) (fun c_12 => ?_) (fun c_12 => ?_)
      · refine lv_iload hx hb dX5_has_80 (lv_at hl 1 rfl) ?_
        obtain rfl : i = s_ns σ := by omega
        exact fw_reti C hr hlk (b2i_nar _) hP hS ⟨rfl, rfl⟩ (Nat.le_of_ble_eq_true rfl) (Nat.le_of_ble_eq_true rfl) dX5_has_82
      · obtain ⟨hs1, hs2, hs3⟩ := hI.2.2.2.2.2.1 i (by omega)
        refine lv_iload hx hb dX5_has_15 (lv_at hl 1 rfl) ?_
        refine fw_ineB (tgt := 67) hx hb dX5_has_17 (by decide) (fun c_17 => ?_) (fun c_17 => ?_)
        · refine lv_iconst (v := 1) hx hb dX5_has_67 (by decide) ?_
          refine lv_goto (tgt := 72) hx hb dX5_has_68 (by decide) ?_
          refine lv_istore (lv' := [(4, .int 1), (5, .int (nI i)), (0, .ref (w.1 20 0)), (1, .int (nI t)), (2, .int (nI b)), (3, .int a)]) hx hb dX5_has_72 hl (by decide) rfl (fun ls hl => ?_)
          refine lv_iinc (v := nI (i + 1)) (lv' := [(5, .int (nI (i + 1))), (4, .int 1), (0, .ref (w.1 20 0)), (1, .int (nI t)), (2, .int (nI b)), (3, .int a)]) hx hb dX5_has_74 hl (k := 1) rfl (by rw [show Int32.ofInt 1 = nI 1 from rfl, nI_add]) (by decide) rfl (fun ls hl => ?_)
          refine lv_goto (tgt := 6) hx hb dX5_has_77 (by decide) ?_
          refine W.widen (k := 0) (n := 0) (Nat.le_of_ble_eq_true rfl) (Nat.le_of_ble_eq_true rfl) ?_
          exact ih (i + 1) 1 H locs ls (by omega) (by omega) (b2i_t (s_hs_t c_17 (by omega))) hP hS (lv_sub hl [0, 1, 2, 3, 4, 5] rfl)
        · refine lv_aload_n hx hb dX5_has_20 rfl (lv_at hl 2 rfl) ?_
          refine gf_X5_47 C hP h20 rfl rfl dX5_has_21 ?_
          refine lv_iload hx hb dX5_has_24 (lv_at hl 0 rfl) ?_
          refine fw_iald C hP g46 rfl i rfl (by omega) (by decide) dX5_has_26 ?_
          refine fw_E (show f46 i = nI (s_st σ i) from v46 i (by omega)) ?_
          refine lv_iload_n hx hb dX5_has_27 rfl (lv_at hl 3 rfl) ?_
          refine fw_neN (tgt := 71) hx hb (by omega) (by omega) dX5_has_28 (by decide) (fun c_28 => ?_) (fun c_28 => ?_)
          · refine lv_iconst (v := 0) hx hb dX5_has_71 (by decide) ?_
            refine lv_istore (lv' := [(4, .int 0), (5, .int (nI i)), (0, .ref (w.1 20 0)), (1, .int (nI t)), (2, .int (nI b)), (3, .int a)]) hx hb dX5_has_72 hl (by decide) rfl (fun ls hl => ?_)
            refine lv_iinc (v := nI (i + 1)) (lv' := [(5, .int (nI (i + 1))), (4, .int 0), (0, .ref (w.1 20 0)), (1, .int (nI t)), (2, .int (nI b)), (3, .int a)]) hx hb dX5_has_74 hl (k := 1) rfl (by rw [show Int32.ofInt 1 = nI 1 from rfl, nI_add]) (by decide) rfl (fun ls hl => ?_)
            refine lv_goto (tgt := 6) hx hb dX5_has_77 (by decide) ?_
            refine W.widen (k := 0) (n := 0) (Nat.le_of_ble_eq_true rfl) (Nat.le_of_ble_eq_true rfl) ?_
            exact ih (i + 1) 0 H locs ls (by omega) (by omega) (b2i_f (hs_n c_17 (h1_1 c_28))) hP hS (lv_sub hl [0, 1, 2, 3, 4, 5] rfl)
          · refine lv_aload_n hx hb dX5_has_31 rfl (lv_at hl 2 rfl) ?_
            refine gf_X5_53 C hP h20 rfl rfl dX5_has_32 ?_
            refine lv_iload hx hb dX5_has_35 (lv_at hl 0 rfl) ?_
            refine fw_iald C hP g48 rfl i rfl (by omega) (by decide) dX5_has_37 ?_
            refine fw_E (show f48 i = nI (s_sm σ i) from v48 i (by omega)) ?_
            refine lv_iload_n hx hb dX5_has_38 rfl (lv_at hl 4 rfl) ?_
            refine fw_neN (tgt := 71) hx hb (by omega) (by omega) dX5_has_39 (by decide) (fun c_39 => ?_) (fun c_39 => ?_)
            · refine lv_iconst (v := 0) hx hb dX5_has_71 (by decide) ?_
              refine lv_istore (lv' := [(4, .int 0), (5, .int (nI i)), (0, .ref (w.1 20 0)), (1, .int (nI t)), (2, .int (nI b)), (3, .int a)]) hx hb dX5_has_72 hl (by decide) rfl (fun ls hl => ?_)
              refine lv_iinc (v := nI (i + 1)) (lv' := [(5, .int (nI (i + 1))), (4, .int 0), (0, .ref (w.1 20 0)), (1, .int (nI t)), (2, .int (nI b)), (3, .int a)]) hx hb dX5_has_74 hl (k := 1) rfl (by rw [show Int32.ofInt 1 = nI 1 from rfl, nI_add]) (by decide) rfl (fun ls hl => ?_)
              refine lv_goto (tgt := 6) hx hb dX5_has_77 (by decide) ?_
              refine W.widen (k := 0) (n := 0) (Nat.le_of_ble_eq_true rfl) (Nat.le_of_ble_eq_true rfl) ?_
              exact ih (i + 1) 0 H locs ls (by omega) (by omega) (b2i_f (hs_n c_17 (h1_2 c_39))) hP hS (lv_sub hl [0, 1, 2, 3, 4, 5] rfl)
            · refine lv_iload_n hx hb dX5_has_42 rfl (lv_at hl 5 rfl) ?_
              refine lv_iconst (v := (-1)) hx hb dX5_has_43 (by decide) ?_
              refine lv_icmp_eq (tgt := 58) hx hb dX5_has_44 (by decide) (fun c_44 => ?_) (fun c_44 => ?_)
              · refine lv_aload_n hx hb dX5_has_58 rfl (lv_at hl 2 rfl) ?_
                refine lv_iload hx hb dX5_has_59 (lv_at hl 0 rfl) ?_
                refine fw_ci0 (w := w) hS (fw_rV (rest := []) (As := [.int (nI i)]) C hP hS wV_X5_120 (k_X5_stands l Γ w σ th z i hI (by omega) h20 mT mS) h20 rfl rfl (fRm_mk rfl rfl (Nat.le_of_ble_eq_true rfl) (Nat.le_of_ble_eq_true rfl) (Nat.le_of_ble_eq_true rfl) (Nat.le_of_ble_eq_true rfl) (Nat.le_of_ble_eq_true rfl)) rfl hl.1 rfl dX5_has_61) (fun H locs hP hS => ?_)
                refine fw_ieqB (tgt := 71) hx hb dX5_has_64 (by decide) (fun c_64 => ?_) (fun c_64 => ?_)
                · refine lv_iconst (v := 0) hx hb dX5_has_71 (by decide) ?_
                  refine lv_istore (lv' := [(4, .int 0), (5, .int (nI i)), (0, .ref (w.1 20 0)), (1, .int (nI t)), (2, .int (nI b)), (3, .int a)]) hx hb dX5_has_72 hl (by decide) rfl (fun ls hl => ?_)
                  refine lv_iinc (v := nI (i + 1)) (lv' := [(5, .int (nI (i + 1))), (4, .int 0), (0, .ref (w.1 20 0)), (1, .int (nI t)), (2, .int (nI b)), (3, .int a)]) hx hb dX5_has_74 hl (k := 1) rfl (by rw [show Int32.ofInt 1 = nI 1 from rfl, nI_add]) (by decide) rfl (fun ls hl => ?_)
                  refine lv_goto (tgt := 6) hx hb dX5_has_77 (by decide) ?_
                  refine W.widen (k := 0) (n := 0) (Nat.le_of_ble_eq_true rfl) (Nat.le_of_ble_eq_true rfl) ?_
                  exact ih (i + 1) 0 H locs ls (by omega) (by omega) (b2i_f (hs_n c_17 (h1_4 c_64))) hP hS (lv_sub hl [0, 1, 2, 3, 4, 5] rfl)
                · refine lv_iconst (v := 1) hx hb dX5_has_67 (by decide) ?_
                  refine lv_goto (tgt := 72) hx hb dX5_has_68 (by decide) ?_
                  refine lv_istore (lv' := [(4, .int 1), (5, .int (nI i)), (0, .ref (w.1 20 0)), (1, .int (nI t)), (2, .int (nI b)), (3, .int a)]) hx hb dX5_has_72 hl (by decide) rfl (fun ls hl => ?_)
                  refine lv_iinc (v := nI (i + 1)) (lv' := [(5, .int (nI (i + 1))), (4, .int 1), (0, .ref (w.1 20 0)), (1, .int (nI t)), (2, .int (nI b)), (3, .int a)]) hx hb dX5_has_74 hl (k := 1) rfl (by rw [show Int32.ofInt 1 = nI 1 from rfl, nI_add]) (by decide) rfl (fun ls hl => ?_)
                  refine lv_goto (tgt := 6) hx hb dX5_has_77 (by decide) ?_
                  refine W.widen (k := 0) (n := 0) (Nat.le_of_ble_eq_true rfl) (Nat.le_of_ble_eq_true rfl) ?_
                  exact ih (i + 1) 1 H locs ls (by omega) (by omega) (b2i_t (hs_y (h1_5 c_28 c_39 ((ho i (by omega)).1 c_44) c_64))) hP hS (lv_sub hl [0, 1, 2, 3, 4, 5] rfl)
              · refine lv_aload_n hx hb dX5_has_47 rfl (lv_at hl 2 rfl) ?_
                refine gf_X5_50 C hP h20 rfl rfl dX5_has_48 ?_
                refine lv_iload hx hb dX5_has_51 (lv_at hl 0 rfl) ?_
                refine fw_iald C hP g47 rfl i rfl (by omega) (by decide) dX5_has_53 ?_
                refine fw_E (show f47 i = nI (s_sp σ i) from v47 i (by omega)) ?_
                refine lv_iload_n hx hb dX5_has_54 rfl (lv_at hl 5 rfl) ?_
                refine lv_icmp_ne (tgt := 71) hx hb dX5_has_55 (by decide) (fun c_55 => ?_) (fun c_55 => ?_)
                · refine lv_iconst (v := 0) hx hb dX5_has_71 (by decide) ?_
                  refine lv_istore (lv' := [(4, .int 0), (5, .int (nI i)), (0, .ref (w.1 20 0)), (1, .int (nI t)), (2, .int (nI b)), (3, .int a)]) hx hb dX5_has_72 hl (by decide) rfl (fun ls hl => ?_)
                  refine lv_iinc (v := nI (i + 1)) (lv' := [(5, .int (nI (i + 1))), (4, .int 0), (0, .ref (w.1 20 0)), (1, .int (nI t)), (2, .int (nI b)), (3, .int a)]) hx hb dX5_has_74 hl (k := 1) rfl (by rw [show Int32.ofInt 1 = nI 1 from rfl, nI_add]) (by decide) rfl (fun ls hl => ?_)
                  refine lv_goto (tgt := 6) hx hb dX5_has_77 (by decide) ?_
                  refine W.widen (k := 0) (n := 0) (Nat.le_of_ble_eq_true rfl) (Nat.le_of_ble_eq_true rfl) ?_
                  exact ih (i + 1) 0 H locs ls (by omega) (by omega) (b2i_f (hs_n c_17 (h1_3 (Bool.eq_false_iff.mpr (fun q => c_55 (((ho i (by omega)).2 c_44).mpr q)))))) hP hS (lv_sub hl [0, 1, 2, 3, 4, 5] rfl)
                · refine lv_aload_n hx hb dX5_has_58 rfl (lv_at hl 2 rfl) ?_
                  refine lv_iload hx hb dX5_has_59 (lv_at hl 0 rfl) ?_
                  refine fw_ci0 (w := w) hS (fw_rV (rest := []) (As := [.int (nI i)]) C hP hS wV_X5_120 (k_X5_stands l Γ w σ th z i hI (by omega) h20 mT mS) h20 rfl rfl (fRm_mk rfl rfl (Nat.le_of_ble_eq_true rfl) (Nat.le_of_ble_eq_true rfl) (Nat.le_of_ble_eq_true rfl) (Nat.le_of_ble_eq_true rfl) (Nat.le_of_ble_eq_true rfl)) rfl hl.1 rfl dX5_has_61) (fun H locs hP hS => ?_)
                  refine fw_ieqB (tgt := 71) hx hb dX5_has_64 (by decide) (fun c_64 => ?_) (fun c_64 => ?_)
                  · refine lv_iconst (v := 0) hx hb dX5_has_71 (by decide) ?_
                    refine lv_istore (lv' := [(4, .int 0), (5, .int (nI i)), (0, .ref (w.1 20 0)), (1, .int (nI t)), (2, .int (nI b)), (3, .int a)]) hx hb dX5_has_72 hl (by decide) rfl (fun ls hl => ?_)
                    refine lv_iinc (v := nI (i + 1)) (lv' := [(5, .int (nI (i + 1))), (4, .int 0), (0, .ref (w.1 20 0)), (1, .int (nI t)), (2, .int (nI b)), (3, .int a)]) hx hb dX5_has_74 hl (k := 1) rfl (by rw [show Int32.ofInt 1 = nI 1 from rfl, nI_add]) (by decide) rfl (fun ls hl => ?_)
                    refine lv_goto (tgt := 6) hx hb dX5_has_77 (by decide) ?_
                    refine W.widen (k := 0) (n := 0) (Nat.le_of_ble_eq_true rfl) (Nat.le_of_ble_eq_true rfl) ?_
                    exact ih (i + 1) 0 H locs ls (by omega) (by omega) (b2i_f (hs_n c_17 (h1_4 c_64))) hP hS (lv_sub hl [0, 1, 2, 3, 4, 5] rfl)
                  · refine lv_iconst (v := 1) hx hb dX5_has_67 (by decide) ?_
                    refine lv_goto (tgt := 72) hx hb dX5_has_68 (by decide) ?_
                    refine lv_istore (lv' := [(4, .int 1), (5, .int (nI i)), (0, .ref (w.1 20 0)), (1, .int (nI t)), (2, .int (nI b)), (3, .int a)]) hx hb dX5_has_72 hl (by decide) rfl (fun ls hl => ?_)
                    refine lv_iinc (v := nI (i + 1)) (lv' := [(5, .int (nI (i + 1))), (4, .int 1), (0, .ref (w.1 20 0)), (1, .int (nI t)), (2, .int (nI b)), (3, .int a)]) hx hb dX5_has_74 hl (k := 1) rfl (by rw [show Int32.ofInt 1 = nI 1 from rfl, nI_add]) (by decide) rfl (fun ls hl => ?_)
                    refine lv_goto (tgt := 6) hx hb dX5_has_77 (by decide) ?_
                    refine W.widen (k := 0) (n := 0) (Nat.le_of_ble_eq_true rfl) (Nat.le_of_ble_eq_true rfl) ?_
                    exact ih (i + 1) 1 H locs ls (by omega) (by omega) (b2i_t (hs_y (h1_5 c_28 c_39 (((ho i (by omega)).2 c_44).mp c_55) c_64))) hP hS (lv_sub hl [0, 1, 2, 3, 4, 5] rfl)
  exact loop (s_ns σ + 1) 0 0 _ _ _ (by omega) (by omega) rfl hP hS (lv_sub hl [0, 1, 2, 3, 4, 5] rfl)
theorem ho_n {σ : St} : ∀ i, i < s_ns σ → ((-1 : Int32) = -1 → om σ none i = true) ∧ ((-1 : Int32) ≠ -1 → (nI (s_sp σ i) = -1 ↔ om σ none i = true)) := fun _ _ => ⟨fun _ => rfl, fun h => absurd rfl h⟩
theorem ho_s {σ : St} (hI : Inv σ) {a : Nat} (ha : a < 2 ^ 31) : ∀ i, i < s_ns σ → (nI a = -1 → om σ (some a) i = true) ∧ (nI a ≠ -1 → (nI (s_sp σ i) = nI a ↔ om σ (some a) i = true)) := fun i hi => ⟨fun h => absurd h (nI_m1 ha), fun _ => by
  have := (hI.2.2.2.2.2.1 i hi).2.1
  rw [nI_eq (by omega) ha]
  exact ⟨fun h => decide_eq_true h, fun h => of_decide_eq_true h⟩⟩
theorem cm_s {bh : Nat → Nat → Bool} {k m b : Nat} : cmx bh (k + 1) m b = (bh m b || anyj (fun j => bh m j && cmx bh k j b) 10) := rfl
theorem an_s {f : Nat → Bool} {n : Nat} : anyj f (n + 1) = (anyj f n || f n) := rfl
set_option maxHeartbeats 4000000 in
set_option maxRecDepth 100000 in
theorem k_X5_comes0 (l : Launch) (Γ : FG) (w : FW) (σ : St) (th : Int32) (z : Bool) (a b : Nat) (ha : a < 10) (hb9 : b < 10) (h20 : w.2 20 0 = some (oMo σ w th z)) (mO : RmO σ w) : Met l yX5_comes (ws_ yX5_comes cX5_comes 6 (some .boolean)) (rmD 0 0 0) (va_Pc [.ref (w.1 20 0), .int (nI a), .int (nI b), .int (nI 0)] (fI Γ w)) (va_Qi (fun r w1 => r = b2i (cmx (s_bh σ) 0 a b) ∧ w1 = w) (fI Γ) (fA Γ)) 0 0 (fA Γ) := by
  refine fw_met (by decide) (Nat.le_of_ble_eq_true rfl) ?_
  intro p e s m below meth c ls C hP hS hr hlk hin hl
  have C : fC p s m [.ref (w.1 20 0), .int (nI a), .int (nI b), .int (nI 0)].toArray c cX5_comes 6 RX5 Γ := C
  have hx := C.1.1
  have hb := C.1.2.1
  have hl : lv_has ls 6 [(0, .ref (w.1 20 0)), (1, .int (nI a)), (2, .int (nI b)), (3, .int (nI 0))] := hl
  obtain ⟨f53, g53, v53⟩ := id mO
  refine lv_aload_n hx hb dX5_comes_0 rfl (lv_at hl 0 rfl) ?_
  refine gf_X5_66 C hP h20 rfl rfl dX5_comes_1 ?_
  refine lv_bipush (v := nI 10) hx hb dX5_comes_4 (by decide) ?_
  refine lv_iload_n hx hb dX5_comes_6 rfl (lv_at hl 1 rfl) ?_
  refine fw_mulN hx hb dX5_comes_7 ?_
  refine lv_iload_n hx hb dX5_comes_8 rfl (lv_at hl 2 rfl) ?_
  refine fw_addN hx hb dX5_comes_9 ?_
  refine fw_zald C hP g53 rfl (10 * a + b) rfl (by omega) (by decide) dX5_comes_10 ?_
  refine fw_E (show f53 (10 * a + b) = b2i (s_bh σ a b) from v53 a (by omega) b (by omega)) ?_
  refine lv_istore (lv' := [(4, .int (b2i (s_bh σ a b))), (0, .ref (w.1 20 0)), (1, .int (nI a)), (2, .int (nI b)), (3, .int (nI 0))]) hx hb dX5_comes_11 hl (by decide) rfl (fun ls hl => ?_)
  refine lv_iconst (v := nI 0) hx hb dX5_comes_13 (by decide) ?_
  refine lv_istore (lv' := [(5, .int (nI 0)), (4, .int (b2i (s_bh σ a b))), (0, .ref (w.1 20 0)), (1, .int (nI a)), (2, .int (nI b)), (3, .int (nI 0))]) hx hb dX5_comes_14 hl (by decide) rfl (fun ls hl => ?_)
  refine lv_iload hx hb dX5_comes_16 (lv_at hl 0 rfl) ?_
  refine lv_bipush (v := nI 10) hx hb dX5_comes_18 (by decide) ?_
  refine fw_geN (tgt := 73) hx hb (by omega) (by omega) dX5_comes_20 (by decide) (fun c_20 => ?_) (fun c_20 => ?_)
  · exact absurd c_20 (by omega)
  · refine lv_iload hx hb dX5_comes_23 (lv_at hl 1 rfl) ?_
    refine fw_ineB (tgt := 73) hx hb dX5_comes_25 (by decide) (fun c_25 => ?_) (fun c_25 => ?_)
    · refine lv_iload hx hb dX5_comes_73 (lv_at hl 1 rfl) ?_
      exact fw_reti C hr hlk (b2i_nar _) hP hS (⟨rfl, rfl⟩) (Nat.le_of_ble_eq_true rfl) (Nat.le_of_ble_eq_true rfl) dX5_comes_75
    · refine lv_iload_n hx hb dX5_comes_28 rfl (lv_at hl 5 rfl) ?_
      refine fw_ileN (tgt := 73) hx hb (by omega) dX5_comes_29 (by decide) (fun c_29 => ?_) (fun c_29 => ?_)
      · refine lv_iload hx hb dX5_comes_73 (lv_at hl 1 rfl) ?_
        exact fw_reti C hr hlk (b2i_nar _) hP hS (⟨rfl, rfl⟩) (Nat.le_of_ble_eq_true rfl) (Nat.le_of_ble_eq_true rfl) dX5_comes_75
      · exact absurd c_29 (by omega)
set_option maxHeartbeats 4000000 in
set_option maxRecDepth 100000 in
theorem k_X5_comesS (l : Launch) (Γ : FG) (w : FW) (σ : St) (th : Int32) (z : Bool) (kk : Nat) (hkk : kk < 10) (ihc : ∀ (a b : Nat), a < 10 → b < 10 → Met l yX5_comes (ws_ yX5_comes cX5_comes 6 (some .boolean)) (rmD kk 0 0) (va_Pc [.ref (w.1 20 0), .int (nI a), .int (nI b), .int (nI kk)] (fI Γ w)) (va_Qi (fun r w1 => r = b2i (cmx (s_bh σ) kk a b) ∧ w1 = w) (fI Γ) (fA Γ)) 0 0 (fA Γ)) (a b : Nat) (ha : a < 10) (hb9 : b < 10) (h20 : w.2 20 0 = some (oMo σ w th z)) (mO : RmO σ w) : Met l yX5_comes (ws_ yX5_comes cX5_comes 6 (some .boolean)) (rmD (kk + 1) 0 0) (va_Pc [.ref (w.1 20 0), .int (nI a), .int (nI b), .int (nI (kk + 1))] (fI Γ w)) (va_Qi (fun r w1 => r = b2i (cmx (s_bh σ) (kk + 1) a b) ∧ w1 = w) (fI Γ) (fA Γ)) 0 0 (fA Γ) := by
  refine fw_met (by decide) (Nat.le_of_ble_eq_true rfl) ?_
  intro p e s m below meth c ls C hP hS hr hlk hin hl
  have C : fC p s m [.ref (w.1 20 0), .int (nI a), .int (nI b), .int (nI (kk + 1))].toArray c cX5_comes 6 RX5 Γ := C
  have hx := C.1.1
  have hb := C.1.2.1
  have hl : lv_has ls 6 [(0, .ref (w.1 20 0)), (1, .int (nI a)), (2, .int (nI b)), (3, .int (nI (kk + 1)))] := hl
  obtain ⟨f53, g53, v53⟩ := id mO
  refine lv_aload_n hx hb dX5_comes_0 rfl (lv_at hl 0 rfl) ?_
  refine gf_X5_66 C hP h20 rfl rfl dX5_comes_1 ?_
  refine lv_bipush (v := nI 10) hx hb dX5_comes_4 (by decide) ?_
  refine lv_iload_n hx hb dX5_comes_6 rfl (lv_at hl 1 rfl) ?_
  refine fw_mulN hx hb dX5_comes_7 ?_
  refine lv_iload_n hx hb dX5_comes_8 rfl (lv_at hl 2 rfl) ?_
  refine fw_addN hx hb dX5_comes_9 ?_
  refine fw_zald C hP g53 rfl (10 * a + b) rfl (by omega) (by decide) dX5_comes_10 ?_
  refine fw_E (show f53 (10 * a + b) = b2i (s_bh σ a b) from v53 a (by omega) b (by omega)) ?_
  refine lv_istore (lv' := [(4, .int (b2i (s_bh σ a b))), (0, .ref (w.1 20 0)), (1, .int (nI a)), (2, .int (nI b)), (3, .int (nI (kk + 1)))]) hx hb dX5_comes_11 hl (by decide) rfl (fun ls hl => ?_)
  refine lv_iconst (v := nI 0) hx hb dX5_comes_13 (by decide) ?_
  refine lv_istore (lv' := [(5, .int (nI 0)), (4, .int (b2i (s_bh σ a b))), (0, .ref (w.1 20 0)), (1, .int (nI a)), (2, .int (nI b)), (3, .int (nI (kk + 1)))]) hx hb dX5_comes_14 hl (by decide) rfl (fun ls hl => ?_)
  refine W.widen (k := 0) (n := 0) (Nat.le_of_ble_eq_true rfl) (Nat.le_of_ble_eq_true rfl) ?_
  have loop : ∀ (fu : Nat) (i : Nat) (v : Int32) (H : Heap) (locs : List Loc) (ls : Array Slot), 10 - i < fu → (i ≤ 10) → (v = b2i (s_bh σ a b || anyj (fun j => s_bh σ a j && cmx (s_bh σ) kk j b) i)) → fP Γ w H → va_S (fA Γ) s.heap H locs → lv_has ls 6 [(5, .int (nI i)), (4, .int v), (0, .ref (w.1 20 0)), (1, .int (nI a)), (2, .int (nI b)), (3, .int (nI (kk + 1)))] → W p l e (rmD (kk + 1) 0 0) s m [.ref (w.1 20 0), .int (nI a), .int (nI b), .int (nI (kk + 1))].toArray below meth c H locs 0 0 (MQ below (va_Qi (fun r w1 => r = b2i (cmx (s_bh σ) (kk + 1) a b) ∧ w1 = w) (fI Γ) (fA Γ)) [.ref (w.1 20 0), .int (nI a), .int (nI b), .int (nI (kk + 1))].toArray s 0 0 (fA Γ)) (F0 m 16 ls []) := by
    intro fu
    induction fu with
    | zero =>
      intro i v H locs ls hf
      exact absurd hf (Nat.not_lt_zero _)
    | succ fu ih =>
      intro i v H locs ls hf hi hz hP hS hl
      subst hz
      refine lv_iload hx hb dX5_comes_16 (lv_at hl 0 rfl) ?_
      refine lv_bipush (v := nI 10) hx hb dX5_comes_18 (by decide) ?_
      refine fw_geN (tgt := 73) hx hb (by omega) (by omega) dX5_comes_20 (by decide) (fun c_20 => ?_) (fun c_20 => ?_)
      · refine lv_iload hx hb dX5_comes_73 (lv_at hl 1 rfl) ?_
        obtain rfl : i = 10 := by omega
        exact fw_reti C hr hlk (b2i_nar _) hP hS ⟨rfl, rfl⟩ (Nat.le_of_ble_eq_true rfl) (Nat.le_of_ble_eq_true rfl) dX5_comes_75
      · refine lv_iload hx hb dX5_comes_23 (lv_at hl 1 rfl) ?_
        refine fw_ineB (tgt := 73) hx hb dX5_comes_25 (by decide) (fun c_25 => ?_) (fun c_25 => ?_)
        · refine lv_iload hx hb dX5_comes_73 (lv_at hl 1 rfl) ?_
          have e9 : cmx (s_bh σ) (kk + 1) a b = true := by
            rw [cm_s, Bool.or_eq_true]
            rcases Bool.or_eq_true_iff.mp c_25 with q | q
            · exact Or.inl q
            · exact Or.inr (any_le q (by omega))
          exact fw_reti C hr hlk (b2i_nar _) hP hS ⟨by rw [e9, c_25], rfl⟩ (Nat.le_of_ble_eq_true rfl) (Nat.le_of_ble_eq_true rfl) dX5_comes_75
        · refine lv_iload_n hx hb dX5_comes_28 rfl (lv_at hl 5 rfl) ?_
          refine fw_ileN (tgt := 73) hx hb (by omega) dX5_comes_29 (by decide) (fun c_29 => ?_) (fun c_29 => ?_)
          · exact absurd c_29 (by omega)
          · refine lv_aload_n hx hb dX5_comes_32 rfl (lv_at hl 2 rfl) ?_
            refine gf_X5_66 C hP h20 rfl rfl dX5_comes_33 ?_
            refine lv_bipush (v := nI 10) hx hb dX5_comes_36 (by decide) ?_
            refine lv_iload_n hx hb dX5_comes_38 rfl (lv_at hl 3 rfl) ?_
            refine fw_mulN hx hb dX5_comes_39 ?_
            refine lv_iload hx hb dX5_comes_40 (lv_at hl 0 rfl) ?_
            refine fw_addN hx hb dX5_comes_42 ?_
            refine fw_zald C hP g53 rfl (10 * a + i) rfl (by omega) (by decide) dX5_comes_43 ?_
            refine fw_E (show f53 (10 * a + i) = b2i (s_bh σ a i) from v53 a (by omega) i (by omega)) ?_
            refine fw_ieqB (tgt := 64) hx hb dX5_comes_44 (by decide) (fun c_44 => ?_) (fun c_44 => ?_)
            · refine lv_iconst (v := 0) hx hb dX5_comes_64 (by decide) ?_
              refine lv_istore (lv' := [(4, .int 0), (5, .int (nI i)), (0, .ref (w.1 20 0)), (1, .int (nI a)), (2, .int (nI b)), (3, .int (nI (kk + 1)))]) hx hb dX5_comes_65 hl (by decide) rfl (fun ls hl => ?_)
              refine lv_iinc (v := nI (i + 1)) (lv' := [(5, .int (nI (i + 1))), (4, .int 0), (0, .ref (w.1 20 0)), (1, .int (nI a)), (2, .int (nI b)), (3, .int (nI (kk + 1)))]) hx hb dX5_comes_67 hl (k := 1) rfl (by rw [show Int32.ofInt 1 = nI 1 from rfl, nI_add]) (by decide) rfl (fun ls hl => ?_)
              refine lv_goto (tgt := 16) hx hb dX5_comes_70 (by decide) ?_
              refine W.widen (k := 0) (n := 0) (Nat.le_of_ble_eq_true rfl) (Nat.le_of_ble_eq_true rfl) ?_
              exact ih (i + 1) 0 H locs ls (by omega) (by omega) (b2i_f (by rw [an_s, ← Bool.or_assoc, c_25, c_44]; rfl)) hP hS (lv_sub hl [0, 1, 2, 3, 4, 5] rfl)
            · refine lv_aload_n hx hb dX5_comes_47 rfl (lv_at hl 2 rfl) ?_
              refine lv_iload hx hb dX5_comes_48 (lv_at hl 0 rfl) ?_
              refine lv_iload_n hx hb dX5_comes_50 rfl (lv_at hl 4 rfl) ?_
              refine lv_iload_n hx hb dX5_comes_51 rfl (lv_at hl 5 rfl) ?_
              refine lv_iconst (v := nI 1) hx hb dX5_comes_52 (by decide) ?_
              refine fw_subN hx hb (by omega) dX5_comes_53 ?_
              refine fw_ci0 (w := w) hS (fw_rV (rest := []) (As := [.int (nI i), .int (nI b), .int (nI ((kk + 1) - 1))]) C hP hS wV_X5_140 (ihc i b (by omega) hb9) h20 rfl rfl (fRm_mk rfl rfl (Nat.le_refl _) (by show 8 + (6 + 11) + 40 * kk ≤ 40 * (kk + 1); omega) (Nat.le_of_ble_eq_true rfl) (Nat.le_of_ble_eq_true rfl) (Nat.le_of_ble_eq_true rfl)) rfl hl.1 rfl dX5_comes_54) (fun H locs hP hS => ?_)
              refine fw_ieqB (tgt := 64) hx hb dX5_comes_57 (by decide) (fun c_57 => ?_) (fun c_57 => ?_)
              · refine lv_iconst (v := 0) hx hb dX5_comes_64 (by decide) ?_
                refine lv_istore (lv' := [(4, .int 0), (5, .int (nI i)), (0, .ref (w.1 20 0)), (1, .int (nI a)), (2, .int (nI b)), (3, .int (nI (kk + 1)))]) hx hb dX5_comes_65 hl (by decide) rfl (fun ls hl => ?_)
                refine lv_iinc (v := nI (i + 1)) (lv' := [(5, .int (nI (i + 1))), (4, .int 0), (0, .ref (w.1 20 0)), (1, .int (nI a)), (2, .int (nI b)), (3, .int (nI (kk + 1)))]) hx hb dX5_comes_67 hl (k := 1) rfl (by rw [show Int32.ofInt 1 = nI 1 from rfl, nI_add]) (by decide) rfl (fun ls hl => ?_)
                refine lv_goto (tgt := 16) hx hb dX5_comes_70 (by decide) ?_
                refine W.widen (k := 0) (n := 0) (Nat.le_of_ble_eq_true rfl) (Nat.le_of_ble_eq_true rfl) ?_
                exact ih (i + 1) 0 H locs ls (by omega) (by omega) (b2i_f (by rw [an_s, ← Bool.or_assoc, c_25, c_44, c_57]; rfl)) hP hS (lv_sub hl [0, 1, 2, 3, 4, 5] rfl)
              · refine lv_iconst (v := 1) hx hb dX5_comes_60 (by decide) ?_
                refine lv_goto (tgt := 65) hx hb dX5_comes_61 (by decide) ?_
                refine lv_istore (lv' := [(4, .int 1), (5, .int (nI i)), (0, .ref (w.1 20 0)), (1, .int (nI a)), (2, .int (nI b)), (3, .int (nI (kk + 1)))]) hx hb dX5_comes_65 hl (by decide) rfl (fun ls hl => ?_)
                refine lv_iinc (v := nI (i + 1)) (lv' := [(5, .int (nI (i + 1))), (4, .int 1), (0, .ref (w.1 20 0)), (1, .int (nI a)), (2, .int (nI b)), (3, .int (nI (kk + 1)))]) hx hb dX5_comes_67 hl (k := 1) rfl (by rw [show Int32.ofInt 1 = nI 1 from rfl, nI_add]) (by decide) rfl (fun ls hl => ?_)
                refine lv_goto (tgt := 16) hx hb dX5_comes_70 (by decide) ?_
                refine W.widen (k := 0) (n := 0) (Nat.le_of_ble_eq_true rfl) (Nat.le_of_ble_eq_true rfl) ?_
                exact ih (i + 1) 1 H locs ls (by omega) (by omega) (b2i_t (by rw [an_s, c_44, c_57]; simp)) hP hS (lv_sub hl [0, 1, 2, 3, 4, 5] rfl)
  exact loop 11 0 (b2i (s_bh σ a b)) _ _ _ (by omega) (by omega) (by rw [show anyj (fun j => s_bh σ a j && cmx (s_bh σ) kk j b) 0 = false from rfl, Bool.or_false]) hP hS (lv_sub hl [0, 1, 2, 3, 4, 5] rfl)
theorem k_X5_comes (l : Launch) (Γ : FG) (w : FW) (σ : St) (th : Int32) (z : Bool) (h20 : w.2 20 0 = some (oMo σ w th z)) (mO : RmO σ w) : ∀ (kk : Nat), kk ≤ 10 → ∀ (a b : Nat), a < 10 → b < 10 → Met l yX5_comes (ws_ yX5_comes cX5_comes 6 (some .boolean)) (rmD kk 0 0) (va_Pc [.ref (w.1 20 0), .int (nI a), .int (nI b), .int (nI kk)] (fI Γ w)) (va_Qi (fun r w1 => r = b2i (cmx (s_bh σ) kk a b) ∧ w1 = w) (fI Γ) (fA Γ)) 0 0 (fA Γ)
  | 0, _, a, b, ha, hb => k_X5_comes0 l Γ w σ th z a b ha hb h20 mO
  | k + 1, hk, a, b, ha, hb => k_X5_comesS l Γ w σ th z k (by omega) (k_X5_comes l Γ w σ th z h20 mO k (by omega)) a b ha hb h20 mO
